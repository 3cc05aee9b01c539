/-! pure: execute, both sides -/
section LL
variable {D E : DD} {v : Nat → Nat} {n nx : Nat} {p : Nat → Nat → Nat} {sf : Bool} {sv : Nat → Nat} {e f : Int} {ln : Nat} {L : Nat → Nat} {tn : Nat} {T : Nat → Nat} {K J : Nat} {G : Nat → CG} {V : Nat → Nat → Nat}
theorem m_exec_pre (hM : MR E v) (hQ : IQ E n p sf sv e f ln L tn T) (htn : tn ≤ 60) (hT : ∀ i, i < tn → 32 ≤ T i ∧ T i ≤ 126) : ∃ D3, S_X13_execute E = (cI (S_X13_commands D3) (fun r5 D4 => (if (D4.1 149) = 0 then (cI (S_X13_commands (setI D4 150 (1 : Int32))) (fun r8 D7 => (if (D7.1 140) = 0 then (cI (S_X13_ends r8 D7) (fun r11 D10 => some (0, some (.int r11), D10))) else (cI (S_X13_ends r8 (setI (setI D7 143 (r8 - (1 : Int32))) 140 (2 : Int32))) (fun r14 D13 => some (0, some (.int r14), D13)))))) else (cI (S_X13_fail (1 : Int32) (setI D4 142 (D4.1 146))) (fun r18 D17 => some (0, some (.int r18), D17)))))) ∧ RX D3 tn T ∧ D3.1 150 = z 0 ∧ D3.1 140 = z 0 ∧ MR D3 v ∧ IQ D3 n p sf sv e f ln L 0 T ∧ GM E D3 ∧ RV (D3.2.2.1 71) v := by
  obtain ⟨D1, q1, q2, q3, q4, q5, q6⟩ := ref_begins hM hQ
  obtain ⟨x1, x2, x3, x4, x5, x6⟩ := id q3
  have hfg : FG (fun k => k == 145 || k == 147 || k == 150) n0 n0 false D1 (setI (setI (setI D1 147 (D1.1 145)) 145 (0 : Int32)) 150 (0 : Int32)) := ((FG.rfl.sI rfl).sI rfl).sI rfl
  refine ⟨setI (setI (setI D1 147 (D1.1 145)) 145 (0 : Int32)) 150 (0 : Int32), ?_, ⟨?_, htn, x5.2, hT, x6⟩, rfl, q5, q2, q3.agE (fun k hk => hfg.1 k (by simp; omega)) (fun k hk => rfl) x3 ⟨rfl, fun i hi => by omega⟩, q4.trans (FG.mono hfg (fun k hk => by
    have : k < 140 := by simpa [gmI] using hk
    simp
    omega) (fun k hk => hk) (fun k hk => rfl) (fun h => h)), q6⟩
  · unfold S_X13_execute
    rw [q1, cV_v]
  · show D1.1 145 = _
    exact x5.1
theorem m_exec_err (hM : MR E v) (hQ : IQ E n p sf sv e f ln L tn T) (htn : tn ≤ 60) (hT : ∀ i, i < tn → 32 ≤ T i ∧ T i ≤ 126) (hG : GP tn T K G) (hK : K ≤ 10) {e0 : Nat} (he : PErr tn T K G e0) : ∃ a E', S_X13_execute E = some (0, some (.int a), E') ∧ GM E E' ∧ E'.1 140 = z 1 ∧ MR E' v ∧ IQ E' n p sf sv e0 f ln L 0 T := by
  obtain ⟨D3, r1, r2, r3, r4, r5, r6, r7, r8⟩ := m_exec_pre hM hQ htn hT
  obtain ⟨g, x, s1⟩ := (m_read r2 r3 r4 hG hK).2 e0 he
  have hfx : FX2 D3 (Rp (setA D3 81 g) e0 1) := ((FG.rfl.sA rfl).sI rfl).sI rfl
  have hfg : FG (fun k => k == 140 || k == 142 || k == 146 || k == 149) n0 (fun k => k == 81) false D3 (setI (setI (Rp (setA D3 81 g) e0 1) 142 (z (e0 : Nat))) 140 (z 1)) := ((((FG.rfl.sA rfl).sI rfl).sI rfl).sI rfl).sI rfl
  refine ⟨z 0, setI (setI (Rp (setA D3 81 g) e0 1) 142 (z (e0 : Nat))) 140 (z 1), ?_, r7.trans (FG.mono hfg (fun k hk => by
    have : k < 140 := by simpa [gmI] using hk
    simp
    omega) (fun k hk => hk) (fun k hk => by
    have : k < 70 := by simpa [gmA] using hk
    simp
    omega) (fun h => h)), setI_same _ _ _, ?_, ?_⟩
  · rw [r1, s1, cI_i, show (Rp (setA D3 81 g) e0 1).1 149 = z ((1 : Nat) : Int) from rfl, if_neg (by decide), show (Rp (setA D3 81 g) e0 1).1 146 = z (e0 : Nat) from rfl]
    rfl
  · unfold MR
    rw [hfg.2.2.1 70 rfl]
    exact r5
  · refine r6.agE (fun k hk => hfg.1 k (by simp; omega)) (fun k hk => hfg.2.2.1 k (by simp; omega)) ⟨rfl, ?_⟩ ⟨?_, fun i hi => by omega⟩
    · rw [hfg.1 143 rfl]
      exact r6.2.2.1.2
    · rw [hfg.1 145 rfl]
      exact r6.2.2.2.2.1.1
theorem m_exec_run (hM : MR E (V 0)) (hQ : IQ E n p sf sv e f ln L tn T) (hn : n ≤ 8) (htn : tn ≤ 60) (hT : ∀ i, i < tn → 32 ≤ T i ∧ T i ≤ 126) (hG : GP tn T K G) (hK0 : 0 < K) (hK : K ≤ 10) (hend : (G (K - 1)).2.2.2.2.2 = tn) (hJ : J ≤ K) (hok : ∀ i, i < J → Okc (G i) (V i) (V (i + 1))) (hfin : J = K ∨ (J < K ∧ Noc (G J) (V J))) : (J = K → ∃ E', S_X13_execute E = some (0, some (.int (z (K : Nat))), E') ∧ GM E E' ∧ E'.1 140 = z 0 ∧ MR E' (V K) ∧ IQ E' (pn n) (pp n p (V 0)) sf sv e f ln L 0 T) ∧ (J < K → ∃ a E', S_X13_execute E = some (0, some (.int a), E') ∧ GM E E' ∧ E'.1 140 = z 2 ∧ MR E' (V 0) ∧ IQ E' n p sf sv e J ln L 0 T) := by
  obtain ⟨D3, r1, r2, r3, r4, r5, r6, r7, r8⟩ := m_exec_pre hM hQ htn hT
  obtain ⟨g, s1⟩ := (m_read r2 r3 r4 hG hK).1 hK0 hend
  have hfg : FG (fun k => k == 146 || k == 149 || k == 150) n0 (fun k => k == 81) false D3 (setI (Rp (setA D3 81 g) tn 0) 150 (z 1)) := (((FG.rfl.sA rfl).sI rfl).sI rfl).sI rfl
  have hgm4 : GM D3 (setI (Rp (setA D3 81 g) tn 0) 150 (z 1)) := FG.mono hfg (fun k hk => by
    have : k < 140 := by simpa [gmI] using hk
    simp
    omega) (fun k hk => hk) (fun k hk => by
    have : k < 70 := by simpa [gmA] using hk
    simp
    omega) (fun h => h)
  have hX4 : RX (setI (Rp (setA D3 81 g) tn 0) 150 (z 1)) tn T := r2.r81 g
  have hM4 : MR (setI (Rp (setA D3 81 g) tn 0) 150 (z 1)) (V 0) := r5.setA (g := g) (k := 81) (by decide)
  obtain ⟨D7, f7, hres⟩ := m_doit hX4 rfl (by show D3.1 140 = z 0; exact r4) hG hK0 hK hend hM4 hJ hok hfin
  have hQ4 : IQ (setI (Rp (setA D3 81 g) tn 0) 150 (z 1)) n p sf sv e f ln L 0 T := r6.ag (fun k hk => hfg.1 k (by simp; omega)) (fun k hk => hfg.2.2.1 k (by simp; omega))
  have hQ7 : IQ D7 n p sf sv e f ln L 0 T := hQ4.ag (fun k hk => f7.i (by omega)) (fun k hk => f7.a (by omega))
  have h71 : RV (D7.2.2.1 71) (V 0) := by
    rw [f7.a (by omega), hfg.2.2.1 71 rfl]
    exact r8
  have hx : S_X13_execute E = cI (S_X13_commands (setI (Rp (setA D3 81 g) tn 0) 150 (z 1))) (fun r8 D7 => (if (D7.1 140) = 0 then (cI (S_X13_ends r8 D7) (fun r11 D10 => some (0, some (.int r11), D10))) else (cI (S_X13_ends r8 (setI (setI D7 143 (r8 - (1 : Int32))) 140 (2 : Int32))) (fun r14 D13 => some (0, some (.int r14), D13))))) := by
    rw [r1, s1, cI_i, show (Rp (setA D3 81 g) tn 0).1 149 = z ((0 : Nat) : Int) from rfl, if_pos (by decide)]
    rfl
  constructor
  · intro hJK
    rcases hres with ⟨-, a1, a2, a3⟩ | ⟨hlt, -⟩
    · obtain ⟨D8, b1, b2, b3, b4, b5⟩ := ref_ends_ok a2 hQ7 hn a3 h71 (z (K : Nat))
      refine ⟨D8, ?_, ((r7.trans hgm4).trans f7.gm).trans b4, b5, b2, b3⟩
      rw [hx, a1, cI_i, a3, if_pos (by decide), b1, cI_i]
    · omega
  · intro hJK
    rcases hres with ⟨heq, -⟩ | ⟨-, a1, t, t1, t2, a3⟩
    · omega
    · have hfg2 : FG (fun k => k == 140 || k == 143) n0 n0 false D7 (setI (setI D7 143 (z (J : Nat))) 140 (z 2)) := (FG.rfl.sI rfl).sI rfl
      have hQ8 : IQ (setI (setI D7 143 (z (J : Nat))) 140 (z 2)) n p sf sv e J ln L 0 T := hQ7.agE (fun k hk => hfg2.1 k (by simp; omega)) (fun k hk => rfl) ⟨hQ7.2.2.1.1, rfl⟩ hQ7.2.2.2.2.1
      obtain ⟨D8, b1, b2, b3, b4, b5⟩ := ref_ends_no hQ8 (setI_same _ _ _) (by omega) (w := V 0) h71 (z ((J + 1 : Nat)))
      refine ⟨z 0, D8, ?_, ((r7.trans hgm4).trans f7.gm).trans ((FG.mono hfg2 (fun k hk => by
        have : k < 140 := by simpa [gmI] using hk
        simp
        omega) (fun k hk => hk) (fun k hk => rfl) (fun h => h)).trans b4), b5, b2, b3⟩
      have ez : z ((J + 1 : Nat)) - (1 : Int32) = z (J : Nat) := by
        rw [show (1 : Int32) = z 1 from rfl, z_sub]
        congr 1
        omega
      rw [hx, a1, cI_i, a3, if_neg (by rw [show (0 : Int32) = z 0 from rfl, z_eq (by omega) (by omega) (by omega) (by omega)]; omega), ez]
      show cI (S_X13_ends (z ((J + 1 : Nat))) (setI (setI D7 143 (z (J : Nat))) 140 (z 2))) _ = _
      rw [b1, cI_i]
theorem c_execute (hD : Inv D) : Ce S_L_execute S_X13_execute D := by
  obtain ⟨v, n, nx, p, sf, sv, e, f, ln, L, tn, T, hI⟩ := hD
  obtain ⟨hC, hP, hM, hQ, hJ⟩ := id hI
  obtain ⟨hW, hn, hnx, hpW, hsW, he, hf, hln, hL, htn, hT⟩ := hJ
  have hTW : TW D tn T := ⟨hP.2.2.2.2.1, htn, hP.2.2.2.2.2, hT⟩
  obtain ⟨D2, K, G, f2, hG, hres⟩ := s_parse hTW
  have i2 : ∀ k, k ≠ 130 → k ≠ 131 → D2.1 k = D.1 k := fun k h1 h2 => f2.1 k (by simp [fpI]; omega)
  have a2 : ∀ k, k ≠ 66 → D2.2.2.1 k = D.2.2.1 k := fun k h1 => f2.2.2.1 k (by simp [fpA]; omega)
  have j2 : ∀ k, D2.2.1 k = D.2.1 k := fun k => f2.2.1 k rfl
  rcases hres with ⟨hp, hK0, hK, hend, h131, hS⟩ | ⟨e0, hen, hK10, hp, hE⟩
  · -- the text is well formed
    obtain ⟨J, V, s1, s2, s3, s4, s5⟩ := sim hW K (fun i hi => (hG i hi).1)
    obtain ⟨D7, hD7⟩ : ∃ D7, D7 = cp 1 0 (setI D2 129 (0 : Int32)) := ⟨_, rfl⟩
    have i7 : ∀ k, k < 10 ∨ 13 < k → k ≠ 129 → k ≠ 130 → k ≠ 131 → D7.1 k = D.1 k := fun k h1 h2 h3 h4 => by rw [hD7, cp_i (by omega), setI_1, if_neg h2, i2 k h3 h4]
    have j7 : ∀ k, k ≠ 1 → D7.2.1 k = D.2.1 k := fun k h1 => by
      rw [hD7, cp_j h1]
      exact j2 k
    have a7 : ∀ k, k < 4 ∨ 7 < k → k ≠ 66 → D7.2.2.1 k = D.2.2.1 k := fun k h1 h2 => by
      rw [hD7, cp_a (by omega)]
      exact a2 k h2
    have hC5 : QS (setI D2 129 (0 : Int32)) 0 v := QS.ag (o := 0) hC (fun k _ _ => by rw [setI_1, if_neg (by omega), i2 k (by omega) (by omega)]) (j2 0) (fun k _ _ => a2 k (by omega))
    have hC7 : CS D7 v := QS.ag (o := 0) hC (fun k _ _ => i7 k (by omega) (by omega) (by omega) (by omega)) (j7 0 (by omega)) (fun k _ _ => a7 k (by omega) (by omega))
    have hB7 : QS D7 1 v := by
      rw [hD7]
      exact cp_QS hC5 hW.2.1
    have hP7 : IP D7 n nx p sf sv e f ln L 0 T := hP.agE (fun k h1 h2 h3 h4 => i7 k (by omega) (by omega) (by omega) (by omega)) (fun k h1 => j7 k (by omega)) (fun k h1 h2 h3 => a7 k (by omega) (by omega)) ⟨by rw [i7 121 (by omega) (by omega) (by omega) (by omega)]; exact hP.2.2.1.1, by rw [i7 122 (by omega) (by omega) (by omega) (by omega)]; exact hP.2.2.1.2⟩ ⟨by rw [hD7, cp_i (by omega), setI_1, if_pos rfl]; rfl, fun i hi => by omega⟩
    have h131' : D7.1 131 = z K := by rw [hD7, cp_i (by omega), setI_1, if_neg (by omega), h131]
    have hS7 : Sto D7 K G := by
      intro i hi
      have e1 : D7.2.2.1 66 = D2.2.2.1 66 := by rw [hD7, cp_a (by omega)]; rfl
      have e2 : D7.2.2.2.2.2 = D2.2.2.2.2.2 := by rw [hD7]; rfl
      rw [e1, e2]
      exact hS i hi
    have hgc : GC D D7 := ⟨fun k hk => i7 k (by simp [gcI] at hk; omega) (by simp [gcI] at hk; omega) (by simp [gcI] at hk; omega) (by simp [gcI] at hk; omega), fun k hk => (by cases hk), fun k hk => a7 k (by simp [gcA] at hk; omega) (by simp [gcA] at hk; omega), by rw [hD7]; exact f2.2.2.2.1, by rw [hD7]; exact f2.2.2.2.2.1, fun h => (by cases h)⟩
    have key : ∃ r, run T_X12_execute FUEL 0 [] D = some r ∧ ∃ D', (J = K ∧ r = (0, some (.int (z K)), D') ∧ CS D' (V K) ∧ IP D' (pn n) (pnx nx) (pp n p v) sf sv e f ln L 0 T ∧ GC D D') ∨ (J < K ∧ r = (2, none, D') ∧ CS D' v ∧ IP D' n nx p sf sv e J ln L 0 T ∧ GC D D') := by
      refine RunP.fin (c := 20 + 1) ?_ (by decide)
      refine RunP.go ?_
      show Wp (b_X12_execute_0 _) _
      have e0 : b_X12_execute_0 D = some (.inl (1, [z 0], D7)) := by
        unfold b_X12_execute_0
        rw [hp, cI_i, hD7]
        rfl
      rw [e0, Wp_some, Nx_l]
      subst s2
      exact s_loop hC7 hB7 hW hP7 hn hnx h131' hK hS7 (fun i hi => (hG i hi).1.1.1) s1 s3 s5 (fun D' => ⟨fun q1 q2 q3 q4 => ⟨D', Or.inl ⟨q1, rfl, q2, q3, hgc.trans q4⟩⟩, fun q1 q2 q3 q4 => ⟨D', Or.inr ⟨q1, rfl, q2, q3, hgc.trans q4⟩⟩⟩)
    subst s2
    obtain ⟨r, q1, D', q2⟩ := key
    rcases q2 with ⟨c1, rfl, c2, c3, c4⟩ | ⟨c1, rfl, c2, c3, c4⟩
    · have gM0 : MR D' (V 0) := hM.gc c4
      have gQ0 : IQ D' n p sf sv e f ln L tn T := hQ.gc c4
      have gM : MR (oL D' (z (K : Nat)).toInt64) (V 0) := gM0
      have gQ : IQ (oL D' (z (K : Nat)).toInt64) n p sf sv e f ln L tn T := gQ0
      obtain ⟨E', t1, t2, t3, t4, t5⟩ := (m_exec_run gM gQ hn htn hT hG hK0 hK hend s1 s3 s5).1 c1
      refine ce_ok (D1 := D') (a := z (K : Nat)) ?_ c2 c3 ⟨E', t1, t2, t3, t4, t5⟩ ⟨by rw [← c1]; exact s4 J (Nat.le_refl _), pn_le hn, pnx_lt hnx, pp_WF hn hpW hW, hsW, he, hf, hln, hL, by omega, fun i hi => by omega⟩
      unfold S_L_execute S_X12_execute
      rw [q1]
      rfl
    · have gM : MR D' (V 0) := hM.gc c4
      have gQ : IQ D' n p sf sv e f ln L tn T := hQ.gc c4
      obtain ⟨a, E', t1, t2, t3, t4, t5⟩ := (m_exec_run gM gQ hn htn hT hG hK0 hK hend s1 s3 s5).2 c1
      refine ce_no (k := 2) (D1 := D') ?_ (by omega) c2 c3 ⟨a, E', t1, t2, t3, t4, t5⟩ ⟨hW, hn, hnx, hpW, hsW, he, by omega, hln, hL, by omega, fun i hi => by omega⟩
      unfold S_L_execute S_X12_execute
      rw [q1]
      rfl
  · -- it is not
    have hX : S_X12_execute D = some (1, none, setI (setI D2 129 (0 : Int32)) 121 (z (e0 : Nat))) := by
      unfold S_X12_execute
      refine RunP.eqn (c := 1) ?_ (by decide)
      refine RunP.go ?_
      show Wp (b_X12_execute_0 _) _
      unfold b_X12_execute_0
      rw [hp, cI_i]
      show Wp (if z (e0 : Nat) = (-1 : Int32) then _ else _) _
      rw [if_neg (by rw [show (-1 : Int32) = z (-1) from rfl, z_eq (by omega) (by omega) (by omega) (by omega)]; omega), Wp_some, Nx_r]
    have i7 : ∀ k, k ≠ 121 → k ≠ 129 → k ≠ 130 → k ≠ 131 → (setI (setI D2 129 (0 : Int32)) 121 (z (e0 : Nat))).1 k = D.1 k := fun k h1 h2 h3 h4 => by rw [setI_1, if_neg h1, setI_1, if_neg h2, i2 k h3 h4]
    have hC7 : CS (setI (setI D2 129 (0 : Int32)) 121 (z (e0 : Nat))) v := QS.ag (o := 0) hC (fun k _ _ => i7 k (by omega) (by omega) (by omega) (by omega)) (j2 0) (fun k _ _ => a2 k (by omega))
    have hP7 : IP (setI (setI D2 129 (0 : Int32)) 121 (z (e0 : Nat))) n nx p sf sv e0 f ln L 0 T := hP.agE (fun k h1 h2 h3 h4 => i7 k (by omega) (by omega) (by omega) (by omega)) (fun k h1 => j2 k) (fun k h1 h2 h3 => a2 k (by omega)) ⟨rfl, by rw [i7 122 (by omega) (by omega) (by omega) (by omega)]; exact hP.2.2.1.2⟩ ⟨rfl, fun i hi => by omega⟩
    have hgc : GC D (setI (setI D2 129 (0 : Int32)) 121 (z (e0 : Nat))) := ⟨fun k hk => i7 k (by simp [gcI] at hk; omega) (by simp [gcI] at hk; omega) (by simp [gcI] at hk; omega) (by simp [gcI] at hk; omega), fun k hk => (by cases hk), fun k hk => a2 k (by simp [gcA] at hk; omega), f2.2.2.2.1, f2.2.2.2.2.1, fun h => (by cases h)⟩
    obtain ⟨a, E', t1, t2, t3, t4, t5⟩ := m_exec_err (hM.gc hgc) (hQ.gc hgc) htn hT hG hK10 hE
    refine ce_no (k := 1) ?_ (by omega) hC7 hP7 ⟨a, E', t1, t2, t3, t4, t5⟩ ⟨hW, hn, hnx, hpW, hsW, by omega, hf, hln, hL, by omega, fun i hi => by omega⟩
    unfold S_L_execute
    rw [hX]
    rfl
end LL
