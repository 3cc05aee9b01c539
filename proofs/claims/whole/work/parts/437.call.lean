/-! pure: the calls that modify, both sides -/
theorem FH.gc {D D' : DD} (h : FH D D') : GC D D' := ⟨fun k hk => h.1 k (by
  have : 140 ≤ k := by simpa [gcI] using hk
  omega), (fun k hk => by cases hk), fun k hk => h.2.2.1 k (by
  have : 70 ≤ k := by simpa [gcA] using hk
  omega), (by rw [h.2.2.2]), (by rw [h.2.2.2]), (fun _ => by rw [h.2.2.2])⟩
def oL (D : DD) (x : Int64) : DD := setB D 0 (vp_updL (D.2.2.2.1 0) (0 : Int32).toNatClampNeg x)
theorem oL_0 (D : DD) (x : Int64) : (oL D x).2.2.2.1 0 0 = x := rfl
def Ce (SL SM : DD → Option RT) (D : DD) : Prop := ∃ (k : Int) (a : Int32) (D1 D2 : DD), SL D = some (0, some (.int (z k)), D1) ∧ (k = 0 → D1.2.2.2.1 0 0 = a.toInt64) ∧ SM D1 = some (0, some (.int a), D2) ∧ D2.2.2.2.1 = D1.2.2.2.1 ∧ D2.1 140 = z k ∧ 0 ≤ k ∧ k < 100 ∧ Inv D2
def CeL (SL SM : DD → Option RT) (D : DD) : Prop := ∃ (k : Int) (a : Int64) (D1 D2 : DD), SL D = some (0, some (.int (z k)), D1) ∧ (k = 0 → D1.2.2.2.1 0 0 = a) ∧ SM D1 = some (0, some (.long a), D2) ∧ D2.2.2.2.1 = D1.2.2.2.1 ∧ D2.1 140 = z k ∧ 0 ≤ k ∧ k < 100 ∧ Inv D2
section LL
variable {D D1 E : DD} {v v' w : Nat → Nat} {n nx n' nx' : Nat} {p p' : Nat → Nat → Nat} {sf sf' : Bool} {sv sv' : Nat → Nat} {e f e' f' : Int} {ln ln' : Nat} {L L' : Nat → Nat} {tn tn' : Nat} {T T' : Nat → Nat} {SL SM : DD → Option RT}
theorem ce_ok {a : Int32} (hSL : SL D = some (0, some (.int (z 0)), oL D1 a.toInt64)) (hC : CS D1 v') (hP : IP D1 n' nx' p' sf' sv' e' f' ln' L' tn' T') (hR : ∃ E, SM (oL D1 a.toInt64) = some (0, some (.int a), E) ∧ GM (oL D1 a.toInt64) E ∧ E.1 140 = z 0 ∧ MR E v' ∧ IQ E n' p' sf' sv' e' f' ln' L' tn' T') (hW : IW v' n' nx' p' sf' sv' e' f' ln' L' tn' T') : Ce SL SM D := by
  obtain ⟨E, h1, h2, h3, h4, h5⟩ := hR
  have hC' : CS (oL D1 a.toInt64) v' := hC
  have hP' : IP (oL D1 a.toInt64) n' nx' p' sf' sv' e' f' ln' L' tn' T' := hP
  exact ⟨0, a, oL D1 a.toInt64, E, hSL, fun _ => oL_0 _ _, h1, h2.2.2.2.1, h3, by omega, by omega, v', n', nx', p', sf', sv', e', f', ln', L', tn', T', hC'.gm h2, hP'.gm h2, h4, h5, hW⟩
theorem ce_no {k : Int} (hSL : SL D = some (0, some (.int (z k)), D1)) (hk : 1 ≤ k ∧ k < 100) (hC : CS D1 v) (hP : IP D1 n nx p sf sv e f ln L tn T) (hR : ∃ a E, SM D1 = some (0, some (.int a), E) ∧ GM D1 E ∧ E.1 140 = z k ∧ MR E v ∧ IQ E n p sf sv e f ln L tn T) (hW : IW v n nx p sf sv e f ln L tn T) : Ce SL SM D := by
  obtain ⟨a, E, h1, h2, h3, h4, h5⟩ := hR
  exact ⟨k, a, D1, E, hSL, fun q => by omega, h1, h2.2.2.2.1, h3, by omega, by omega, v, n, nx, p, sf, sv, e, f, ln, L, tn, T, hC.gm h2, hP.gm h2, h4, h5, hW⟩
theorem ceL_ok {a : Int64} (hSL : SL D = some (0, some (.int (z 0)), oL D1 a)) (hC : CS D1 v') (hP : IP D1 n' nx' p' sf' sv' e' f' ln' L' tn' T') (hR : ∃ E, SM (oL D1 a) = some (0, some (.long a), E) ∧ GM (oL D1 a) E ∧ E.1 140 = z 0 ∧ MR E v' ∧ IQ E n' p' sf' sv' e' f' ln' L' tn' T') (hW : IW v' n' nx' p' sf' sv' e' f' ln' L' tn' T') : CeL SL SM D := by
  obtain ⟨E, h1, h2, h3, h4, h5⟩ := hR
  have hC' : CS (oL D1 a) v' := hC
  have hP' : IP (oL D1 a) n' nx' p' sf' sv' e' f' ln' L' tn' T' := hP
  exact ⟨0, a, oL D1 a, E, hSL, fun _ => oL_0 _ _, h1, h2.2.2.2.1, h3, by omega, by omega, v', n', nx', p', sf', sv', e', f', ln', L', tn', T', hC'.gm h2, hP'.gm h2, h4, h5, hW⟩
theorem ceL_no {k : Int} (hSL : SL D = some (0, some (.int (z k)), D1)) (hk : 1 ≤ k ∧ k < 100) (hC : CS D1 v) (hP : IP D1 n nx p sf sv e f ln L tn T) (hR : ∃ a E, SM D1 = some (0, some (.long a), E) ∧ GM D1 E ∧ E.1 140 = z k ∧ MR E v ∧ IQ E n p sf sv e f ln L tn T) (hW : IW v n nx p sf sv e f ln L tn T) : CeL SL SM D := by
  obtain ⟨a, E, h1, h2, h3, h4, h5⟩ := hR
  exact ⟨k, a, D1, E, hSL, fun q => by omega, h1, h2.2.2.2.1, h3, by omega, by omega, v, n, nx, p, sf, sv, e, f, ln, L, tn, T, hC.gm h2, hP.gm h2, h4, h5, hW⟩
theorem rem_all (hC : CS D v) (hW : WF v) (hP : IP D n nx p sf sv e f ln L tn T) (hn : n ≤ 8) (hnx : nx < 8) : ∃ D0, S_X6_remember D = some (0, none, D0) ∧ CS D0 v ∧ IP D0 (pn n) (pnx nx) (pp n p v) sf sv e f ln L tn T ∧ GC D D0 := by
  obtain ⟨h1, h2, h3, h4, h5⟩ := hP
  obtain ⟨D0, q1, q2, q3⟩ := s_remember rfl hC hW.2.1 h1 hn hnx
  refine ⟨D0, q1, QS.ag (o := 0) hC (fun k _ _ => q3.1 k (by omega)) (q3.2.1 0 (by omega)) (fun k _ _ => q3.2.2.1 k (by omega)), ⟨q2, h2.ag (q3.1 _ (by omega)) (fun k _ _ => q3.1 k (by omega)) (q3.2.1 2 (by omega)) (fun k _ _ => q3.2.2.1 k (by omega)), ?_, ?_, ?_⟩, q3.gc⟩
  · unfold EC
    rw [q3.1 121 (by omega), q3.1 122 (by omega)]
    exact h3
  · unfold LC
    rw [q3.1 128 (by omega), q3.2.2.1 64 (by omega)]
    exact h4
  · unfold TC
    rw [q3.1 129 (by omega), q3.2.2.1 65 (by omega)]
    exact h5
theorem ref_begins (hM : MR D v) (hQ : IQ D n p sf sv e f ln L tn T) : ∃ D0, S_X13_begins D = some (0, none, D0) ∧ MR D0 v ∧ IQ D0 n p sf sv e f ln L tn T ∧ GM D D0 ∧ D0.1 140 = z 0 ∧ RV (D0.2.2.1 71) v := by
  obtain ⟨g, q1, q2⟩ := m_begins D
  have hf : FG (fun k => k == 140) n0 (fun k => k == 71) false D (setA (setI D 140 (z 0)) 71 g) := (FG.rfl.sI rfl).sA rfl
  have hg : GM D (setA (setI D 140 (z 0)) 71 g) := FG.mono hf (fun k hk => by
    have : k < 140 := by simpa [gmI] using hk
    simp
    omega) (fun k hk => hk) (fun k hk => by
    have : k < 70 := by simpa [gmA] using hk
    simp
    omega) (fun h => h)
  refine ⟨_, q1, ?_, hQ.ag (fun k hk => hf.1 k (by simp; omega)) (fun k hk => hf.2.2.1 k (by simp; omega)), hg, by show (setI D 140 (z 0)).1 140 = z 0; exact setI_same _ _ _, fun k hk => ?_⟩
  · unfold MR
    rw [hf.2.2.1 70 rfl]
    exact hM
  · rw [setA_same, q2 k hk]
    exact hM k hk
theorem FGm (h : FG f141 n0 f73 false D E) : GM D E := FG.mono h (fun k hk => by
    have : k < 140 := by simpa [gmI] using hk
    simp [f141]
    omega) (fun k hk => hk) (fun k hk => by
    have : k < 70 := by simpa [gmA] using hk
    simp [f73]
    omega) (fun h => h)
theorem ref_ends_ok (hM : MR D v) (hQ : IQ D n p sf sv e f ln L tn T) (hn : n ≤ 8) (h140 : D.1 140 = z 0) (h71 : RV (D.2.2.1 71) w) (x : Int32) : ∃ D', S_X13_ends x D = some (0, some (.int x), D') ∧ MR D' v ∧ IQ D' (pn n) (pp n p w) sf sv e f ln L tn T ∧ GM D D' ∧ D'.1 140 = z 0 := by
  obtain ⟨h1, h2, h3, h4, h5, h6⟩ := hQ
  obtain ⟨D', q1, q2, q3⟩ := m_ends_ok h140 x h1 hn h71
  refine ⟨D', q1, ?_, ⟨q3, ?_, ?_, ?_, ?_, ?_⟩, FGm q2, by rw [q2.1 140 rfl]; exact h140⟩
  · unfold MR
    rw [q2.2.2.1 70 rfl]
    exact hM
  · unfold NM
    rw [q2.1 144 rfl, q2.2.2.1 72 rfl]
    exact h2
  · unfold EM
    rw [q2.1 142 rfl, q2.1 143 rfl]
    exact h3
  · unfold LM
    rw [q2.1 148 rfl, q2.2.2.1 80 rfl]
    exact h4
  · unfold TM
    rw [q2.1 145 rfl, q2.2.2.1 79 rfl]
    exact h5
  · unfold WM
    rw [q2.2.2.1 82 rfl, q2.2.2.1 83 rfl]
    exact h6
theorem ref_ends_no (hQ : IQ D n p sf sv e f ln L tn T) {t : Int} (h140 : D.1 140 = z t) (ht : 1 ≤ t ∧ t < 100) (h71 : RV (D.2.2.1 71) w) (x : Int32) : ∃ D', S_X13_ends x D = some (0, some (.int (z 0)), D') ∧ MR D' w ∧ IQ D' n p sf sv e f ln L tn T ∧ GM D D' ∧ D'.1 140 = z t := by
  obtain ⟨g, q1, q2⟩ := m_ends_no h140 (by omega) (by omega) (by omega) x h71
  have hf : FR D (setA D 70 g) := FG.rfl.sA rfl
  exact ⟨_, q1, q2.mr, hQ.fr hf, hf.gm, h140⟩
theorem ref_ok {a : Int32} {act : DD → Option RT} (hM : MR D v) (hQ : IQ D n p sf sv e f ln L tn T) (hn : n ≤ 8) (K : Int32 → Value) (hact : ∀ D, MR D v → ∃ D', act D = some (0, some (.int a), D') ∧ FR D D' ∧ MR D' v' ∧ D'.1 140 = D.1 140) : ∃ E, (cV (S_X13_begins D) (fun D2 => cI (act D2) (fun r5 D4 => cI (S_X13_ends r5 D4) (fun r8 D7 => some (0, some (K r8), D7)))) : Option RT) = some (0, some (K a), E) ∧ GM D E ∧ E.1 140 = z 0 ∧ MR E v' ∧ IQ E (pn n) (pp n p v) sf sv e f ln L tn T := by
  obtain ⟨D1, q1, q2, q3, q4, q5, q6⟩ := ref_begins hM hQ
  obtain ⟨D2, r1, r2, r3, r4⟩ := hact D1 q2
  obtain ⟨D3, s1, s2, s3, s4, s5⟩ := ref_ends_ok r3 (q3.fr r2) hn (r4.trans q5) (w := v) (by rw [r2.a (by omega)]; exact q6) a
  exact ⟨D3, by rw [q1, cV_v, r1, cI_i, s1, cI_i], (q4.trans r2.gm).trans s4, s5, s2, s3⟩
theorem ref_no {t : Int} {act : DD → Option RT} (hM : MR D v) (hQ : IQ D n p sf sv e f ln L tn T) (K : Int32 → Value) (ht : 1 ≤ t ∧ t < 100) (hact : ∀ D, MR D v → act D = some (0, some (.int (z 0)), setI D 140 (z t))) : ∃ E, (cV (S_X13_begins D) (fun D2 => cI (act D2) (fun r5 D4 => cI (S_X13_ends r5 D4) (fun r8 D7 => some (0, some (K r8), D7)))) : Option RT) = some (0, some (K (z 0)), E) ∧ GM D E ∧ E.1 140 = z t ∧ MR E v ∧ IQ E n p sf sv e f ln L tn T := by
  obtain ⟨D1, q1, q2, q3, q4, q5, q6⟩ := ref_begins hM hQ
  have hf : FR D1 (setI D1 140 (z t)) := FG.rfl.sI rfl
  obtain ⟨D3, s1, s2, s3, s4, s5⟩ := ref_ends_no (q3.fr hf) (setI_same _ _ _) ht (w := v) q6 (z 0)
  exact ⟨D3, by rw [q1, cV_v, hact D1 q2, cI_i, s1, cI_i], (q4.trans hf.gm).trans s4, s5, s2, s3⟩
theorem fHard_le (v : Nat → Nat) (a b h : Int) : fHard v a b h ≤ 2 := by unfold fHard; split <;> (try split) <;> omega
theorem fLay_le (v : Nat → Nat) (a b h : Int) : fLay v a b h ≤ 2 := by unfold fLay; split <;> (try split) <;> omega
theorem fDig_le (v : Nat → Nat) (a b : Int) : fDig v a b ≤ 3 := by unfold fDig; split <;> (try split) <;> (try split) <;> omega
theorem fPrice_le (a b : Int) : fPrice a b ≤ 1 := by unfold fPrice; split <;> omega
theorem c_setHardness {a b h : Int} (h1 : -2147483648 ≤ a) (h2 : a < 2147483648) (h3 : -2147483648 ≤ b) (h4 : b < 2147483648) (h5 : -2147483648 ≤ h) (h6 : h < 2147483648) (hD : Inv D) : Ce (S_L_setHardness (z a) (z b) (z h)) (S_X13_setHardness (z a) (z b) (z h)) D := by
  obtain ⟨v, n, nx, p, sf, sv, e, f, ln, L, tn, T, hC, hP, hM, hQ, hI⟩ := hD
  obtain ⟨hW, hn, hnx, hpW, hI5⟩ := id hI
  have hF := s_faultOfHardness hC hW h1 h2 h3 h4 h5 h6
  have hle := fHard_le v a b h
  by_cases hf : fHard v a b h = 0
  · obtain ⟨c, x, e1, e2, e3, e4, e5, e6, -⟩ := m_hardens_ok hM hW h1 h2 h3 h4 h5 h6 hf
    obtain ⟨D0, q1, q2, q3, q4⟩ := rem_all hC hW hP hn hnx
    have hfs : FS D0 (setA D0 0 (upd (D0.2.2.1 0) c (z x))) := FG.rfl.sA rfl
    have g := q4.trans hfs.fa.gc
    have gM : MR _ v := hM.gc g
    have gQ := hQ.gc g
    refine ce_ok (D1 := setA D0 0 (upd (D0.2.2.1 0) c (z x))) (a := z (v (4 + c))) ?_ (q2.hard e2) (q3.fa hfs.fa) (ref_ok (D := oL (setA D0 0 (upd (D0.2.2.1 0) c (z x))) (z (v (4 + c))).toInt64) gM gQ hn Value.int (fun E hE => ?_)) ⟨hW.hard e2 e6 e4 e5, pn_le hn, pnx_lt hnx, pp_WF hn hpW hW, hI5⟩
    · have : S_X12_setHardness (z a) (z b) (z h) D = some (0, some (.int (z (v (4 + c)))), setA D0 0 (upd (D0.2.2.1 0) c (z x))) := by
        unfold S_X12_setHardness
        rw [hF, hf, cI_i, if_neg (by decide), if_neg (by decide), q1, cV_v, s_cellAt h1 h2 h3 h4, cI_i, e1, e3, s_harden q2 e2, cI_i]
      unfold S_L_setHardness
      rw [this]
      rfl
    · obtain ⟨c', x', e1', e2', e3', e4', e5', e6', D', g1, g2, g3, g4⟩ := m_hardens_ok hE hW h1 h2 h3 h4 h5 h6 hf
      have : c' = c := by omega
      have : x' = x := by omega
      subst c'
      subst x'
      exact ⟨D', g1, g2, g3, g4⟩
  · refine ce_no (k := fHard v a b h) ?_ (by omega) hC hP ?_ hI
    · have hx : fHard v a b h = 1 ∨ fHard v a b h = 2 := by omega
      unfold S_L_setHardness S_X12_setHardness
      rw [hF, cI_i]
      rcases hx with hx | hx <;> rw [hx] <;> rfl
    · obtain ⟨E, g⟩ := ref_no hM hQ Value.int (t := fHard v a b h) (by omega) (fun E hE => m_hardens_no hE hW h1 h2 h3 h4 h5 h6 hf)
      exact ⟨_, E, g⟩
theorem c_addCharge {a b h : Int} (h1 : -2147483648 ≤ a) (h2 : a < 2147483648) (h3 : -2147483648 ≤ b) (h4 : b < 2147483648) (h5 : -2147483648 ≤ h) (h6 : h < 2147483648) (hD : Inv D) : Ce (S_L_addCharge (z a) (z b) (z h)) (S_X13_addCharge (z a) (z b) (z h)) D := by
  obtain ⟨v, n, nx, p, sf, sv, e, f, ln, L, tn, T, hC, hP, hM, hQ, hI⟩ := hD
  obtain ⟨hW, hn, hnx, hpW, hI5⟩ := id hI
  have hF := s_faultOfLaying hC hW h1 h2 h3 h4 h5 h6
  have hle := fLay_le v a b h
  by_cases hf : fLay v a b h = 0
  · obtain ⟨c, x, e1, e2, e3, e4, e5, e6, -⟩ := m_charges_ok hM hW h1 h2 h3 h4 h5 h6 hf
    obtain ⟨D0, q1, q2, q3, q4⟩ := rem_all hC hW hP hn hnx
    obtain ⟨D1, r1, r2, r3⟩ := s_lay q2 hW (c := c) (s := x) e6
    have g := q4.trans r2.fa.gc
    have gM : MR _ v := hM.gc g
    have gQ := hQ.gc g
    refine ce_ok (D1 := D1) (a := z (v 3)) ?_ r3 (q3.fa r2.fa) (ref_ok (D := oL D1 (z (v 3)).toInt64) gM gQ hn Value.int (fun E hE => ?_)) ⟨hW.lay e6 e2 e4 e5, pn_le hn, pnx_lt hnx, pp_WF hn hpW hW, hI5⟩
    · have : S_X12_addCharge (z a) (z b) (z h) D = some (0, some (.int (z (v 3))), D1) := by
        unfold S_X12_addCharge
        rw [hF, hf, cI_i, if_neg (by decide), if_neg (by decide), q1, cV_v, s_cellAt h1 h2 h3 h4, cI_i, e1, e3, r1, cI_i]
      unfold S_L_addCharge
      rw [this]
      rfl
    · obtain ⟨c', x', e1', e2', e3', e4', e5', e6', D', g1, g2, g3, g4⟩ := m_charges_ok hE hW h1 h2 h3 h4 h5 h6 hf
      have : c' = c := by omega
      have : x' = x := by omega
      subst c'
      subst x'
      exact ⟨D', g1, g2, g3, g4⟩
  · refine ce_no (k := fLay v a b h) ?_ (by omega) hC hP ?_ hI
    · have hx : fLay v a b h = 1 ∨ fLay v a b h = 2 := by omega
      unfold S_L_addCharge S_X12_addCharge
      rw [hF, cI_i]
      rcases hx with hx | hx <;> rw [hx] <;> rfl
    · obtain ⟨E, g⟩ := ref_no hM hQ Value.int (t := fLay v a b h) (by omega) (fun E hE => m_charges_no hE hW h1 h2 h3 h4 h5 h6 hf)
      exact ⟨_, E, g⟩
theorem c_dig {a b : Int} (h1 : -2147483648 ≤ a) (h2 : a < 2147483648) (h3 : -2147483648 ≤ b) (h4 : b < 2147483648) (hD : Inv D) : CeL (S_L_dig (z a) (z b)) (S_X13_dig (z a) (z b)) D := by
  obtain ⟨v, n, nx, p, sf, sv, e, f, ln, L, tn, T, hC, hP, hM, hQ, hI⟩ := hD
  obtain ⟨hW, hn, hnx, hpW, hI5⟩ := id hI
  have hF := s_faultOfDigging hC hW h1 h2 h3 h4
  have hle := fDig_le v a b
  have hop := hW.opn
  have w5 := hW.2.2.2.2.1
  have w6 := hW.2.2.2.2.2.1
  have w7 := hW.2.2.2.2.2.2
  by_cases hf : fDig v a b = 0
  · obtain ⟨c, e1, e2, e3, -⟩ := m_digs_ok hM hW h1 h2 h3 h4 hf
    obtain ⟨D0, q1, q2, q3, q4⟩ := rem_all hC hW hP hn hnx
    obtain ⟨D1, r1, r2, r3⟩ := s_digOut q2 hW e2 e3
    have g := q4.trans r2.fa.gc
    have gM : MR _ v := hM.gc g
    have gQ := hQ.gc g
    have hR := ref_ok (D := oL D1 (zl ((v 0 - v (4 + c) : Nat)))) (v' := dgv v c) (a := z ((v 0 - v (4 + c) : Nat))) (act := S_X13_digs (z a) (z b)) gM gQ hn (fun x => Value.long x.toInt64) (fun E hE => by
      obtain ⟨c', e1', e2', e3', D', g1, g2, g3, g4⟩ := m_digs_ok hE hW h1 h2 h3 h4 hf
      have : c' = c := by omega
      subst c'
      exact ⟨D', g1, g2, g3, g4⟩)
    rw [z_l (by omega) (by omega)] at hR
    refine ceL_ok (D1 := D1) (a := zl ((v 0 - v (4 + c) : Nat))) ?_ r3 (q3.fa r2.fa) hR ⟨hW.dig e2, pn_le hn, pnx_lt hnx, pp_WF hn hpW hW, hI5⟩
    have : S_X12_dig (z a) (z b) D = some (0, some (.long (zl ((v 0 - v (4 + c) : Nat)))), D1) := by
      unfold S_X12_dig
      rw [hF, hf, cI_i, if_neg (by decide), if_neg (by decide), if_neg (by decide), q1, cV_v, s_cellAt h1 h2 h3 h4, cI_i, e1, r1, cL_l]
    unfold S_L_dig
    rw [this]
    rfl
  · refine ceL_no (k := fDig v a b) ?_ (by omega) hC hP ?_ hI
    · have hx : fDig v a b = 1 ∨ fDig v a b = 2 ∨ fDig v a b = 3 := by omega
      unfold S_L_dig S_X12_dig
      rw [hF, cI_i]
      rcases hx with hx | hx | hx <;> rw [hx] <;> rfl
    · obtain ⟨E, g⟩ := ref_no hM hQ (fun x => Value.long x.toInt64) (t := fDig v a b) (by omega) (fun E hE => m_digs_no hE hW h1 h2 h3 h4 hf)
      exact ⟨_, E, g⟩
theorem c_removeCharge {a : Int} (h1 : -2147483648 ≤ a) (h2 : a < 2147483648) (hD : Inv D) : Ce (S_L_removeCharge (z a)) (S_X13_removeCharge (z a)) D := by
  obtain ⟨v, n, nx, p, sf, sv, e, f, ln, L, tn, T, hC, hP, hM, hQ, hI⟩ := hD
  obtain ⟨hW, hn, hnx, hpW, hI5⟩ := id hI
  have hF := s_hasCharge hC hW h1 h2
  by_cases hf : 0 ≤ a ∧ a < v 3
  · obtain ⟨c, hc⟩ := Int.eq_ofNat_of_zero_le hf.1
    subst hc
    have hk := KS.goes hW.2.1 (v := v) (n := c) (by omega)
    obtain ⟨D0, q1, q2, q3, q4⟩ := rem_all hC hW hP hn hnx
    obtain ⟨D1, r1, r2, r3⟩ := s_takeAway q2 hW (n := c) (by omega) hk
    have g := q4.trans r2.fa.gc
    have gM : MR _ v := hM.gc g
    have gQ := hQ.gc g
    refine ce_ok (D1 := D1) (a := z (gsv c v 3)) ?_ r3 (q3.fa r2.fa) (ref_ok (D := oL D1 (z (gsv c v 3)).toInt64) gM gQ hn Value.int (fun E hE => m_removes_ok hE hW (by omega))) ⟨hW.keep hk, pn_le hn, pnx_lt hnx, pp_WF hn hpW hW, hI5⟩
    have : S_X12_removeCharge (z c) D = some (0, some (.int (z (gsv c v 3))), D1) := by
      unfold S_X12_removeCharge
      rw [hF, bz_t hf, cI_i, if_neg (by decide), q1, cV_v, r1, cI_i]
    unfold S_L_removeCharge
    rw [this]
    rfl
  · refine ce_no (k := 1) ?_ (by omega) hC hP ?_ hI
    · unfold S_L_removeCharge S_X12_removeCharge
      rw [hF, bz_f hf, cI_i]
      rfl
    · obtain ⟨E, g⟩ := ref_no hM hQ Value.int (t := 1) (by omega) (fun E hE => m_removes_no hE hW h1 h2 hf)
      exact ⟨_, E, g⟩
theorem c_ignite {a : Int} (h1 : -2147483648 ≤ a) (h2 : a < 2147483648) (hD : Inv D) : Ce (S_L_ignite (z a)) (S_X13_ignite (z a)) D := by
  obtain ⟨v, n, nx, p, sf, sv, e, f, ln, L, tn, T, hC, hP, hM, hQ, hI⟩ := hD
  obtain ⟨hW, hn, hnx, hpW, hI5⟩ := id hI
  have hF := s_hasCharge hC hW h1 h2
  by_cases hf : 0 ≤ a ∧ a < v 3
  · obtain ⟨c, hc⟩ := Int.eq_ofNat_of_zero_le hf.1
    subst hc
    obtain ⟨D0, q1, q2, q3, q4⟩ := rem_all hC hW hP hn hnx
    obtain ⟨D1, r1, r2, r3⟩ := s_blowUp q2 hW (n := c) (by omega)
    have g := q4.trans r2.gc
    have gM : MR _ v := hM.gc g
    have gQ := hQ.gc g
    refine ce_ok (D1 := D1) (a := z (cnt (flB v c) 36)) ?_ r3 (q3.fa r2) (ref_ok (D := oL D1 (z (cnt (flB v c) 36)).toInt64) gM gQ hn Value.int (fun E hE => m_ignites_ok hE hW (by omega))) ⟨hW.blow, pn_le hn, pnx_lt hnx, pp_WF hn hpW hW, hI5⟩
    have : S_X12_ignite (z c) D = some (0, some (.int (z (cnt (flB v c) 36))), D1) := by
      unfold S_X12_ignite
      rw [hF, bz_t hf, cI_i, if_neg (by decide), q1, cV_v, r1, cI_i]
    unfold S_L_ignite
    rw [this]
    rfl
  · refine ce_no (k := 1) ?_ (by omega) hC hP ?_ hI
    · unfold S_L_ignite S_X12_ignite
      rw [hF, bz_f hf, cI_i]
      rfl
    · obtain ⟨E, g⟩ := ref_no hM hQ Value.int (t := 1) (by omega) (fun E hE => m_ignites_no hE hW h1 h2 hf)
      exact ⟨_, E, g⟩
theorem c_setPrice {a b : Int} (h1 : -2147483648 ≤ a) (h2 : a < 2147483648) (h3 : -2147483648 ≤ b) (h4 : b < 2147483648) (hD : Inv D) : Ce (S_L_setPrice (z a) (z b)) (S_X13_setPrice (z a) (z b)) D := by
  obtain ⟨v, n, nx, p, sf, sv, e, f, ln, L, tn, T, hC, hP, hM, hQ, hI⟩ := hD
  obtain ⟨hW, hn, hnx, hpW, hI5⟩ := id hI
  have hF := s_faultOfPrice (D := D) h1 h2 h3 h4
  have hle := fPrice_le a b
  by_cases hf : fPrice a b = 0
  · obtain ⟨c, x, e1, e2, e3, e4, e5, -⟩ := m_prices_ok hM hW h1 h2 h3 h4 hf
    obtain ⟨D0, q1, q2, q3, q4⟩ := rem_all hC hW hP hn hnx
    obtain ⟨D1, r1, r2, r3⟩ := s_putPrice q2 hW (l := c) (p := x) e2 e3
    have g := q4.trans r2.fa.gc
    have gM : MR _ v := hM.gc g
    have gQ := hQ.gc g
    refine ce_ok (D1 := D1) (a := z (v (51 + c))) ?_ r3 (q3.fa r2.fa) (ref_ok (D := oL D1 (z (v (51 + c))).toInt64) gM gQ hn Value.int (fun E hE => ?_)) ⟨hW.price e2 e3 e5, pn_le hn, pnx_lt hnx, pp_WF hn hpW hW, hI5⟩
    · have : S_X12_setPrice (z a) (z b) D = some (0, some (.int (z (v (51 + c)))), D1) := by
        unfold S_X12_setPrice
        rw [hF, hf, cI_i, if_pos (by decide), q1, cV_v, e1, e4, r1, cI_i]
      unfold S_L_setPrice
      rw [this]
      rfl
    · obtain ⟨c', x', e1', e2', e3', e4', e5', D', g1, g2, g3, g4⟩ := m_prices_ok hE hW h1 h2 h3 h4 hf
      have : c' = c := by omega
      have : x' = x := by omega
      subst c'
      subst x'
      exact ⟨D', g1, g2, g3, g4⟩
  · refine ce_no (k := 1) ?_ (by omega) hC hP ?_ hI
    · unfold S_L_setPrice S_X12_setPrice
      rw [hF, show fPrice a b = 1 by omega, cI_i]
      rfl
    · obtain ⟨E, g⟩ := ref_no hM hQ (act := S_X13_prices (z a) (z b)) Value.int (t := 1) (by omega) (fun E hE => by
        have := m_prices_no (D := E) h1 h2 h3 h4 hf
        rw [show fPrice a b = 1 by omega] at this
        exact this)
      exact ⟨_, E, g⟩
theorem gSell_eq (v : Nat → Nat) (l : Int) : (fSell v l = 0 ∧ gSell v l = 0) ∨ (fSell v l = 1 ∧ gSell v l = 1) ∨ (fSell v l = 3 ∧ gSell v l = 2) := by
  unfold fSell gSell
  by_cases h1 : ¬ (1 ≤ l ∧ l ≤ 30)
  · rw [if_pos h1, if_pos h1]
    omega
  · rw [if_neg h1, if_neg h1]
    by_cases h2 : (v 1 : Int) - v 2 < l
    · rw [if_pos h2, if_pos h2]
      omega
    · rw [if_neg h2, if_neg h2]
      omega
theorem s_sellBar (hC : CS D v) (hW : WF v) {c : Nat} (hc : c ≤ 30) (h12 : v 2 + c ≤ v 1) {w p : Nat → Nat} (hT : CT v w p 30) : ∃ D', S_X12_sellBar (z c) D = some (0, some (.int (z (w c))), D') ∧ FA D D' ∧ CS D' (slv v c (w c)) := by
  obtain ⟨D1, w', p', q1, q2, q3⟩ := s_coinsByTable hC hW hc
  have e := (hT.uniq q3 c hc).1
  have hb := (hT.bound hW c hc).1
  obtain ⟨D2, r1, r2, r3⟩ := s_handOver (hC.fc q2) hW (l := c) (w := w c) h12 hb
  refine ⟨D2, ?_, q2.fa.trans r2.fa, r3⟩
  unfold S_X12_sellBar
  rw [q1, ← e, cI_i, r1, cV_v]
theorem c_sell {a : Int} (h1 : -2147483648 ≤ a) (h2 : a < 2147483648) (hD : Inv D) : Ce (S_L_sell (z a)) (S_X13_sell (z a)) D := by
  obtain ⟨v, n, nx, p, sf, sv, e, f, ln, L, tn, T, hC, hP, hM, hQ, hI⟩ := hD
  obtain ⟨hW, hn, hnx, hpW, hI5⟩ := id hI
  have hF := s_faultOfSelling hC hW h1 h2
  rcases gSell_eq v a with ⟨hf, hg⟩ | ⟨hf, hg⟩ | ⟨hf, hg⟩
  · obtain ⟨c, e1, e2, e3, e4, -, w, pw, hT, hb, -⟩ := m_sells_ok hM hW h1 h2 hg
    obtain ⟨D0, q1, q2, q3, q4⟩ := rem_all hC hW hP hn hnx
    obtain ⟨D1, r1, r2, r3⟩ := s_sellBar q2 hW e3 e4 hT
    have g := q4.trans r2.gc
    have gM : MR _ v := hM.gc g
    have gQ := hQ.gc g
    refine ce_ok (D1 := D1) (a := z (w c)) ?_ r3 (q3.fa r2) (ref_ok (D := oL D1 (z (w c)).toInt64) gM gQ hn Value.int (fun E hE => ?_)) ⟨hW.sale e4 hb, pn_le hn, pnx_lt hnx, pp_WF hn hpW hW, hI5⟩
    · have : S_X12_sell (z a) D = some (0, some (.int (z (w c))), D1) := by
        unfold S_X12_sell
        rw [hF, hf, cI_i, if_neg (by decide), if_neg (by decide), q1, cV_v, e1, r1, cI_i]
      unfold S_L_sell
      rw [this]
      rfl
    · obtain ⟨c', e1', e2', e3', e4', D', w', pw', hT', hb', g1, g2, g3, g4⟩ := m_sells_ok hE hW h1 h2 hg
      have : c' = c := by omega
      subst c'
      have ew := (hT.uniq hT' c e3).1
      rw [← ew] at g1 g3
      exact ⟨D', g1, g2, g3, g4⟩
  · refine ce_no (k := 1) ?_ (by omega) hC hP ?_ hI
    · unfold S_L_sell S_X12_sell
      rw [hF, hf, cI_i]
      rfl
    · obtain ⟨E, g⟩ := ref_no hM hQ (act := S_X13_sells (z a)) Value.int (t := 1) (by omega) (fun E hE => by
        have := m_sells_no hE hW h1 h2 (by omega)
        rw [hg] at this
        exact this)
      exact ⟨_, E, g⟩
  · refine ce_no (k := 2) ?_ (by omega) hC hP ?_ hI
    · unfold S_L_sell S_X12_sell
      rw [hF, hf, cI_i]
      rfl
    · obtain ⟨E, g⟩ := ref_no hM hQ (act := S_X13_sells (z a)) Value.int (t := 2) (by omega) (fun E hE => by
        have := m_sells_no hE hW h1 h2 (by omega)
        rw [hg] at this
        exact this)
      exact ⟨_, E, g⟩
end LL
