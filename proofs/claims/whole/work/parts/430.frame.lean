/-! pure: frames and the pieces of the invariant -/
def FG (i j a : Nat → Bool) (c : Bool) (D D' : DD) : Prop := (∀ k, i k = false → D'.1 k = D.1 k) ∧ (∀ k, j k = false → D'.2.1 k = D.2.1 k) ∧ (∀ k, a k = false → D'.2.2.1 k = D.2.2.1 k) ∧ D'.2.2.2.1 = D.2.2.2.1 ∧ D'.2.2.2.2.1 = D.2.2.2.2.1 ∧ (c = false → D'.2.2.2.2.2 = D.2.2.2.2.2)
theorem FG.rfl {i j a : Nat → Bool} {c : Bool} {D : DD} : FG i j a c D D := ⟨fun _ _ => _root_.rfl, fun _ _ => _root_.rfl, fun _ _ => _root_.rfl, _root_.rfl, _root_.rfl, fun _ => _root_.rfl⟩
theorem FG.trans {i j a : Nat → Bool} {c : Bool} {D E F : DD} (h : FG i j a c D E) (g : FG i j a c E F) : FG i j a c D F := ⟨fun k hk => (g.1 k hk).trans (h.1 k hk), fun k hk => (g.2.1 k hk).trans (h.2.1 k hk), fun k hk => (g.2.2.1 k hk).trans (h.2.2.1 k hk), g.2.2.2.1.trans h.2.2.2.1, g.2.2.2.2.1.trans h.2.2.2.2.1, fun hc => (g.2.2.2.2.2 hc).trans (h.2.2.2.2.2 hc)⟩
theorem FG.sI {i j a : Nat → Bool} {c : Bool} {D E : DD} {k : Nat} {x : Int32} (h : FG i j a c D E) (hk : i k = true) : FG i j a c D (setI E k x) := ⟨fun q hq => by
  rw [setI_1, if_neg (fun e => by rw [e, hk] at hq; cases hq)]
  exact h.1 q hq, h.2.1, h.2.2.1, h.2.2.2⟩
theorem FG.sJ {i j a : Nat → Bool} {c : Bool} {D E : DD} {k : Nat} {x : Int64} (h : FG i j a c D E) (hk : j k = true) : FG i j a c D (setJ E k x) := ⟨h.1, fun q hq => by
  rw [setJ_21, if_neg (fun e => by rw [e, hk] at hq; cases hq)]
  exact h.2.1 q hq, h.2.2.1, h.2.2.2⟩
theorem FG.sA {i j a : Nat → Bool} {c : Bool} {D E : DD} {k : Nat} {f : Nat → Int32} (h : FG i j a c D E) (hk : a k = true) : FG i j a c D (setA E k f) := ⟨h.1, h.2.1, fun q hq => by
  rw [setA_a, if_neg (fun e => by rw [e, hk] at hq; cases hq)]
  exact h.2.2.1 q hq, h.2.2.2⟩
theorem FG.sC {i j a : Nat → Bool} {D E : DD} {f : Nat → Option Nat} (h : FG i j a true D E) : FG i j a true D (setC E f) := ⟨h.1, h.2.1, h.2.2.1, h.2.2.2.1, h.2.2.2.2.1, fun hc => by cases hc⟩
theorem FG.mono {i j a i' j' a' : Nat → Bool} {c c' : Bool} {D E : DD} (h : FG i j a c D E) (h1 : ∀ k, i' k = false → i k = false) (h2 : ∀ k, j' k = false → j k = false) (h3 : ∀ k, a' k = false → a k = false) (h4 : c' = false → c = false) : FG i' j' a' c' D E := ⟨fun k hk => h.1 k (h1 k hk), fun k hk => h.2.1 k (h2 k hk), fun k hk => h.2.2.1 k (h3 k hk), h.2.2.2.1, h.2.2.2.2.1, fun hc => h.2.2.2.2.2 (h4 hc)⟩
def n0 : Nat → Bool := fun _ => false
def fsI (k : Nat) : Bool := decide (k ≤ 3)
def fsJ (k : Nat) : Bool := k == 0
def faI (k : Nat) : Bool := decide (k ≤ 3) || scI k
def faA (k : Nat) : Bool := decide (k ≤ 3) || scA k
/-- the state alone -/
def FS : DD → DD → Prop := FG fsI fsJ fsI false
/-- the state and the workings -/
def FA : DD → DD → Prop := FG faI fsJ faA false
def frA (k : Nat) : Bool := k == 70 || smA k
/-- the reference's state and workings -/
def FR : DD → DD → Prop := FG smI n0 frA false
/-- all on the quarry's side -/
def gcI (k : Nat) : Bool := decide (k < 140)
def gcA (k : Nat) : Bool := decide (k < 70)
def gmI (k : Nat) : Bool := decide (140 ≤ k)
def gmA (k : Nat) : Bool := decide (70 ≤ k)
def GC : DD → DD → Prop := FG gcI (fun _ => true) gcA true
def GM : DD → DD → Prop := FG gmI n0 gmA false
theorem FS.fa {D E : DD} (h : FS D E) : FA D E := FG.mono h (fun k hk => by unfold faI at hk; rw [Bool.or_eq_false_iff] at hk; exact hk.1) (fun k hk => hk) (fun k hk => by unfold faA at hk; rw [Bool.or_eq_false_iff] at hk; exact hk.1) (fun h => h)
theorem FC.fg {D E : DD} (h : FC D E) : FG scI n0 scA false D E := ⟨h.1, fun k _ => by rw [h.2.1], h.2.2.1, by rw [h.2.2.2], by rw [h.2.2.2], fun _ => by rw [h.2.2.2]⟩
theorem FM.fg {D E : DD} (h : FM D E) : FG smI n0 smA false D E := ⟨h.1, fun k _ => by rw [h.2.1], h.2.2.1, by rw [h.2.2.2], by rw [h.2.2.2], fun _ => by rw [h.2.2.2]⟩
theorem FC.fa {D E : DD} (h : FC D E) : FA D E := FG.mono h.fg (fun k hk => by unfold faI at hk; rw [Bool.or_eq_false_iff] at hk; exact hk.2) (fun k hk => _root_.rfl) (fun k hk => by unfold faA at hk; rw [Bool.or_eq_false_iff] at hk; exact hk.2) (fun h => h)
theorem FM.fr {D E : DD} (h : FM D E) : FR D E := FG.mono h.fg (fun k hk => hk) (fun k hk => hk) (fun k hk => by unfold frA at hk; rw [Bool.or_eq_false_iff] at hk; exact hk.2) (fun h => h)
theorem FA.gc {D E : DD} (h : FA D E) : GC D E := FG.mono h (fun k hk => by
  have : 140 ≤ k := by simpa [gcI] using hk
  simp [faI, scI]
  omega) (fun k hk => by cases hk) (fun k hk => by
  have : 70 ≤ k := by simpa [gcA] using hk
  simp [faA, scA]
  omega) (fun h => by cases h)
theorem FR.gm {D E : DD} (h : FR D E) : GM D E := FG.mono h (fun k hk => by
  have : k < 140 := by simpa [gmI] using hk
  simp [smI]
  omega) (fun k hk => hk) (fun k hk => by
  have : k < 70 := by simpa [gmA] using hk
  simp [frA, smA]
  omega) (fun h => h)
theorem GC.i {D E : DD} (h : GC D E) {k : Nat} (hk : 140 ≤ k) : E.1 k = D.1 k := h.1 k (by simp [gcI]; omega)
theorem GC.a {D E : DD} (h : GC D E) {k : Nat} (hk : 70 ≤ k) : E.2.2.1 k = D.2.2.1 k := h.2.2.1 k (by simp [gcA]; omega)
theorem GM.i {D E : DD} (h : GM D E) {k : Nat} (hk : k < 140) : E.1 k = D.1 k := h.1 k (by simp [gmI]; omega)
theorem GM.j {D E : DD} (h : GM D E) (k : Nat) : E.2.1 k = D.2.1 k := h.2.1 k _root_.rfl
theorem GM.a {D E : DD} (h : GM D E) {k : Nat} (hk : k < 70) : E.2.2.1 k = D.2.2.1 k := h.2.2.1 k (by simp [gmA]; omega)
theorem FA.i {D E : DD} (h : FA D E) {k : Nat} (hk : 4 ≤ k) (h2 : k < 125 ∨ 128 ≤ k) : E.1 k = D.1 k := h.1 k (by simp [faI, scI]; omega)
theorem FA.j {D E : DD} (h : FA D E) {k : Nat} (hk : 1 ≤ k) : E.2.1 k = D.2.1 k := h.2.1 k (by simp [fsJ]; omega)
theorem FA.a {D E : DD} (h : FA D E) {k : Nat} (hk : 4 ≤ k) (h2 : k < 50 ∨ 64 ≤ k) : E.2.2.1 k = D.2.2.1 k := h.2.2.1 k (by simp [faA, scA]; omega)
theorem FS.i {D E : DD} (h : FS D E) {k : Nat} (hk : 4 ≤ k) : E.1 k = D.1 k := h.1 k (by simp [fsI]; omega)
theorem FS.a {D E : DD} (h : FS D E) {k : Nat} (hk : 4 ≤ k) : E.2.2.1 k = D.2.2.1 k := h.2.2.1 k (by simp [fsI]; omega)
theorem FR.i {D E : DD} (h : FR D E) {k : Nat} (hk : k ≠ 140) : E.1 k = D.1 k := h.1 k (by simp [smI]; omega)
theorem FR.a {D E : DD} (h : FR D E) {k : Nat} (hk : k < 70 ∨ 79 ≤ k ∨ (71 ≤ k ∧ k < 74)) : E.2.2.1 k = D.2.2.1 k := h.2.2.1 k (by simp [frA, smA]; omega)
/-- one of the quarry's states: 0 its own, 1 before, 2 the snapshot, 3 and on the ring -/
def QS (D : DD) (o : Nat) (v : Nat → Nat) : Prop := (∀ i, i < 36 → D.2.2.1 (4 * o) i = z (v (4 + i))) ∧ (∀ i, i < v 3 → D.2.2.1 (4 * o + 1) i = z (v (40 + 2 * i))) ∧ (∀ i, i < v 3 → D.2.2.1 (4 * o + 2) i = z (v (41 + 2 * i))) ∧ (∀ i, 1 ≤ i → i ≤ 10 → D.2.2.1 (4 * o + 3) i = z (v (51 + i))) ∧ D.1 (10 * o) = z (v 3) ∧ D.1 (10 * o + 1) = z ((v 1 : Int) - v 2) ∧ D.1 (10 * o + 2) = z (v 1) ∧ D.1 (10 * o + 3) = z (v 2) ∧ D.2.1 o = zl (v 0)
theorem CS_QS (D : DD) (v : Nat → Nat) : CS D v = QS D 0 v := rfl
theorem QS.ag {D E : DD} {o : Nat} {v : Nat → Nat} (h : QS D o v) (h1 : ∀ k, 10 * o ≤ k → k ≤ 10 * o + 3 → E.1 k = D.1 k) (h2 : E.2.1 o = D.2.1 o) (h3 : ∀ k, 4 * o ≤ k → k ≤ 4 * o + 3 → E.2.2.1 k = D.2.2.1 k) : QS E o v := by
  unfold QS
  rw [h1 (10 * o) (by omega) (by omega), h1 (10 * o + 1) (by omega) (by omega), h1 (10 * o + 2) (by omega) (by omega), h1 (10 * o + 3) (by omega) (by omega), h2, h3 (4 * o) (by omega) (by omega), h3 (4 * o + 1) (by omega) (by omega), h3 (4 * o + 2) (by omega) (by omega), h3 (4 * o + 3) (by omega) (by omega)]
  exact h
/-- the ring and what can be undone -/
def HC (D : DD) (n nx : Nat) (p : Nat → Nat → Nat) : Prop := D.1 123 = z nx ∧ D.1 124 = z n ∧ ∀ i, i < n → QS D ((nx + 8 - n + i) % 8 + 3) (p i)
theorem HC.ag {D E : DD} {n nx : Nat} {p : Nat → Nat → Nat} (h : HC D n nx p) (h1 : E.1 123 = D.1 123) (h2 : E.1 124 = D.1 124) (h3 : ∀ k, 30 ≤ k → k < 104 → E.1 k = D.1 k) (h4 : ∀ k, 3 ≤ k → k < 11 → E.2.1 k = D.2.1 k) (h5 : ∀ k, 12 ≤ k → k < 44 → E.2.2.1 k = D.2.2.1 k) : HC E n nx p := by
  unfold HC
  rw [h1, h2]
  refine ⟨h.1, h.2.1, fun i hi => ?_⟩
  have hm : (nx + 8 - n + i) % 8 < 8 := Nat.mod_lt _ (by omega)
  exact (h.2.2 i hi).ag (fun k _ _ => h3 k (by omega) (by omega)) (h4 _ (by omega) (by omega)) (fun k _ _ => h5 k (by omega) (by omega))
def NC (D : DD) (sf : Bool) (sv : Nat → Nat) : Prop := D.1 120 = z (zb sf) ∧ (sf = true → QS D 2 sv)
theorem NC.ag {D E : DD} {sf : Bool} {sv : Nat → Nat} (h : NC D sf sv) (h1 : E.1 120 = D.1 120) (h3 : ∀ k, 20 ≤ k → k < 24 → E.1 k = D.1 k) (h4 : E.2.1 2 = D.2.1 2) (h5 : ∀ k, 8 ≤ k → k < 12 → E.2.2.1 k = D.2.2.1 k) : NC E sf sv := by
  unfold NC
  rw [h1]
  exact ⟨h.1, fun hs => (h.2 hs).ag (fun k _ _ => h3 k (by omega) (by omega)) h4 (fun k _ _ => h5 k (by omega) (by omega))⟩
def EC (D : DD) (e f : Int) : Prop := D.1 121 = z e ∧ D.1 122 = z f
def LC (D : DD) (ln : Nat) (L : Nat → Nat) : Prop := D.1 128 = z ln ∧ ∀ i, i < ln → D.2.2.1 64 i = z (L i)
def TC (D : DD) (tn : Nat) (T : Nat → Nat) : Prop := D.1 129 = z tn ∧ ∀ i, i < tn → D.2.2.1 65 i = z (T i)
def HM (D : DD) (n : Nat) (p : Nat → Nat → Nat) : Prop := D.1 141 = z n ∧ ∀ i, i < n → ∀ k, k < 62 → D.2.2.1 73 (62 * i + k) = z (p i k)
def NM (D : DD) (sf : Bool) (sv : Nat → Nat) : Prop := D.1 144 = z (zb sf) ∧ (sf = true → ∀ k, k < 62 → D.2.2.1 72 k = z (sv k))
def EM (D : DD) (e f : Int) : Prop := D.1 142 = z e ∧ D.1 143 = z f
def LM (D : DD) (ln : Nat) (L : Nat → Nat) : Prop := D.1 148 = z ln ∧ ∀ i, i < ln → D.2.2.1 80 i = z (L i)
def TM (D : DD) (tn : Nat) (T : Nat → Nat) : Prop := D.1 145 = z tn ∧ ∀ i, i < tn → D.2.2.1 79 i = z (T i)
def WM (D : DD) : Prop := D.2.2.1 82 = wordsRow ∧ D.2.2.1 83 = wordAtRow
section II
variable {D E : DD} {n nx : Nat} {p : Nat → Nat → Nat} {sf : Bool} {sv : Nat → Nat} {e f : Int} {ln : Nat} {L : Nat → Nat} {tn : Nat} {T : Nat → Nat}
/-- all on the quarry's side but the state -/
def IP (D : DD) (n nx : Nat) (p : Nat → Nat → Nat) (sf : Bool) (sv : Nat → Nat) (e f : Int) (ln : Nat) (L : Nat → Nat) (tn : Nat) (T : Nat → Nat) : Prop := HC D n nx p ∧ NC D sf sv ∧ EC D e f ∧ LC D ln L ∧ TC D tn T
/-- all on the reference's side but the state -/
def IQ (D : DD) (n : Nat) (p : Nat → Nat → Nat) (sf : Bool) (sv : Nat → Nat) (e f : Int) (ln : Nat) (L : Nat → Nat) (tn : Nat) (T : Nat → Nat) : Prop := HM D n p ∧ NM D sf sv ∧ EM D e f ∧ LM D ln L ∧ TM D tn T ∧ WM D
theorem IP.ag (h : IP D n nx p sf sv e f ln L tn T) (hi : ∀ k, (20 ≤ k ∧ k < 125) ∨ k = 128 ∨ k = 129 → E.1 k = D.1 k) (hj : ∀ k, 2 ≤ k → E.2.1 k = D.2.1 k) (ha : ∀ k, (8 ≤ k ∧ k < 50) ∨ k = 64 ∨ k = 65 → E.2.2.1 k = D.2.2.1 k) : IP E n nx p sf sv e f ln L tn T := by
  obtain ⟨h1, h2, h3, h4, h5⟩ := h
  refine ⟨h1.ag (hi _ (by omega)) (hi _ (by omega)) (fun k _ _ => hi k (by omega)) (fun k _ _ => hj k (by omega)) (fun k _ _ => ha k (by omega)), h2.ag (hi _ (by omega)) (fun k _ _ => hi k (by omega)) (hj _ (by omega)) (fun k _ _ => ha k (by omega)), ?_, ?_, ?_⟩
  · unfold EC
    rw [hi 121 (by omega), hi 122 (by omega)]
    exact h3
  · unfold LC
    rw [hi 128 (by omega), ha 64 (by omega)]
    exact h4
  · unfold TC
    rw [hi 129 (by omega), ha 65 (by omega)]
    exact h5
theorem IP.fa (h : IP D n nx p sf sv e f ln L tn T) (g : FA D E) : IP E n nx p sf sv e f ln L tn T := h.ag (fun k hk => g.i (by omega) (by omega)) (fun k hk => g.j (by omega)) (fun k hk => g.a (by omega) (by omega))
theorem IP.gm (h : IP D n nx p sf sv e f ln L tn T) (g : GM D E) : IP E n nx p sf sv e f ln L tn T := h.ag (fun k hk => g.i (by omega)) (fun k hk => g.j k) (fun k hk => g.a (by omega))
theorem CS.gm {v : Nat → Nat} (h : CS D v) (g : GM D E) : CS E v := QS.ag (o := 0) h (fun k _ _ => g.i (by omega)) (g.j 0) (fun k _ _ => g.a (by omega))
theorem MR.gc {v : Nat → Nat} (h : MR D v) (g : GC D E) : MR E v := by
  unfold MR
  rw [g.a (by omega)]
  exact h
theorem IQ.ag (h : IQ D n p sf sv e f ln L tn T) (hi : ∀ k, (141 ≤ k ∧ k ≤ 145) ∨ k = 148 → E.1 k = D.1 k) (ha : ∀ k, k = 72 ∨ k = 73 ∨ k = 79 ∨ k = 80 ∨ k = 82 ∨ k = 83 → E.2.2.1 k = D.2.2.1 k) : IQ E n p sf sv e f ln L tn T := by
  unfold IQ HM NM EM LM TM WM
  rw [hi 141 (by omega), hi 142 (by omega), hi 143 (by omega), hi 144 (by omega), hi 145 (by omega), hi 148 (by omega), ha 72 (by omega), ha 73 (by omega), ha 79 (by omega), ha 80 (by omega), ha 82 (by omega), ha 83 (by omega)]
  exact h
theorem IQ.fr (h : IQ D n p sf sv e f ln L tn T) (g : FR D E) : IQ E n p sf sv e f ln L tn T := h.ag (fun k hk => g.i (by omega)) (fun k hk => g.a (by omega))
theorem IQ.gc (h : IQ D n p sf sv e f ln L tn T) (g : GC D E) : IQ E n p sf sv e f ln L tn T := h.ag (fun k hk => g.i (by omega)) (fun k hk => g.a (by omega))
/-- what holds of the values -/
def IW (v : Nat → Nat) (n nx : Nat) (p : Nat → Nat → Nat) (sf : Bool) (sv : Nat → Nat) (e f : Int) (ln : Nat) (L : Nat → Nat) (tn : Nat) (T : Nat → Nat) : Prop := WF v ∧ n ≤ 8 ∧ nx < 8 ∧ (∀ i, i < n → WF (p i)) ∧ (sf = true → WF sv) ∧ (-1 ≤ e ∧ e ≤ 100) ∧ (-1 ≤ f ∧ f ≤ 100) ∧ ln ≤ 7 ∧ (∀ i, i < ln → L i < 128) ∧ tn ≤ 60 ∧ ∀ i, i < tn → 32 ≤ T i ∧ T i ≤ 126
def IV (D : DD) (v : Nat → Nat) (n nx : Nat) (p : Nat → Nat → Nat) (sf : Bool) (sv : Nat → Nat) (e f : Int) (ln : Nat) (L : Nat → Nat) (tn : Nat) (T : Nat → Nat) : Prop := CS D v ∧ IP D n nx p sf sv e f ln L tn T ∧ MR D v ∧ IQ D n p sf sv e f ln L tn T ∧ IW v n nx p sf sv e f ln L tn T
theorem IV.q {v : Nat → Nat} {F : DD} (h : IV D v n nx p sf sv e f ln L tn T) (g : FC D E) (g2 : FM E F) : IV F v n nx p sf sv e f ln L tn T := by
  obtain ⟨h1, h2, h3, h4, h5⟩ := h
  exact ⟨(h1.fc g).fm g2, (h2.fa g.fa).gm g2.fr.gm, (h3.fc g).fm g2, (h4.gc g.fa.gc).fr g2.fr, h5⟩
end II
/-- the law's invariant -/
def Inv (D : DD) : Prop := ∃ v n nx p sf sv e f ln L tn T, IV D v n nx p sf sv e f ln L tn T
