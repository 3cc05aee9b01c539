/-! pure: walks through the wall and their costs -/
theorem min_ex (P : Nat → Prop) (f : Nat → Nat) (h : ∃ x, P x) : ∃ x, P x ∧ ∀ y, P y → f x ≤ f y := by
  obtain ⟨x, hx⟩ := h
  have key : ∀ n x, f x ≤ n → P x → ∃ x, P x ∧ ∀ y, P y → f x ≤ f y := by
    intro n
    induction n with
    | zero =>
      intro x h hx
      exact ⟨x, hx, fun y _ => by omega⟩
    | succ n ih =>
      intro x h hx
      by_cases hy : ∃ y, P y ∧ f y < f x
      · obtain ⟨y, h1, h2⟩ := hy
        exact ih y (by omega) h1
      · exact ⟨x, hx, fun y h1 => Nat.not_lt.mp (fun h2 => hy ⟨y, h1, h2⟩)⟩
  exact key (f x) x (Nat.le_refl _) hx
/-- a walk of n steps from the west to a cell, and its cost -/
def Rn (v : Nat → Nat) : Nat → Nat → Nat → Prop
  | 0, c, k => c < 36 ∧ c % 6 = 0 ∧ k = v (4 + c)
  | n + 1, c, k => c < 36 ∧ ∃ x k', Rn v n x k' ∧ adj x c ∧ k = k' + v (4 + c)
theorem Rn.lt {v : Nat → Nat} {n c k : Nat} (h : Rn v n c k) : c < 36 := by
  cases n with
  | zero => exact h.1
  | succ n => exact h.1
theorem Rn.ex {v : Nat → Nat} (hW : WF v) : ∀ j c, c < 36 → c % 6 = j → ∃ k, Rn v j c k ∧ k ≤ 9 * (j + 1) := by
  intro j
  induction j with
  | zero =>
    intro c hc h
    exact ⟨v (4 + c), ⟨hc, h, rfl⟩, by have := hW.1 c hc; omega⟩
  | succ j ih =>
    intro c hc h
    obtain ⟨k, h1, h2⟩ := ih (c - 1) (by omega) (by omega)
    refine ⟨k + v (4 + c), ⟨hc, c - 1, k, h1, ?_, rfl⟩, by have := hW.1 c hc; omega⟩
    unfold adj
    omega
/-- the least cost of a tunnel -/
def IsMin (v : Nat → Nat) (A : Nat) : Prop := (∃ n c, c % 6 = 5 ∧ Rn v n c A) ∧ ∀ n c k, c % 6 = 5 → Rn v n c k → A ≤ k
theorem IsMin.ex {v : Nat → Nat} (hW : WF v) : ∃ A, IsMin v A := by
  obtain ⟨k0, h0, -⟩ := Rn.ex hW 5 5 (by decide) (by decide)
  obtain ⟨A, h1, h2⟩ := min_ex (fun k => ∃ n c, c % 6 = 5 ∧ Rn v n c k) id ⟨k0, 5, 5, by decide, h0⟩
  exact ⟨A, h1, fun n c k h3 h4 => h2 k ⟨n, c, h3, h4⟩⟩
theorem IsMin.uniq {v : Nat → Nat} {A B : Nat} (h : IsMin v A) (g : IsMin v B) : A = B := by
  obtain ⟨⟨n, c, h1, h2⟩, h3⟩ := h
  obtain ⟨⟨m, d, g1, g2⟩, g3⟩ := g
  have := h3 m d B g1 g2
  have := g3 n c A h1 h2
  omega
theorem IsMin.le {v : Nat → Nat} (hW : WF v) {A : Nat} (h : IsMin v A) : A ≤ 54 := by
  obtain ⟨k0, h0, h1⟩ := Rn.ex hW 5 5 (by decide) (by decide)
  have := h.2 5 5 k0 (by decide) h0
  omega
/-- the least cost to a cell, and the fewest steps at that cost -/
theorem opt_ex {v : Nat → Nat} (hW : WF v) : ∃ o hp : Nat → Nat, ∀ c, c < 36 → Rn v (hp c) c (o c) ∧ (∀ n k, Rn v n c k → o c ≤ k) ∧ ∀ n, Rn v n c (o c) → hp c ≤ n := by
  have h : ∀ c, ∃ q : Nat × Nat, c < 36 → Rn v q.2 c q.1 ∧ (∀ n k, Rn v n c k → q.1 ≤ k) ∧ ∀ n, Rn v n c q.1 → q.2 ≤ n := by
    intro c
    by_cases hc : c < 36
    · obtain ⟨k0, h0, -⟩ := Rn.ex hW (c % 6) c hc rfl
      obtain ⟨k, ⟨n0, h1⟩, h2⟩ := min_ex (fun k => ∃ n, Rn v n c k) id ⟨k0, _, h0⟩
      obtain ⟨n, h3, h4⟩ := min_ex (fun n => Rn v n c k) id ⟨n0, h1⟩
      exact ⟨(k, n), fun _ => ⟨h3, fun n k h => h2 k ⟨n, h⟩, fun n h => h4 n h⟩⟩
    · exact ⟨(0, 0), fun h => absurd h hc⟩
  obtain ⟨f, hf⟩ := Classical.axiomOfChoice h
  exact ⟨fun c => (f c).1, fun c => (f c).2, hf⟩
/-- costs so far: of a walk, or none yet -/
def Ok (v : Nat → Nat) (B : Nat) (m : Nat → Nat) : Prop := (∀ c, c < 36 → m c = B ∨ ∃ n, Rn v n c (m c)) ∧ (∀ c, c < 36 → m c ≤ B) ∧ ∀ c, c < 36 → c % 6 = 0 → m c ≤ v (4 + c)
/-- one round over all cells -/
def Pass (v m m' : Nat → Nat) : Prop := (∀ c, c < 36 → m' c ≤ m c) ∧ ∀ x c, x < 36 → c < 36 → adj x c → m' c ≤ m x + v (4 + c)
theorem opt_lo {v : Nat → Nat} (hW : WF v) {o hp : Nat → Nat} (ho : ∀ c, c < 36 → Rn v (hp c) c (o c) ∧ (∀ n k, Rn v n c k → o c ≤ k) ∧ ∀ n, Rn v n c (o c) → hp c ≤ n) {B : Nat} (hB : 54 ≤ B) {m : Nat → Nat} (hm : Ok v B m) {c : Nat} (hc : c < 36) : o c ≤ m c := by
  obtain ⟨k, h1, h2⟩ := Rn.ex hW (c % 6) c hc rfl
  have h3 := (ho c hc).2.1 _ _ h1
  rcases hm.1 c hc with h | ⟨n, h⟩
  · omega
  · exact (ho c hc).2.1 n _ h
/-- a round brings one more cell to its least cost, if one is missing -/
theorem pass_more {v : Nat → Nat} (hW : WF v) {o hp : Nat → Nat} (ho : ∀ c, c < 36 → Rn v (hp c) c (o c) ∧ (∀ n k, Rn v n c k → o c ≤ k) ∧ ∀ n, Rn v n c (o c) → hp c ≤ n) {B : Nat} (hB : 54 ≤ B) {m m' : Nat → Nat} (hm : Ok v B m) (hm' : Ok v B m') (hp1 : Pass v m m') (hex : ∃ c, c < 36 ∧ m c ≠ o c) : cnt (fun c => decide (m c = o c)) 36 < cnt (fun c => decide (m' c = o c)) 36 := by
  obtain ⟨c1, h1, h2⟩ := min_ex (fun c => c < 36 ∧ m c ≠ o c) o hex
  obtain ⟨c, ⟨⟨hc, hne⟩, he⟩, h4⟩ := min_ex (fun c => (c < 36 ∧ m c ≠ o c) ∧ o c = o c1) hp ⟨c1, h1, rfl⟩
  have hlo := opt_lo hW ho hB hm hc
  have hlo' := opt_lo hW ho hB hm' hc
  have hgood : m' c = o c := by
    have hr := (ho c hc).1
    cases hn : hp c with
    | zero =>
      rw [hn] at hr
      have := hm.2.2 c hc hr.2.1
      have := hr.2.2
      omega
    | succ n =>
      rw [hn] at hr
      obtain ⟨-, x, k', r1, r2, r3⟩ := hr
      have hx := r1.lt
      have o1 := (ho x hx).2.1 n k' r1
      have o2 := (ho c hc).2.1 (hp x + 1) (o x + v (4 + c)) ⟨hc, x, o x, (ho x hx).1, r2, rfl⟩
      have o3 : o x = k' := by omega
      have hcor : m x = o x := by
        apply Decidable.byContradiction
        intro hx2
        have q1 := h2 x ⟨hx, hx2⟩
        have q2 : o x = o c1 := by omega
        have q3 := h4 x ⟨⟨hx, hx2⟩, q2⟩
        have q4 := (ho x hx).2.2 n (by rw [o3]; exact r1)
        omega
      have := hp1.2 x c hx hc r2
      omega
  have hmono : ∀ j, j < 36 → (decide (m j = o j)) = true → (decide (m' j = o j)) = true := fun j hj h => by
    rw [decide_eq_true_eq] at h ⊢
    have := hp1.1 j hj
    have := opt_lo hW ho hB hm' hj
    omega
  rcases Nat.lt_or_ge (cnt (fun c => decide (m c = o c)) 36) (cnt (fun c => decide (m' c = o c)) 36) with h | h
  · exact h
  · have h5 := cnt_mono 36 hmono
    have h6 := cnt_eq_of 36 hmono (by omega) c hc
    rw [decide_eq_false hne, decide_eq_true hgood] at h6
    cases h6
theorem cnt_all {p : Nat → Bool} : ∀ n, cnt p n = n → ∀ j, j < n → p j = true
  | 0, _ => fun j h => by omega
  | n + 1, h => by
    rw [cnt] at h
    have h1 := cnt_le p n
    have h2 : p n = true := by
      cases hp : p n
      · rw [hp] at h
        simp at h
        omega
      · rfl
    intro j hj
    by_cases e : j = n
    · rw [e]
      exact h2
    · rw [h2] at h
      simp at h
      exact cnt_all n (by omega) j (by omega)
/-- costs that no step makes less are the least ones -/
theorem still {v : Nat → Nat} {m : Nat → Nat} (h1 : ∀ c, c < 36 → c % 6 = 0 → m c ≤ v (4 + c)) (h2 : ∀ x c, x < 36 → c < 36 → adj x c → m c ≤ m x + v (4 + c)) : ∀ n c k, Rn v n c k → m c ≤ k := by
  intro n
  induction n with
  | zero =>
    intro c k h
    have := h1 c h.1 h.2.1
    have := h.2.2
    omega
  | succ n ih =>
    intro c k h
    obtain ⟨hc, x, k', r1, r2, r3⟩ := h
    have := ih x k' r1
    have := h2 x c r1.lt hc r2
    omega
theorem min_of {v : Nat → Nat} (hW : WF v) {B : Nat} (hB : 54 < B) {m : Nat → Nat} (hm : Ok v B m) (h : ∀ n c k, Rn v n c k → m c ≤ k) {A : Nat} (h1 : ∀ r, r < 6 → A ≤ m (6 * r + 5)) (h2 : A = B ∨ ∃ r, r < 6 ∧ A = m (6 * r + 5)) : IsMin v A := by
  have hx : ∃ n c, c % 6 = 5 ∧ Rn v n c A := by
    obtain ⟨k, g1, g2⟩ := Rn.ex hW 5 5 (by decide) (by decide)
    have g3 := h 5 5 k g1
    have g4 : A ≤ m 5 := h1 0 (by decide)
    rcases h2 with h2 | ⟨r, h2, h3⟩
    · omega
    · rcases hm.1 (6 * r + 5) (by omega) with q | ⟨n, q⟩
      · omega
      · exact ⟨n, 6 * r + 5, by omega, by rw [h3]; exact q⟩
  refine ⟨hx, fun n c k hc hr => ?_⟩
  have g1 := h n c k hr
  have g2 := hr.lt
  have g3 := h1 (c / 6) (by omega)
  rw [show 6 * (c / 6) + 5 = c by omega] at g3
  omega
/-- going on from the nearest cell: what a walk meets -/
theorem meets {v : Nat → Nat} {m : Nat → Nat} {S : Nat → Bool} (h1 : ∀ c, c < 36 → c % 6 = 0 → m c ≤ v (4 + c)) (h2 : ∀ x c, x < 36 → c < 36 → S x = true → adj x c → m c ≤ m x + v (4 + c)) : ∀ n c k, Rn v n c k → (S c = true ∧ m c ≤ k) ∨ ∃ w, w < 36 ∧ S w = false ∧ m w ≤ k := by
  have fin : ∀ c k, c < 36 → m c ≤ k → (S c = true ∧ m c ≤ k) ∨ ∃ w, w < 36 ∧ S w = false ∧ m w ≤ k := by
    intro c k hc h
    cases hS : S c with
    | true => exact Or.inl ⟨rfl, h⟩
    | false => exact Or.inr ⟨c, hc, hS, h⟩
  intro n
  induction n with
  | zero =>
    intro c k h
    exact fin c k h.1 (by have := h1 c h.1 h.2.1; have := h.2.2; omega)
  | succ n ih =>
    intro c k h
    obtain ⟨hc, x, k', r1, r2, r3⟩ := h
    rcases ih x k' r1 with ⟨s1, s2⟩ | ⟨w, s1, s2, s3⟩
    · exact fin c k hc (by have := h2 x c r1.lt hc s1 r2; omega)
    · exact Or.inr ⟨w, s1, s2, by omega⟩
