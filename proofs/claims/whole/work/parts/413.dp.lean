/-! pure: slabs, cell by cell -/
def mx (f : Nat → Int) (r : Nat) (x : Int) : Nat → Int := fun j => if j = r ∧ f j < x then x else f j
theorem mx_ge (f : Nat → Int) (r : Nat) (x : Int) (j : Nat) : f j ≤ mx f r x j := by
  unfold mx
  split <;> omega
theorem mx_at (f : Nat → Int) (r : Nat) (x : Int) : x ≤ mx f r x r := by
  unfold mx
  split <;> omega
theorem mx_or (f : Nat → Int) (r : Nat) (x : Int) (j : Nat) : mx f r x j = f j ∨ (j = r ∧ mx f r x j = x) := by
  unfold mx
  split
  · rename_i h
    exact Or.inr ⟨h.1, rfl⟩
  · exact Or.inl rfl
/-- what one covering s of the cells from c on leads to -/
def dp1 (v : Nat → Nat) (c : Nat) (f : Nat → Int) (s : Nat) (g : Nat → Int) : Nat → Int :=
  if s % 2 = 1 ∨ v (4 + c) ≠ 0 then mx g (s / 2) (f s) else
  if c + 6 < 36 ∧ v (4 + (c + 6)) = 0 then mx (if c % 6 < 5 ∧ v (4 + (c + 1)) = 0 ∧ s / 2 % 2 = 0 then mx (mx g (s / 2) (f s)) (s / 2 ||| 1) (f s + 1) else mx g (s / 2) (f s)) (s / 2 ||| 32) (f s + 1)
  else (if c % 6 < 5 ∧ v (4 + (c + 1)) = 0 ∧ s / 2 % 2 = 0 then mx (mx g (s / 2) (f s)) (s / 2 ||| 1) (f s + 1) else mx g (s / 2) (f s))
/-- all coverings below k -/
def dpK (v : Nat → Nat) (c : Nat) (f : Nat → Int) (B : Int) : Nat → (Nat → Int)
  | 0 => fun _ => B
  | k + 1 => if f k < 0 then dpK v c f B k else dp1 v c f k (dpK v c f B k)
/-- the table after the first c cells -/
def dpT (v : Nat → Nat) (B : Int) : Nat → (Nat → Int)
  | 0 => fun s => if s = 0 then 0 else B
  | c + 1 => dpK v c (dpT v B c) B 64
/-- one entry of the next table comes from one of the last -/
def From (v : Nat → Nat) (c : Nat) (f : Nat → Int) (k : Nat) (j : Nat) (x : Int) : Prop := ∃ s, s < k ∧ 0 ≤ f s ∧ ((j = s / 2 ∧ x = f s) ∨ (s % 2 = 0 ∧ v (4 + c) = 0 ∧ c % 6 < 5 ∧ v (4 + (c + 1)) = 0 ∧ s / 2 % 2 = 0 ∧ j = s / 2 ||| 1 ∧ x = f s + 1) ∨ (s % 2 = 0 ∧ v (4 + c) = 0 ∧ c + 6 < 36 ∧ v (4 + (c + 6)) = 0 ∧ j = s / 2 ||| 32 ∧ x = f s + 1))
theorem From.mono {v : Nat → Nat} {c : Nat} {f : Nat → Int} {k j : Nat} {x : Int} (h : From v c f k j x) : From v c f (k + 1) j x := by
  obtain ⟨s, h1, h2⟩ := h
  exact ⟨s, by omega, h2⟩
theorem dpK_from {v : Nat → Nat} {c : Nat} {f : Nat → Int} {B : Int} (hB : B < 0) : ∀ k j, 0 ≤ dpK v c f B k j → From v c f k j (dpK v c f B k j)
  | 0, j, h => by
    have h : 0 ≤ B := h
    omega
  | k + 1, j, h => by
    rw [dpK] at h ⊢
    by_cases hk : f k < 0
    · rw [if_pos hk] at h ⊢
      exact (dpK_from hB k j h).mono
    · rw [if_neg hk] at h ⊢
      have old : ∀ q : Nat → Int, q j = dpK v c f B k j → 0 ≤ q j → From v c f (k + 1) j (q j) := fun q e h0 => by
        rw [e] at h0 ⊢
        exact (dpK_from hB k j h0).mono
      unfold dp1 at h ⊢
      generalize hg : dpK v c f B k = g at h ⊢ old
      have one : 0 ≤ mx g (k / 2) (f k) j → From v c f (k + 1) j (mx g (k / 2) (f k) j) := fun h0 => by
        rcases mx_or g (k / 2) (f k) j with e | ⟨e1, e2⟩
        · exact old _ e h0
        · exact ⟨k, by omega, by omega, Or.inl ⟨e1, e2⟩⟩
      split at h
      · rename_i hc
        rw [if_pos hc]
        exact one h
      · rename_i hc
        rw [if_neg hc]
        have two : 0 ≤ (if c % 6 < 5 ∧ v (4 + (c + 1)) = 0 ∧ k / 2 % 2 = 0 then mx (mx g (k / 2) (f k)) (k / 2 ||| 1) (f k + 1) else mx g (k / 2) (f k)) j → From v c f (k + 1) j ((if c % 6 < 5 ∧ v (4 + (c + 1)) = 0 ∧ k / 2 % 2 = 0 then mx (mx g (k / 2) (f k)) (k / 2 ||| 1) (f k + 1) else mx g (k / 2) (f k)) j) := fun h0 => by
          split at h0
          · rename_i h2
            rw [if_pos h2]
            rcases mx_or (mx g (k / 2) (f k)) (k / 2 ||| 1) (f k + 1) j with e | ⟨e1, e2⟩
            · rw [e] at h0 ⊢
              exact one h0
            · exact ⟨k, by omega, by omega, Or.inr (Or.inl ⟨by omega, by omega, h2.1, h2.2.1, h2.2.2, e1, e2⟩)⟩
          · rename_i h2
            rw [if_neg h2]
            exact one h0
        split at h
        · rename_i h3
          rw [if_pos h3]
          rcases mx_or (if c % 6 < 5 ∧ v (4 + (c + 1)) = 0 ∧ k / 2 % 2 = 0 then mx (mx g (k / 2) (f k)) (k / 2 ||| 1) (f k + 1) else mx g (k / 2) (f k)) (k / 2 ||| 32) (f k + 1) j with e | ⟨e1, e2⟩
          · rw [e] at h ⊢
            exact two h
          · exact ⟨k, by omega, by omega, Or.inr (Or.inr ⟨by omega, by omega, h3.1, h3.2, e1, e2⟩)⟩
        · rename_i h3
          rw [if_neg h3]
          exact two h
theorem dpK_ge {v : Nat → Nat} {c : Nat} {f : Nat → Int} {B : Int} : ∀ k s, s < k → 0 ≤ f s → f s ≤ dpK v c f B k (s / 2) ∧ (s % 2 = 0 → v (4 + c) = 0 → c % 6 < 5 → v (4 + (c + 1)) = 0 → s / 2 % 2 = 0 → f s + 1 ≤ dpK v c f B k (s / 2 ||| 1)) ∧ (s % 2 = 0 → v (4 + c) = 0 → c + 6 < 36 → v (4 + (c + 6)) = 0 → f s + 1 ≤ dpK v c f B k (s / 2 ||| 32))
  | 0, s, h, _ => by omega
  | k + 1, s, h, h0 => by
    rw [dpK]
    have up : ∀ j, dpK v c f B k j ≤ (if f k < 0 then dpK v c f B k else dp1 v c f k (dpK v c f B k)) j := by
      intro j
      split
      · exact Int.le_refl _
      · generalize dpK v c f B k = g
        unfold dp1
        have m1 := mx_ge g (k / 2) (f k) j
        have m2 := mx_ge (mx g (k / 2) (f k)) (k / 2 ||| 1) (f k + 1) j
        split
        · exact m1
        · split
          · split
            · have := mx_ge (mx (mx g (k / 2) (f k)) (k / 2 ||| 1) (f k + 1)) (k / 2 ||| 32) (f k + 1) j
              omega
            · have := mx_ge (mx g (k / 2) (f k)) (k / 2 ||| 32) (f k + 1) j
              omega
          · split
            · omega
            · exact m1
    by_cases e : s = k
    · subst e
      rw [if_neg (by omega)]
      generalize dpK v c f B s = g
      unfold dp1
      have m1 := mx_at g (s / 2) (f s)
      have m2 := mx_ge (mx g (s / 2) (f s)) (s / 2 ||| 1) (f s + 1) (s / 2)
      have m3 := mx_ge (mx (mx g (s / 2) (f s)) (s / 2 ||| 1) (f s + 1)) (s / 2 ||| 32) (f s + 1) (s / 2)
      have m4 := mx_ge (mx g (s / 2) (f s)) (s / 2 ||| 32) (f s + 1) (s / 2)
      have m5 := mx_at (mx g (s / 2) (f s)) (s / 2 ||| 1) (f s + 1)
      have m6 := mx_ge (mx (mx g (s / 2) (f s)) (s / 2 ||| 1) (f s + 1)) (s / 2 ||| 32) (f s + 1) (s / 2 ||| 1)
      have m7 := mx_at (mx (mx g (s / 2) (f s)) (s / 2 ||| 1) (f s + 1)) (s / 2 ||| 32) (f s + 1)
      have m8 := mx_at (mx g (s / 2) (f s)) (s / 2 ||| 32) (f s + 1)
      refine ⟨?_, fun g1 g2 g3 g4 g5 => ?_, fun g1 g2 g3 g4 => ?_⟩
      · split
        · exact m1
        · split
          · split <;> omega
          · split <;> omega
      · rw [if_neg (by omega)]
        split
        · rw [if_pos ⟨g3, g4, g5⟩]
          omega
        · rw [if_pos ⟨g3, g4, g5⟩]
          omega
      · rw [if_neg (by omega), if_pos ⟨g3, g4⟩]
        split <;> omega
    · obtain ⟨q1, q2, q3⟩ := dpK_ge (v := v) (c := c) (f := f) (B := B) k s (by omega) h0
      exact ⟨Int.le_trans q1 (up _), fun g1 g2 g3 g4 g5 => Int.le_trans (q2 g1 g2 g3 g4 g5) (up _), fun g1 g2 g3 g4 => Int.le_trans (q3 g1 g2 g3 g4) (up _)⟩
/-- six bits as a number -/
def mk6 (f : Nat → Bool) : Nat := (if f 0 then 1 else 0) + (if f 1 then 2 else 0) + (if f 2 then 4 else 0) + (if f 3 then 8 else 0) + (if f 4 then 16 else 0) + (if f 5 then 32 else 0)
theorem mk6_all : ∀ a b c d e g : Bool, let m := (if a then 1 else 0) + (if b then 2 else 0) + (if c then 4 else 0) + (if d then 8 else 0) + (if e then 16 else 0) + (if g then 32 else 0); m < 64 ∧ m.testBit 0 = a ∧ m.testBit 1 = b ∧ m.testBit 2 = c ∧ m.testBit 3 = d ∧ m.testBit 4 = e ∧ m.testBit 5 = g := by decide +kernel
theorem mk6_lt (f : Nat → Bool) : mk6 f < 64 := (mk6_all (f 0) (f 1) (f 2) (f 3) (f 4) (f 5)).1
theorem mk6_bit (f : Nat → Bool) {k : Nat} (h : k < 6) : (mk6 f).testBit k = f k := by
  obtain ⟨-, h0, h1, h2, h3, h4, h5⟩ := mk6_all (f 0) (f 1) (f 2) (f 3) (f 4) (f 5)
  have : k = 0 ∨ k = 1 ∨ k = 2 ∨ k = 3 ∨ k = 4 ∨ k = 5 := by omega
  rcases this with rfl | rfl | rfl | rfl | rfl | rfl
  · exact h0
  · exact h1
  · exact h2
  · exact h3
  · exact h4
  · exact h5
/-- a number of slabs with a laying of as many, and with as many cells that meet all pairs -/
def IsK (v : Nat → Nat) (K : Nat) : Prop := (∃ p : Nat → Nat, (∀ c, c < 36 → p c < 36 ∧ p (p c) = c ∧ (p c ≠ c → adj c (p c) ∧ v (4 + c) = 0 ∧ v (4 + p c) = 0)) ∧ K ≤ cnt (fun c => decide (c < p c)) 36) ∧ ∃ C : Nat → Bool, (∀ a b, a < 36 → b < 36 → adj a b → v (4 + a) = 0 → v (4 + b) = 0 → C a = true ∨ C b = true) ∧ cnt C 36 ≤ K
/-- the cells that a table's entry has used -/
def usd (c s : Nat) : Nat → Bool := fun x => decide (x < c) || (decide (c ≤ x) && s.testBit (x - c))
theorem half_bit (s k : Nat) : (s / 2).testBit k = s.testBit (k + 1) := (Nat.testBit_succ s k).symm
theorem bit0 (s : Nat) : s.testBit 0 = decide (s % 2 = 1) := Nat.testBit_zero s
theorem or1_bit (m k : Nat) : (m ||| 1).testBit k = (m.testBit k || decide (k = 0)) := by
  have := or_bit m 0 k
  rw [Nat.pow_zero] at this
  rw [this]
  congr 1
  exact decide_eq_decide.mpr ⟨fun h => h.symm, fun h => h.symm⟩
theorem or32_bit (m k : Nat) : (m ||| 32).testBit k = (m.testBit k || decide (k = 5)) := by
  have := or_bit m 5 k
  rw [show 2 ^ 5 = 32 by decide] at this
  rw [this]
  congr 1
  exact decide_eq_decide.mpr ⟨fun h => h.symm, fun h => h.symm⟩
theorem dp_upper {v : Nat → Nat} {C : Nat → Bool} (hC : ∀ a b, a < 36 → b < 36 → adj a b → v (4 + a) = 0 → v (4 + b) = 0 → C a = true ∨ C b = true) {B : Int} (hB : B < 0) : ∀ c, c ≤ 36 → ∀ s, s < 64 → 0 ≤ dpT v B c s → (∀ k, k < 6 → s.testBit k = true → c + k < 36) ∧ dpT v B c s ≤ cnt (fun x => C x && usd c s x) 36
  | 0, _, s, hs, h => by
    have h : 0 ≤ (if s = 0 then 0 else B) := h
    have e : s = 0 := by
      apply Decidable.byContradiction
      intro e
      rw [if_neg e] at h
      omega
    subst e
    refine ⟨fun k _ h => ?_, ?_⟩
    · rw [Nat.zero_testBit] at h
      cases h
    · show (0 : Int) ≤ _
      omega
  | c + 1, hc, s', hs', h => by
    rw [dpT] at h ⊢
    obtain ⟨s, h1, h2, h3⟩ := dpK_from hB 64 s' h
    obtain ⟨u1, u2⟩ := dp_upper hC hB c (by omega) s h1 h2
    have u3 : ∀ k, k < 6 → (s / 2).testBit k = true → c + 1 + k < 36 := by
      intro k hk hb
      rw [half_bit] at hb
      by_cases e : k = 5
      · subst e
        rw [Nat.testBit_lt_two_pow (by omega)] at hb
        cases hb
      · have := u1 (k + 1) (by omega) hb
        omega
    have sub : ∀ t x, (∀ k, (s / 2).testBit k = true → t.testBit k = true) → usd c s x = true → usd (c + 1) t x = true := by
      intro t x ht hx
      unfold usd at hx ⊢
      rw [Bool.or_eq_true, Bool.and_eq_true, decide_eq_true_eq, decide_eq_true_eq] at hx ⊢
      rcases hx with hx | ⟨hx, hb⟩
      · exact Or.inl (by omega)
      · by_cases e : x = c
        · exact Or.inl (by omega)
        · refine Or.inr ⟨by omega, ht _ ?_⟩
          rw [half_bit, show x - (c + 1) + 1 = x - c by omega]
          exact hb
    have grow : ∀ t, (∀ k, (s / 2).testBit k = true → t.testBit k = true) → cnt (fun x => C x && usd c s x) 36 ≤ cnt (fun x => C x && usd (c + 1) t x) 36 := by
      intro t ht
      refine cnt_mono 36 (fun x _ hx => ?_)
      rw [Bool.and_eq_true] at hx ⊢
      exact ⟨hx.1, sub t x ht hx.2⟩
    have more : ∀ t b, (∀ k, (s / 2).testBit k = true → t.testBit k = true) → b < 36 → c < b → adj c b → v (4 + c) = 0 → v (4 + b) = 0 → s % 2 = 0 → s.testBit (b - c) = false → t.testBit (b - (c + 1)) = true → cnt (fun x => C x && usd c s x) 36 + 1 ≤ cnt (fun x => C x && usd (c + 1) t x) 36 := by
      intro t b ht hb hcb hadj o1 o2 hs0 hsb htb
      have hw : ∃ w, w < 36 ∧ C w = true ∧ usd c s w = false ∧ usd (c + 1) t w = true := by
        rcases hC c b (by omega) hb hadj o1 o2 with g | g
        · refine ⟨c, by omega, g, ?_, ?_⟩
          · unfold usd
            rw [Nat.sub_self, bit0]
            simp
            omega
          · unfold usd
            simp
        · refine ⟨b, hb, g, ?_, ?_⟩
          · unfold usd
            rw [hsb]
            simp
            omega
          · unfold usd
            rw [htb]
            simp
            omega
      obtain ⟨w, w1, w2, w3, w4⟩ := hw
      have e := cnt_ub (p := fun x => C x && usd c s x) w1 (by rw [w3, Bool.and_false])
      have m := cnt_mono (p := ub (fun x => C x && usd c s x) w) (q := fun x => C x && usd (c + 1) t x) 36 (fun x _ hx => by
        by_cases ew : x = w
        · rw [ew, w2, w4]
          rfl
        · rw [ub_ne _ ew, Bool.and_eq_true] at hx
          rw [Bool.and_eq_true]
          exact ⟨hx.1, sub t x ht hx.2⟩)
      omega
    rcases h3 with ⟨e1, e2⟩ | ⟨g1, g2, g3, g4, g5, e1, e2⟩ | ⟨g1, g2, g3, g4, e1, e2⟩
    · rw [e2, e1]
      exact ⟨u3, Int.le_trans u2 (by have := grow (s / 2) (fun k h => h); omega)⟩
    · rw [e2, e1]
      have hb1 : s.testBit 1 = false := by
        rw [← half_bit, bit0]
        simp
        omega
      refine ⟨fun k hk hb => ?_, ?_⟩
      · rw [or1_bit, Bool.or_eq_true, decide_eq_true_eq] at hb
        rcases hb with hb | rfl
        · exact u3 k hk hb
        · omega
      · have := more (s / 2 ||| 1) (c + 1) (fun k h => by rw [or1_bit, h]; rfl) (by omega) (by omega) (by unfold adj; omega) g2 g4 g1 (by rw [show c + 1 - c = 1 by omega]; exact hb1) (by rw [Nat.sub_self, or1_bit]; simp)
        omega
    · rw [e2, e1]
      refine ⟨fun k hk hb => ?_, ?_⟩
      · rw [or32_bit, Bool.or_eq_true, decide_eq_true_eq] at hb
        rcases hb with hb | rfl
        · exact u3 k hk hb
        · omega
      · have := more (s / 2 ||| 32) (c + 6) (fun k h => by rw [or32_bit, h]; rfl) (by omega) (by omega) (by unfold adj; omega) g2 g4 g1 (by rw [show c + 6 - c = 6 by omega]; exact Nat.testBit_lt_two_pow (by omega)) (by rw [show c + 6 - (c + 1) = 5 by omega, or32_bit]; simp)
        omega
theorem dp_lower {v : Nat → Nat} {p : Nat → Nat} (hp : ∀ c, c < 36 → p c < 36 ∧ p (p c) = c ∧ (p c ≠ c → adj c (p c) ∧ v (4 + c) = 0 ∧ v (4 + p c) = 0)) {B : Int} : ∀ c, c ≤ 36 → (cnt (fun c => decide (c < p c)) c : Int) ≤ dpT v B c (mk6 (fun k => decide (c + k < 36 ∧ p (c + k) < c)))
  | 0, _ => by
    have e : mk6 (fun k => decide (0 + k < 36 ∧ p (0 + k) < 0)) = 0 := by
      apply bits_inj (mk6_lt _) (by decide)
      intro b hb
      rw [mk6_bit _ hb, Nat.zero_testBit]
      simp
    rw [e]
    show (0 : Int) ≤ 0
    exact Int.le_refl _
  | c + 1, hc => by
    have ih := dp_lower hp (B := B) c (by omega)
    rw [dpT, cnt]
    generalize hs : mk6 (fun k => decide (c + k < 36 ∧ p (c + k) < c)) = s at ih
    have hs64 : s < 64 := by rw [← hs]; exact mk6_lt _
    have hbit : ∀ k, k < 6 → s.testBit k = decide (c + k < 36 ∧ p (c + k) < c) := fun k hk => by rw [← hs]; exact mk6_bit _ hk
    have h0 : 0 ≤ dpT v B c s := Int.le_trans (by omega) ih
    obtain ⟨q1, q2, q3⟩ := dpK_ge (v := v) (c := c) (f := dpT v B c) (B := B) 64 s hs64 h0
    obtain ⟨p1, p2, p3⟩ := hp c (by omega)
    have next : ∀ k, k < 6 → (mk6 (fun k => decide (c + 1 + k < 36 ∧ p (c + 1 + k) < c + 1))).testBit k = ((s / 2).testBit k || decide (p c = c + 1 + k)) := by
      intro k hk
      rw [mk6_bit _ hk, half_bit]
      have hbk : s.testBit (k + 1) = decide (c + (k + 1) < 36 ∧ p (c + (k + 1)) < c) := by
        by_cases e : k = 5
        · subst e
          rw [Nat.testBit_lt_two_pow (by omega)]
          symm
          rw [decide_eq_false_iff_not]
          rintro ⟨g1, g2⟩
          obtain ⟨r1, r2, r3⟩ := hp (c + (5 + 1)) g1
          have := (r3 (by omega)).1
          unfold adj at this
          omega
        · exact hbit (k + 1) (by omega)
      rw [hbk, show c + (k + 1) = c + 1 + k by omega]
      apply bool_iff
      rw [Bool.or_eq_true, decide_eq_true_eq, decide_eq_true_eq, decide_eq_true_eq]
      constructor
      · rintro ⟨g1, g2⟩
        by_cases e : p (c + 1 + k) = c
        · right
          have := (hp (c + 1 + k) g1).2.1
          rw [e] at this
          exact this
        · exact Or.inl ⟨g1, by omega⟩
      · rintro (⟨g1, g2⟩ | g)
        · exact ⟨g1, by omega⟩
        · rw [← g]
          exact ⟨p1, by rw [p2]; omega⟩
    have hb0 : s % 2 = 0 ∨ p c < c := by
      have := hbit 0 (by omega)
      rw [bit0] at this
      rw [show c + 0 = c by omega] at this
      by_cases e : s % 2 = 1
      · rw [decide_eq_true e] at this
        exact Or.inr (of_decide_eq_true this.symm).2
      · omega
    by_cases hlt : c < p c
    · obtain ⟨a1, a2, a3⟩ := p3 (by omega)
      rw [if_pos (decide_eq_true hlt)]
      have hs0 : s % 2 = 0 := by omega
      unfold adj at a1
      by_cases e1 : p c = c + 1
      · rw [e1] at a1 a3
        have e : mk6 (fun k => decide (c + 1 + k < 36 ∧ p (c + 1 + k) < c + 1)) = s / 2 ||| 1 := by
          apply bits_inj (mk6_lt _) (bit_lt (s / 2) (by omega) 0 (by omega))
          intro k hk
          rw [next k hk, or1_bit, e1]
          congr 1
          exact decide_eq_decide.mpr ⟨fun h => by omega, fun h => by omega⟩
        rw [e]
        have hb1 : s / 2 % 2 = 0 := by
          have := hbit 1 (by omega)
          rw [← half_bit, bit0] at this
          by_cases g : s / 2 % 2 = 1
          · rw [decide_eq_true g] at this
            have := (of_decide_eq_true this.symm).2
            rw [← e1, p2] at this
            omega
          · omega
        have := q2 hs0 a2 (by omega) a3 hb1
        push_cast
        omega
      · have e6 : p c = c + 6 := by omega
        rw [e6] at a3 p1
        have e : mk6 (fun k => decide (c + 1 + k < 36 ∧ p (c + 1 + k) < c + 1)) = s / 2 ||| 32 := by
          apply bits_inj (mk6_lt _) (bit_lt (s / 2) (by omega) 5 (by omega))
          intro k hk
          rw [next k hk, or32_bit, e6]
          congr 1
          exact decide_eq_decide.mpr ⟨fun h => by omega, fun h => by omega⟩
        rw [e]
        have := q3 hs0 a2 p1 a3
        push_cast
        omega
    · rw [if_neg (by simpa using hlt)]
      have e : mk6 (fun k => decide (c + 1 + k < 36 ∧ p (c + 1 + k) < c + 1)) = s / 2 := by
        apply bits_inj (mk6_lt _) (by omega)
        intro k hk
        rw [next k hk, show decide (p c = c + 1 + k) = false from decide_eq_false (by omega), Bool.or_false]
      rw [e]
      push_cast
      omega
/-- at the end the table holds the number, and nothing else -/
theorem dp_end {v : Nat → Nat} {K : Nat} (hK : IsK v K) {B : Int} (hB : B < 0) : dpT v B 36 0 = K ∧ ∀ s, s < 64 → s ≠ 0 → dpT v B 36 s < 0 := by
  obtain ⟨⟨p, h1, h2⟩, C, h3, h4⟩ := hK
  have lo := dp_lower (B := B) h1 36 (Nat.le_refl _)
  have e : mk6 (fun k => decide (36 + k < 36 ∧ p (36 + k) < 36)) = 0 := by
    apply bits_inj (mk6_lt _) (by decide)
    intro b hb
    rw [mk6_bit _ hb, Nat.zero_testBit]
    exact decide_eq_false (by omega)
  rw [e] at lo
  have up := dp_upper h3 hB 36 (Nat.le_refl _) 0 (by decide) (by omega)
  have m := cnt_mono (p := fun x => C x && usd 36 0 x) (q := C) 36 (fun x _ h => by
    rw [Bool.and_eq_true] at h
    exact h.1)
  refine ⟨by omega, fun s hs hne => ?_⟩
  apply Decidable.byContradiction
  intro hnn
  have u := (dp_upper h3 hB 36 (Nat.le_refl _) s hs (by omega)).1
  apply hne
  apply bits_inj hs (by decide)
  intro k hk
  rw [Nat.zero_testBit]
  cases hb : s.testBit k
  · rfl
  · have := u k hk hb
    omega
