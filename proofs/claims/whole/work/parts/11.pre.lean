def FUEL : Nat := 1000000
def rmm (k : Nat) : Room := { frames := k, cells := 0, slots := 0, locals := 40 * k }
theorem rmm_lt {a b : Nat} {n : Nat} (h : a + 1 ≤ b) (hn : n ≤ 21 := by decide) : (rmm a).frames + 1 ≤ (rmm b).frames ∧ 8 + (n + 11) + (rmm a).locals ≤ (rmm b).locals := ⟨h, by show 8 + (n + 11) + 40 * a ≤ 40 * b; omega⟩
theorem narrow_z {v : Int32} (h : v = 0 ∨ v = 1) : narrow .boolean (.int v) = .int v := by rcases h with rfl | rfl <;> rfl
theorem fits_z {v : Int32} (h : v = 0 ∨ v = 1) : fits .boolean (.int v) = true := by rcases h with rfl | rfl <;> rfl
def rmx (k : Nat) : Room := { frames := k, cells := 1, slots := 6, locals := 40 * k }
theorem at_of {L : List Cond} (h : L.all (fun w => decide (w ∈ lw_tbl) && (goodWord w || isNest w)) = true) : ∀ w ∈ L, w ∈ UT ∨ w ∈ NEST := fun w hw => by
  have h1 := List.all_eq_true.mp h w hw
  simp only [Bool.and_eq_true, Bool.or_eq_true, decide_eq_true_eq] at h1
  rcases h1.2 with h2 | h2
  · exact Or.inl (List.mem_filter.mpr ⟨h1.1, h2⟩)
  · exact Or.inr (List.mem_filter.mpr ⟨h1.1, h2⟩)
