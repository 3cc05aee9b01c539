/-! the ground: words, data, world, judgement -/
def UT : List Cond := lw_tbl.filter goodWord
theorem ut {w : Cond} (i : Nat) (h : lw_tbl[i]? = some w) (hg : goodWord w = true) : w ∈ UT := List.mem_filter.mpr ⟨List.mem_of_getElem? h, hg⟩
theorem ut_all {ws : List Cond} (h1 : ∀ w ∈ ws, w ∈ lw_tbl) (h2 : ws.all goodWord = true) : ∀ w ∈ ws, w ∈ UT := fun w h => List.mem_filter.mpr ⟨h1 w h, List.all_eq_true.mp h2 w h⟩
theorem ut_good (w : Cond) (h : w ∈ UT) : goodWord w = true := (List.mem_filter.mp h).2
theorem gu {ws : List Cond} (h : ∀ w ∈ ws, w ∈ UT) : GoodIn UT ws := fun w hw => ⟨h w hw, good_of_word (ut_good w (h w hw))⟩
theorem gu_c {y : MethodName} {b : ByteArray} {mL : Nat} {ret : Option FieldType} (h : Cond.code y b mL ret ∈ UT) : GoodIn UT (Cond.code y b mL ret :: UT) := gu (List.forall_mem_cons.mpr ⟨h, fun _ h => h⟩)
theorem gu_V {own C : String} {idx : Nat} {y : MethodName} {b : ByteArray} {mL : Nat} {ret : Option FieldType} (h1 : Cond.methodLink own idx y ∈ UT) (h2 : Cond.instanceMethod y ∈ UT) (h3 : Cond.selects C y y ∈ UT) (h4 : Cond.initialized C ∈ UT) (h5 : Cond.code y b mL ret ∈ UT) : GoodIn UT (wsV own idx C y (Cond.code y b mL ret :: UT)) := gu (by
  unfold wsV
  intro w hw
  simp only [List.cons_append, List.nil_append, List.mem_cons] at hw
  rcases hw with rfl | rfl | rfl | rfl | rfl | hw <;> assumption)
theorem gu_S {own : String} {idx : Nat} {y : MethodName} {b : ByteArray} {mL : Nat} {ret : Option FieldType} (h1 : Cond.methodLink own idx y ∈ UT) (h2 : Cond.static y ∈ UT) (h4 : Cond.initialized y.cls ∈ UT) (h5 : Cond.code y b mL ret ∈ UT) : GoodIn UT (va_wsS own idx y (Cond.code y b mL ret :: UT)) := gu (by
  unfold va_wsS
  intro w hw
  simp only [List.cons_append, List.nil_append, List.mem_cons] at hw
  rcases hw with rfl | rfl | rfl | rfl | hw <;> assumption)
def isN0 (w : Cond) : Bool := match w with
  | .methodLinkNest _ _ _ _ => true
  | .fieldLinkNest _ _ _ _ _ _ => true
  | _ => false
def isNest (w : Cond) : Bool := isN0 w || (w.onTables && w.keepsFace)
theorem isNest_on {w : Cond} (h : isNest w = true) : w.onTables = true := by
  simp only [isNest, Bool.or_eq_true, Bool.and_eq_true] at h
  rcases h with h | h
  · cases w <;> first | rfl | (simp [isN0] at h)
  · exact h.1
def STRS : List (String × Nat × String) := [("StoneQuarry", 98, "no such cell, or hardness out of range"), ("StoneQuarry", 105, "the cell is open"), ("StoneQuarry", 122, "no such cell"), ("StoneQuarry", 124, "the cell is open, contains a charge or cannot be reached"), ("StoneQuarry", 128, "too few coins"), ("StoneQuarry", 151, "hardness out of range"), ("StoneQuarry", 163, "no such cell, or strength out of range"), ("StoneQuarry", 165, "too many charges, or no free rock cell"), ("StoneQuarry", 175, "no such charge"), ("StoneQuarry", 208, "no charges"), ("StoneQuarry", 233, "length or price out of range"), ("StoneQuarry", 238, "length out of range"), ("StoneQuarry", 255, "too little stone"), ("StoneQuarry", 275, "all cells are open"), ("StoneQuarry", 282, "no such row"), ("StoneQuarry", 293, "no such character"), ("StoneQuarry", 312, "the text buffer is full"), ("StoneQuarry", 324, "the text is malformed"), ("StoneQuarry", 340, "a command fails"), ("StoneQuarry", 342, "no text was malformed"), ("StoneQuarry", 344, "no command failed"), ("StoneQuarry", 349, "nothing can be undone"), ("StoneQuarry", 358, "there is no snapshot"), ("StoneQuarry$Command", 56, "rock"), ("StoneQuarry$Command", 62, "charge"), ("StoneQuarry$Command", 65, "remove"), ("StoneQuarry$Command", 68, "ignite"), ("StoneQuarry$Command", 71, "dig"), ("StoneQuarry$Command", 74, "price"), ("StoneQuarry$Command", 77, "sell")]
def NCS : List (String × String) := [("java/lang/IllegalStateException", "java/lang/IllegalArgumentException"), ("java/lang/UnsupportedOperationException", "java/lang/IllegalArgumentException"), ("java/lang/UnsupportedOperationException", "java/lang/IllegalStateException")]
def NEST : List Cond := lw_tbl.filter isNest
theorem nst {w : Cond} (i : Nat) (h : lw_tbl[i]? = some w) (hg : isNest w = true) : w ∈ NEST := List.mem_filter.mpr ⟨List.mem_of_getElem? h, hg⟩
-- data
abbrev DD : Type := (Nat → Int32) × (Nat → Int64) × (Nat → Nat → Int32) × (Nat → Nat → Int64) × (Nat → Nat → UInt64) × (Nat → Option Nat)
abbrev EE : Type := (Nat → Nat) × (Nat → ClassId)
abbrev RT : Type := Nat × Option Value × DD
def setI (D : DD) (k : Nat) (v : Int32) : DD := (va_up D.1 k v, D.2)
def setJ (D : DD) (k : Nat) (v : Int64) : DD := (D.1, va_up D.2.1 k v, D.2.2)
def setA (D : DD) (k : Nat) (f : Nat → Int32) : DD := (D.1, D.2.1, va_up D.2.2.1 k f, D.2.2.2)
def setB (D : DD) (k : Nat) (f : Nat → Int64) : DD := (D.1, D.2.1, D.2.2.1, va_up D.2.2.2.1 k f, D.2.2.2.2)
def setF (D : DD) (k : Nat) (f : Nat → UInt64) : DD := (D.1, D.2.1, D.2.2.1, D.2.2.2.1, va_up D.2.2.2.2.1 k f, D.2.2.2.2.2)
def setC (D : DD) (f : Nat → Option Nat) : DD := (D.1, D.2.1, D.2.2.1, D.2.2.2.1, D.2.2.2.2.1, f)
def tysL (E : EE) : List (ClassId × FieldType) := [(E.2 0, .int), (E.2 1, .boolean), (E.2 2, .char), (E.2 3, .object "StoneQuarry$QuarryState"), (E.2 4, .object "StoneQuarry$Command"), (E.2 5, .long), (E.2 6, .double)]
def wd (E : EE) (D : DD) : va_W := [(E.1 0, .inr (12, [.ref (E.1 1), .ref (E.1 6), .ref (E.1 11), .ref (E.1 16), .ref (E.1 58), .ref (E.1 61), .ref (E.1 65), .ref (E.1 68), .ref (E.1 73), .ref (E.1 75), .ref (E.1 78), .ref (E.1 80), .int (D.1 120), .int (D.1 121), .int (D.1 122)])),
  (E.1 1, .inr (8, [.ref (E.1 2), .ref (E.1 3), .ref (E.1 4), .ref (E.1 5), .int (D.1 0), .int (D.1 1), .int (D.1 2), .int (D.1 3), .long (D.2.1 0)])),
  (E.1 2, .inl (E.2 0, 36, .inl (D.2.2.1 0))),
  (E.1 3, .inl (E.2 0, 6, .inl (D.2.2.1 1))),
  (E.1 4, .inl (E.2 0, 6, .inl (D.2.2.1 2))),
  (E.1 5, .inl (E.2 0, 11, .inl (D.2.2.1 3))),
  (E.1 6, .inr (8, [.ref (E.1 7), .ref (E.1 8), .ref (E.1 9), .ref (E.1 10), .int (D.1 10), .int (D.1 11), .int (D.1 12), .int (D.1 13), .long (D.2.1 1)])),
  (E.1 7, .inl (E.2 0, 36, .inl (D.2.2.1 4))),
  (E.1 8, .inl (E.2 0, 6, .inl (D.2.2.1 5))),
  (E.1 9, .inl (E.2 0, 6, .inl (D.2.2.1 6))),
  (E.1 10, .inl (E.2 0, 11, .inl (D.2.2.1 7))),
  (E.1 11, .inr (8, [.ref (E.1 12), .ref (E.1 13), .ref (E.1 14), .ref (E.1 15), .int (D.1 20), .int (D.1 21), .int (D.1 22), .int (D.1 23), .long (D.2.1 2)])),
  (E.1 12, .inl (E.2 0, 36, .inl (D.2.2.1 8))),
  (E.1 13, .inl (E.2 0, 6, .inl (D.2.2.1 9))),
  (E.1 14, .inl (E.2 0, 6, .inl (D.2.2.1 10))),
  (E.1 15, .inl (E.2 0, 11, .inl (D.2.2.1 11))),
  (E.1 16, .inr (6, [.ref (E.1 17), .int (D.1 123), .int (D.1 124)])),
  (E.1 17, .inl (E.2 3, 8, .inr (.inr (.inr (.inr (fun j => if j < 8 then some (E.1 (18 + 5 * j)) else none)))))),
  (E.1 18, .inr (8, [.ref (E.1 19), .ref (E.1 20), .ref (E.1 21), .ref (E.1 22), .int (D.1 30), .int (D.1 31), .int (D.1 32), .int (D.1 33), .long (D.2.1 3)])),
  (E.1 19, .inl (E.2 0, 36, .inl (D.2.2.1 12))),
  (E.1 20, .inl (E.2 0, 6, .inl (D.2.2.1 13))),
  (E.1 21, .inl (E.2 0, 6, .inl (D.2.2.1 14))),
  (E.1 22, .inl (E.2 0, 11, .inl (D.2.2.1 15))),
  (E.1 23, .inr (8, [.ref (E.1 24), .ref (E.1 25), .ref (E.1 26), .ref (E.1 27), .int (D.1 40), .int (D.1 41), .int (D.1 42), .int (D.1 43), .long (D.2.1 4)])),
  (E.1 24, .inl (E.2 0, 36, .inl (D.2.2.1 16))),
  (E.1 25, .inl (E.2 0, 6, .inl (D.2.2.1 17))),
  (E.1 26, .inl (E.2 0, 6, .inl (D.2.2.1 18))),
  (E.1 27, .inl (E.2 0, 11, .inl (D.2.2.1 19))),
  (E.1 28, .inr (8, [.ref (E.1 29), .ref (E.1 30), .ref (E.1 31), .ref (E.1 32), .int (D.1 50), .int (D.1 51), .int (D.1 52), .int (D.1 53), .long (D.2.1 5)])),
  (E.1 29, .inl (E.2 0, 36, .inl (D.2.2.1 20))),
  (E.1 30, .inl (E.2 0, 6, .inl (D.2.2.1 21))),
  (E.1 31, .inl (E.2 0, 6, .inl (D.2.2.1 22))),
  (E.1 32, .inl (E.2 0, 11, .inl (D.2.2.1 23))),
  (E.1 33, .inr (8, [.ref (E.1 34), .ref (E.1 35), .ref (E.1 36), .ref (E.1 37), .int (D.1 60), .int (D.1 61), .int (D.1 62), .int (D.1 63), .long (D.2.1 6)])),
  (E.1 34, .inl (E.2 0, 36, .inl (D.2.2.1 24))),
  (E.1 35, .inl (E.2 0, 6, .inl (D.2.2.1 25))),
  (E.1 36, .inl (E.2 0, 6, .inl (D.2.2.1 26))),
  (E.1 37, .inl (E.2 0, 11, .inl (D.2.2.1 27))),
  (E.1 38, .inr (8, [.ref (E.1 39), .ref (E.1 40), .ref (E.1 41), .ref (E.1 42), .int (D.1 70), .int (D.1 71), .int (D.1 72), .int (D.1 73), .long (D.2.1 7)])),
  (E.1 39, .inl (E.2 0, 36, .inl (D.2.2.1 28))),
  (E.1 40, .inl (E.2 0, 6, .inl (D.2.2.1 29))),
  (E.1 41, .inl (E.2 0, 6, .inl (D.2.2.1 30))),
  (E.1 42, .inl (E.2 0, 11, .inl (D.2.2.1 31))),
  (E.1 43, .inr (8, [.ref (E.1 44), .ref (E.1 45), .ref (E.1 46), .ref (E.1 47), .int (D.1 80), .int (D.1 81), .int (D.1 82), .int (D.1 83), .long (D.2.1 8)])),
  (E.1 44, .inl (E.2 0, 36, .inl (D.2.2.1 32))),
  (E.1 45, .inl (E.2 0, 6, .inl (D.2.2.1 33))),
  (E.1 46, .inl (E.2 0, 6, .inl (D.2.2.1 34))),
  (E.1 47, .inl (E.2 0, 11, .inl (D.2.2.1 35))),
  (E.1 48, .inr (8, [.ref (E.1 49), .ref (E.1 50), .ref (E.1 51), .ref (E.1 52), .int (D.1 90), .int (D.1 91), .int (D.1 92), .int (D.1 93), .long (D.2.1 9)])),
  (E.1 49, .inl (E.2 0, 36, .inl (D.2.2.1 36))),
  (E.1 50, .inl (E.2 0, 6, .inl (D.2.2.1 37))),
  (E.1 51, .inl (E.2 0, 6, .inl (D.2.2.1 38))),
  (E.1 52, .inl (E.2 0, 11, .inl (D.2.2.1 39))),
  (E.1 53, .inr (8, [.ref (E.1 54), .ref (E.1 55), .ref (E.1 56), .ref (E.1 57), .int (D.1 100), .int (D.1 101), .int (D.1 102), .int (D.1 103), .long (D.2.1 10)])),
  (E.1 54, .inl (E.2 0, 36, .inl (D.2.2.1 40))),
  (E.1 55, .inl (E.2 0, 6, .inl (D.2.2.1 41))),
  (E.1 56, .inl (E.2 0, 6, .inl (D.2.2.1 42))),
  (E.1 57, .inl (E.2 0, 11, .inl (D.2.2.1 43))),
  (E.1 58, .inr (11, [.ref (E.1 59), .ref (E.1 60), .int (D.1 125)])),
  (E.1 59, .inl (E.2 1, 36, .inl (D.2.2.1 50))),
  (E.1 60, .inl (E.2 0, 36, .inl (D.2.2.1 51))),
  (E.1 61, .inr (2, [.ref (E.1 62), .ref (E.1 63), .ref (E.1 64), .int (D.1 126), .int (D.1 127)])),
  (E.1 62, .inl (E.2 1, 6, .inl (D.2.2.1 52))),
  (E.1 63, .inl (E.2 1, 36, .inl (D.2.2.1 53))),
  (E.1 64, .inl (E.2 0, 6, .inl (D.2.2.1 54))),
  (E.1 65, .inr (10, [.ref (E.1 66), .ref (E.1 67)])),
  (E.1 66, .inl (E.2 0, 36, .inl (D.2.2.1 55))),
  (E.1 67, .inl (E.2 1, 36, .inl (D.2.2.1 56))),
  (E.1 68, .inr (9, [.ref (E.1 69), .ref (E.1 70), .ref (E.1 71), .ref (E.1 72)])),
  (E.1 69, .inl (E.2 0, 36, .inl (D.2.2.1 57))),
  (E.1 70, .inl (E.2 1, 36, .inl (D.2.2.1 58))),
  (E.1 71, .inl (E.2 0, 64, .inl (D.2.2.1 59))),
  (E.1 72, .inl (E.2 0, 64, .inl (D.2.2.1 60))),
  (E.1 73, .inr (3, [.ref (E.1 74)])),
  (E.1 74, .inl (E.2 0, 6, .inl (D.2.2.1 61))),
  (E.1 75, .inr (5, [.ref (E.1 76), .ref (E.1 77)])),
  (E.1 76, .inl (E.2 0, 31, .inl (D.2.2.1 62))),
  (E.1 77, .inl (E.2 0, 31, .inl (D.2.2.1 63))),
  (E.1 78, .inr (7, [.ref (E.1 79), .int (D.1 128)])),
  (E.1 79, .inl (E.2 2, 7, .inl (D.2.2.1 64))),
  (E.1 80, .inr (4, [.ref (E.1 81), .ref (E.1 82), .ref (E.1 83), .int (D.1 129), .int (D.1 130), .int (D.1 131)])),
  (E.1 81, .inl (E.2 2, 60, .inl (D.2.2.1 65))),
  (E.1 82, .inl (E.2 4, 10, .inr (.inr (.inr (.inr (fun j => (D.2.2.2.2.2 j).map E.1)))))),
  (E.1 83, .inl (E.2 0, 30, .inl (D.2.2.1 66))),
  (E.1 84, .inr (13, [.int (D.1 140), .int (D.1 141), .int (D.1 142), .int (D.1 143), .int (D.1 144), .ref (E.1 85), .ref (E.1 86), .ref (E.1 87), .ref (E.1 88), .ref (E.1 89), .ref (E.1 90), .ref (E.1 91), .ref (E.1 92), .ref (E.1 93), .ref (E.1 94), .ref (E.1 95), .ref (E.1 96), .ref (E.1 97), .ref (E.1 98), .int (D.1 145), .int (D.1 146), .int (D.1 147), .int (D.1 148), .int (D.1 149), .int (D.1 150)])),
  (E.1 85, .inl (E.2 0, 62, .inl (D.2.2.1 70))),
  (E.1 86, .inl (E.2 0, 62, .inl (D.2.2.1 71))),
  (E.1 87, .inl (E.2 0, 62, .inl (D.2.2.1 72))),
  (E.1 88, .inl (E.2 0, 496, .inl (D.2.2.1 73))),
  (E.1 89, .inl (E.2 0, 36, .inl (D.2.2.1 74))),
  (E.1 90, .inl (E.2 0, 64, .inl (D.2.2.1 75))),
  (E.1 91, .inl (E.2 0, 64, .inl (D.2.2.1 76))),
  (E.1 92, .inl (E.2 0, 31, .inl (D.2.2.1 77))),
  (E.1 93, .inl (E.2 0, 31, .inl (D.2.2.1 78))),
  (E.1 94, .inl (E.2 0, 60, .inl (D.2.2.1 79))),
  (E.1 95, .inl (E.2 0, 20, .inl (D.2.2.1 80))),
  (E.1 96, .inl (E.2 0, 7, .inl (D.2.2.1 81))),
  (E.1 97, .inl (E.2 0, 34, .inl (D.2.2.1 82))),
  (E.1 98, .inl (E.2 0, 8, .inl (D.2.2.1 83))),
  (E.1 99, .inl (E.2 5, 1, .inr (.inl (D.2.2.2.1 0)))),
  (E.1 100, .inl (E.2 6, 1, .inr (.inr (.inr (.inl (D.2.2.2.2.1 0))))))]
/-- a value of the pictures as the machine has it: a cell by its place -/
def cvE (E : EE) (v : Value) : Value := match v with
  | .ref k => .ref (E.1 k)
  | v => v
def fr (E : EE) (sz : Nat) : Nat → Prop := fun q => (∃ k, k < 101 ∧ q = E.1 k) ∨ sz ≤ q
def KK (G : va_G) (E : EE) (U : State) : Prop := va_K G vwCl (tysL E) U ∧ (∀ w, w ∈ NEST → va_Nw w U) ∧ (∀ q, q ∈ STRS → ∃ a, vk_R q.1 q.2.1 q.2.2 a U) ∧ ∀ q, q ∈ NCS → va_Nc q.1 q.2 U
def cmdP (k : Nat) : Int32 := [3, 3, 1, 1, 2, 2, 1].getD k 0
def cmdG (k : Nat) : Int32 := [1, 1, 1, 1, 1, 2, 2].getD k 0
def cmdN (k : Nat) : Nat := [4, 6, 6, 6, 3, 5, 4].getD k 0
def cmdB (k : Nat) : List Int32 := [[114, 111, 99, 107], [99, 104, 97, 114, 103, 101], [114, 101, 109, 111, 118, 101], [105, 103, 110, 105, 116, 101], [100, 105, 103], [112, 114, 105, 99, 101], [115, 101, 108, 108]].getD k []
def smv (k : Nat) : Int32 := [1, 2, 3, 4, 5, 6, 0].getD k 0
/-- the constants: seven commands and their words, two rows of theirs, two statics of the JDK -/
def KT (E : EE) (A : Nat → Prop) (U : State) (H : Heap) : Prop :=
  (∀ k, k < 7 → va_O "StoneQuarry$Command" (E.1 (1000 + k)) A U H ∧ va_OF "java/lang/Enum" "ordinal" "I" (.int (nI k)) (E.1 (1000 + k)) A U H ∧ va_OF "StoneQuarry$Command" "parameters" "I" (.int (cmdP k)) (E.1 (1000 + k)) A U H ∧ va_OF "StoneQuarry$Command" "digits" "I" (.int (cmdG k)) (E.1 (1000 + k)) A U H ∧ va_OF "StoneQuarry$Command" "word" "Ljava/lang/String;" (.ref (E.1 (1010 + k))) (E.1 (1000 + k)) A U H) ∧
  va_Z "StoneQuarry$CommandText" "COMMANDS" "[LStoneQuarry$Command;" (.ref (E.1 1020)) A U H ∧ va_T (.object "StoneQuarry$Command") (E.1 1020) 7 (fun j => .ref (E.1 (1000 + j))) A U H ∧
  va_Z "StoneQuarry$1" "$SwitchMap$StoneQuarry$Command" "[I" (.ref (E.1 1021)) A U H ∧ va_T .int (E.1 1021) 7 (fun j => .int (smv j)) A U H ∧
  (∀ k, k < 7 → va_O "java/lang/String" (E.1 (1010 + k)) A U H ∧ va_OF "java/lang/String" "coder" "B" (.int 0) (E.1 (1010 + k)) A U H ∧ va_OF "java/lang/String" "value" "[B" (.ref (E.1 (1030 + k))) (E.1 (1010 + k)) A U H ∧ va_T .byte (E.1 (1030 + k)) (cmdN k) (fun j => .int ((cmdB k).getD j 0)) A U H) ∧
  va_Z "java/lang/String" "COMPACT_STRINGS" "Z" (.int 1) A U H ∧ va_Zq "jdk/internal/util/Preconditions" "SIOOBE_FORMATTER" "Ljava/util/function/BiFunction;" A U H
theorem KT.moved {E : EE} {A : Nat → Prop} {u U : State} {H : Heap} (hvm : u.vm.Alike U.vm) (h : KT E A u H) : KT E A U H := by
  obtain ⟨h1, h2, h3, h4, h5, h6, h7, h8⟩ := h
  exact ⟨fun k hk => ⟨va_O.moved hvm (h1 k hk).1, va_OF.moved hvm (h1 k hk).2.1, va_OF.moved hvm (h1 k hk).2.2.1, va_OF.moved hvm (h1 k hk).2.2.2.1, va_OF.moved hvm (h1 k hk).2.2.2.2⟩, va_Z.moved hvm h2, va_T.moved hvm h3, va_Z.moved hvm h4, va_T.moved hvm h5, fun k hk => ⟨va_O.moved hvm (h6 k hk).1, va_OF.moved hvm (h6 k hk).2.1, va_OF.moved hvm (h6 k hk).2.2.1, va_T.moved hvm (h6 k hk).2.2.2⟩, va_Z.moved hvm h7, va_Zq.moved hvm h8⟩
theorem KT.kept {E : EE} {A : Nat → Prop} {U : State} {H H1 : Heap} (h : KT E A U H) (hq : ∀ a : Nat, a < H.size → ¬ A a → H1[a]? = H[a]?) : KT E A U H1 := by
  obtain ⟨h1, h2, h3, h4, h5, h6, h7, h8⟩ := h
  exact ⟨fun k hk => ⟨(h1 k hk).1.kept hq, (h1 k hk).2.1.kept hq, (h1 k hk).2.2.1.kept hq, (h1 k hk).2.2.2.1.kept hq, (h1 k hk).2.2.2.2.kept hq⟩, h2.kept hq, h3.kept hq, h4.kept hq, h5.kept hq, fun k hk => ⟨(h6 k hk).1.kept hq, (h6 k hk).2.1.kept hq, (h6 k hk).2.2.1.kept hq, (h6 k hk).2.2.2.kept hq⟩, h7.kept hq, h8.kept hq⟩
theorem KT.narrow {E : EE} {A B : Nat → Prop} {U : State} {H : Heap} (h : KT E A U H) (hAB : ∀ q, B q → A q) : KT E B U H := by
  obtain ⟨h1, h2, h3, h4, h5, h6, h7, h8⟩ := h
  exact ⟨fun k hk => ⟨(h1 k hk).1.narrow hAB, (h1 k hk).2.1.narrow hAB, (h1 k hk).2.2.1.narrow hAB, (h1 k hk).2.2.2.1.narrow hAB, (h1 k hk).2.2.2.2.narrow hAB⟩, h2.narrow hAB, h3.narrow hAB, h4.narrow hAB, h5.narrow hAB, fun k hk => ⟨(h6 k hk).1.narrow hAB, (h6 k hk).2.1.narrow hAB, (h6 k hk).2.2.1.narrow hAB, (h6 k hk).2.2.2.narrow hAB⟩, h7.narrow hAB, h8.narrow hAB⟩
def ST (E : EE) (A : Nat → Prop) (U : State) (H : Heap) : Prop := vx_Zq Bundle.tN "UNASSIGNED_STACK" Bundle.steD A U H ∧ vx_Zq Bundle.tN "SUPPRESSED_SENTINEL" Bundle.listD A U H ∧ KT E A U H
theorem KK.warm {G : va_G} {E : EE} {s U : State} (hW : s.WarmedH U.vm) (h : KK G E s) : KK G E U := ⟨va_K.moved hW.alike h.1, fun w hw => by
  have h0 := h.2.1 w hw
  have h1 := (List.mem_filter.mp hw).2
  simp only [isNest, Bool.or_eq_true, Bool.and_eq_true] at h1
  rcases h1 with h1 | h1
  · cases w <;> first | exact va_Nw.warmM hW h0 | exact va_Nw.warmF hW h0 | (simp [isN0] at h1)
  · exact va_tabs h1.1 (rfl : (s.setVm U.vm).vm = U.vm) (Cond.before_shiftedFace (args := #[]) (State.Shifted.of_warmed hW) w h1.2 h0), fun q hq => by
  obtain ⟨a, ha⟩ := h.2.2.1 q hq
  exact ⟨a, ha.warm hW⟩, fun q hq => va_Nc.moved hW.alike (h.2.2.2 q hq)⟩
theorem KK.same {G : va_G} {E : EE} {u U : State} (hv : u.vm = U.vm) (h : KK G E u) : KK G E U := ⟨va_K.moved (by rw [hv]; exact Vm.Alike.refl _) h.1, fun w hw => va_Nw.same (isNest_on (List.mem_filter.mp hw).2) hv (h.2.1 w hw), fun q hq => by
  obtain ⟨a, ha⟩ := h.2.2.1 q hq
  exact ⟨a, ha.same hv.symm⟩, fun q hq => va_Nc.moved (by rw [hv]; exact Vm.Alike.refl _) (h.2.2.2 q hq)⟩
theorem ST.moved {E : EE} {A : Nat → Prop} {u U : State} {H : Heap} (hvm : u.vm.Alike U.vm) (h : ST E A u H) : ST E A U H := ⟨vx_Zq.moved hvm h.1, vx_Zq.moved hvm h.2.1, KT.moved hvm h.2.2⟩
theorem ST.kept {E : EE} {A : Nat → Prop} {U : State} {H H1 : Heap} (h : ST E A U H) (hq : ∀ a : Nat, a < H.size → ¬ A a → H1[a]? = H[a]?) : ST E A U H1 := ⟨vx_Zq.kept h.1 hq, vx_Zq.kept h.2.1 hq, h.2.2.kept hq⟩
theorem ST.narrow {E : EE} {A B : Nat → Prop} {U : State} {H : Heap} (h : ST E A U H) (hAB : ∀ q, B q → A q) : ST E B U H := ⟨vx_Zq.narrow h.1 hAB, vx_Zq.narrow h.2.1 hAB, h.2.2.narrow hAB⟩
def PP (G : va_G) (E : EE) (D : DD) (sz : Nat) (U : State) : Prop := U.heap.size = sz ∧ va_P G vwCl (wd E D) U.heap ∧ KK G E U ∧ va_D (fun _ => True) (wd E D) ∧ ST E (fr E sz) U U.heap
def QR (G : va_G) (E : EE) (sz : Nat) (r : RT) : Array Value → State → Outcome → State → Prop := fun _ st oc t => r.1 = 0 ∧ oc = .returned (r.2.1.map (cvE E)) ∧ va_P G vwCl (wd E r.2.2) t.heap ∧ va_F (fr E sz) st t
/-- a method's contract at given arguments, data and answer -/
def MM (l : Launch) (G : va_G) (E : EE) (y : MethodName) (bytes : ByteArray) (maxL : Nat) (ret : Option FieldType) (rm : Room) (av : List Value) (D : DD) (r : RT) : Prop :=
  ∀ sz, Met l y (Cond.code y bytes maxL ret :: UT) rm (va_Pc av (PP G E D sz)) (QR G E sz r) 0 0 (fr E sz)
theorem PP_blind {G : va_G} {E : EE} {D : DD} {sz : Nat} {av : List Value} : FrameBlind (va_Pc av (PP G E D sz)) := fun a U g mk h => ⟨h.1, h.2.1, h.2.2.1, KK.same (u := U) (U := U.calling g mk a) rfl h.2.2.2.1, h.2.2.2.2.1, ST.moved (u := U) (U := U.calling g mk a) (Vm.Alike.refl U.vm) h.2.2.2.2.2⟩
theorem wd_fst (E : EE) (D D' : DD) : (wd E D).map Prod.fst = (wd E D').map Prod.fst := rfl
theorem va_D.fsts {A B : Nat → Prop} {ws ws' : va_W} (h : va_D A ws) (he : ws'.map Prod.fst = ws.map Prod.fst) (hB : ∀ q, q ∈ ws.map Prod.fst → B q) : va_D B ws' := by
  have key : ∀ (k : Nat) (q : Nat × va_E), ws'[k]? = some q → ∃ q0, ws[k]? = some q0 ∧ q0.1 = q.1 := by
    intro k q hk
    have h1 : (ws'.map Prod.fst)[k]? = some q.1 := by rw [List.getElem?_map, hk]; rfl
    rw [he, List.getElem?_map] at h1
    cases h2 : ws[k]? with
    | none => rw [h2] at h1; cases h1
    | some q0 => rw [h2] at h1; exact ⟨q0, rfl, Option.some.inj h1⟩
  refine ⟨fun i j x y hi hj hxy => ?_, fun k q hk => ?_⟩
  · obtain ⟨x0, h1, h2⟩ := key i x hi
    obtain ⟨y0, h3, h4⟩ := key j y hj
    exact h.1 i j x0 y0 h1 h3 (h2.trans (hxy.trans h4.symm))
  · obtain ⟨q0, h1, h2⟩ := key k q hk
    rw [← h2]
    exact hB _ (List.mem_map.mpr ⟨q0, List.mem_of_getElem? h1, rfl⟩)
theorem wd_addr (E : EE) (D : DD) : (wd E D).map Prod.fst = (List.range 101).map E.1 := rfl
theorem wd_fr {A : Nat → Prop} {E : EE} {D : DD} (sz : Nat) (h : va_D A (wd E D)) (D2 : DD) : va_D (fr E sz) (wd E D2) := h.fsts (wd_fst E D2 D) (fun q hq => by
  rw [wd_addr] at hq
  obtain ⟨k, h1, h2⟩ := List.mem_map.mp hq
  exact Or.inl ⟨k, List.mem_range.mp h1, h2.symm⟩)
theorem wd_any {A : Nat → Prop} {E : EE} {D : DD} (h : va_D A (wd E D)) (D2 : DD) : va_D (fun _ => True) (wd E D2) := h.fsts (wd_fst E D2 D) (fun _ _ => trivial)
-- the judgement inside a method that makes no cells, its world by the data
section GG
variable {p : Program} {l : Launch} {e : Env} {R : Room} {s : State} {m : MethodId} {args : Array Value} {below : List Frame} {meth : Method} {c : Code} {G : va_G} {E : EE} {nL : Nat} {Q : State → Prop} {D D' : DD} {pc : Nat} {lv lv' : List (Nat × Value)} {st rest : List Value} {cc : ByteArray} {own : String} {kc ks : Nat}
def CX (p : Program) (s : State) (m : MethodId) (args : Array Value) (meth : Method) (c : Code) (cc : ByteArray) (own : String) (nL : Nat) (G : va_G) (E : EE) : Prop :=
  CallFix p m c cc nL s args UT own ∧ meth.locks = false ∧ KK G E s ∧ (∀ D, va_D (fr E s.heap.size) (wd E D)) ∧ ST E (fr E s.heap.size) s s.heap
def GW (p : Program) (l : Launch) (e : Env) (R : Room) (s : State) (m : MethodId) (args : Array Value) (below : List Frame) (meth : Method) (c : Code) (G : va_G) (E : EE) (nL : Nat) (Q : State → Prop) (kc ks : Nat) (D : DD) (pc : Nat) (lv : List (Nat × Value)) (st : List Value) : Prop :=
  ∀ (H : Heap) (locs : List Loc) (ls : Array Slot), va_P G vwCl (wd E D) H → va_S (fr E s.heap.size) s.heap H locs → lv_has ls nL lv → W p l e R s m args below meth c H locs kc ks Q (F0 m pc ls st)
theorem m_of {y : MethodName} {maxL : Nat} {ret : Option FieldType} {rm : Room} {av : List Value} {r : RT} (hy : plainName y.cls = true) (hlen : (lg_sl av).length ≤ maxL)
    (body : ∀ (p : Program) (e : Env) (s : State) (m : MethodId) (args : Array Value) (below : List Frame) (meth : Method) (c : Code), CX p s m args meth c cc y.cls maxL G E → meth.sig.returnType = ret → GW p l e rm s m args below meth c G E maxL (MQ below (QR G E s.heap.size r) args s 0 0 (fr E s.heap.size)) 0 0 D 0 (lv_args 0 av) []) : MM l G E y cc maxL ret rm av D r := by
  intro sz
  refine Met.ofW (cc := cc) (maxL := maxL) (ret := ret) hy rfl ?_
  intro p e s m args below meth c s₁ B hml hv
  obtain ⟨ha, hsz, hP, hK, hD0, hST⟩ := hv
  subst hsz
  have hts := atoms_spec (ws := Cond.code y cc maxL ret :: UT) B.pre
  have X : CX p s m args meth c cc y.cls maxL G E := ⟨⟨B.exec, B.bytes, hml, findClass_of_methodNamed B.named, fun w hw => hts w (List.mem_cons_of_mem _ hw)⟩, B.notSynchronized, hK, fun D2 => wd_fr _ hD0 D2, hST⟩
  have k := body p e s m args below meth c X B.returns
  subst ha
  rw [lg_entry_eq]
  exact k s.heap [] _ hP va_S.rf (lv_entry av hlen)
theorem g_sub (js : List Nat) (hl : lv_pick lv js = lv') (k : GW p l e R s m args below meth c G E nL Q kc ks D pc lv' st) : GW p l e R s m args below meth c G E nL Q kc ks D pc lv st := fun H locs ls hP hS h => k H locs ls hP hS (lv_sub h js hl)
theorem g_dat (hd : D = D') (k : GW p l e R s m args below meth c G E nL Q kc ks D' pc lv st) : GW p l e R s m args below meth c G E nL Q kc ks D pc lv st := hd ▸ k
theorem g_iconst (X : CX p s m args meth c cc own nL G E) {n : Int} {v : Int32} (hdg : decode cc pc = .ok (.iconst n, 1)) (hv : Int32.ofInt n = v) (k : GW p l e R s m args below meth c G E nL Q kc ks D (pc + 1) lv (.int v :: st)) : GW p l e R s m args below meth c G E nL Q kc ks D pc lv st := fun H locs ls hP hS h => lv_iconst X.1.1 X.1.2.1 hdg hv (k H locs ls hP hS h)
theorem g_bipush (X : CX p s m args meth c cc own nL G E) {n : Int} {v : Int32} (hdg : decode cc pc = .ok (.bipush n, 2)) (hv : (Int8.ofInt n).toInt32 = v) (k : GW p l e R s m args below meth c G E nL Q kc ks D (pc + 2) lv (.int v :: st)) : GW p l e R s m args below meth c G E nL Q kc ks D pc lv st := fun H locs ls hP hS h => lv_bipush X.1.1 X.1.2.1 hdg hv (k H locs ls hP hS h)
theorem g_sipush (X : CX p s m args meth c cc own nL G E) {n : Int} {v : Int32} (hdg : decode cc pc = .ok (.sipush n, 3)) (hv : (Int16.ofInt n).toInt32 = v) (k : GW p l e R s m args below meth c G E nL Q kc ks D (pc + 3) lv (.int v :: st)) : GW p l e R s m args below meth c G E nL Q kc ks D pc lv st := fun H locs ls hP hS h => lv_sipush X.1.1 X.1.2.1 hdg hv (k H locs ls hP hS h)
theorem g_lconst (X : CX p s m args meth c cc own nL G E) {n : Fin 2} {v : Int64} (hdg : decode cc pc = .ok (.lconst n, 1)) (hv : Int64.ofNat (n : Nat) = v) (k : GW p l e R s m args below meth c G E nL Q kc ks D (pc + 1) lv (.long v :: st)) : GW p l e R s m args below meth c G E nL Q kc ks D pc lv st := fun H locs ls hP hS h => lv_lconst X.1.1 X.1.2.1 hdg hv (k H locs ls hP hS h)
theorem g_iload_n (X : CX p s m args meth c cc own nL G E) (j : Nat) {i : Fin 4} {i0 : Nat} {x : Int32} (hdg : decode cc pc = .ok (.iload_n i, 1)) (hi : (i : Nat) = i0) (hk : lv[j]? = some (i0, .int x)) (k : GW p l e R s m args below meth c G E nL Q kc ks D (pc + 1) lv (.int x :: st)) : GW p l e R s m args below meth c G E nL Q kc ks D pc lv st := fun H locs ls hP hS h => lv_iload_n X.1.1 X.1.2.1 hdg hi (lv_at h j hk) (k H locs ls hP hS h)
theorem g_iload (X : CX p s m args meth c cc own nL G E) (j : Nat) {i : Nat} {x : Int32} (hdg : decode cc pc = .ok (.iload i, 2)) (hk : lv[j]? = some (i, .int x)) (k : GW p l e R s m args below meth c G E nL Q kc ks D (pc + 2) lv (.int x :: st)) : GW p l e R s m args below meth c G E nL Q kc ks D pc lv st := fun H locs ls hP hS h => lv_iload X.1.1 X.1.2.1 hdg (lv_at h j hk) (k H locs ls hP hS h)
theorem g_aload_n (X : CX p s m args meth c cc own nL G E) (j : Nat) {i : Fin 4} {i0 a : Nat} (hdg : decode cc pc = .ok (.aload_n i, 1)) (hi : (i : Nat) = i0) (hk : lv[j]? = some (i0, .ref a)) (k : GW p l e R s m args below meth c G E nL Q kc ks D (pc + 1) lv (.ref a :: st)) : GW p l e R s m args below meth c G E nL Q kc ks D pc lv st := fun H locs ls hP hS h => lv_aload_n X.1.1 X.1.2.1 hdg hi (lv_at h j hk) (k H locs ls hP hS h)
theorem g_aload (X : CX p s m args meth c cc own nL G E) (j : Nat) {i a : Nat} (hdg : decode cc pc = .ok (.aload i, 2)) (hk : lv[j]? = some (i, .ref a)) (k : GW p l e R s m args below meth c G E nL Q kc ks D (pc + 2) lv (.ref a :: st)) : GW p l e R s m args below meth c G E nL Q kc ks D pc lv st := fun H locs ls hP hS h => lv_aload X.1.1 X.1.2.1 hdg (lv_at h j hk) (k H locs ls hP hS h)
theorem g_istore_n (X : CX p s m args meth c cc own nL G E) {i : Fin 4} {i0 : Nat} {x : Int32} (hdg : decode cc pc = .ok (.istore_n i, 1)) (hi : (i : Nat) = i0) (hn : i0 < nL) (hl : (i0, Value.int x) :: lv.filter (fun q => !(q.1 == i0) && !(q.1 + 1 == i0 && q.2.category == 2)) = lv') (k : GW p l e R s m args below meth c G E nL Q kc ks D (pc + 1) lv' st) : GW p l e R s m args below meth c G E nL Q kc ks D pc lv (.int x :: st) := fun H locs ls hP hS h => lv_istore_n X.1.1 X.1.2.1 hdg hi h hn hl (fun ls h => k H locs ls hP hS h)
theorem g_istore (X : CX p s m args meth c cc own nL G E) {i : Nat} {x : Int32} (hdg : decode cc pc = .ok (.istore i, 2)) (hn : i < nL) (hl : (i, Value.int x) :: lv.filter (fun q => !(q.1 == i) && !(q.1 + 1 == i && q.2.category == 2)) = lv') (k : GW p l e R s m args below meth c G E nL Q kc ks D (pc + 2) lv' st) : GW p l e R s m args below meth c G E nL Q kc ks D pc lv (.int x :: st) := fun H locs ls hP hS h => lv_istore X.1.1 X.1.2.1 hdg h hn hl (fun ls h => k H locs ls hP hS h)
theorem g_astore_n (X : CX p s m args meth c cc own nL G E) {i : Fin 4} {i0 a : Nat} (hdg : decode cc pc = .ok (.astore_n i, 1)) (hi : (i : Nat) = i0) (hn : i0 < nL) (hl : (i0, Value.ref a) :: lv.filter (fun q => !(q.1 == i0) && !(q.1 + 1 == i0 && q.2.category == 2)) = lv') (k : GW p l e R s m args below meth c G E nL Q kc ks D (pc + 1) lv' st) : GW p l e R s m args below meth c G E nL Q kc ks D pc lv (.ref a :: st) := fun H locs ls hP hS h => lv_astore_n X.1.1 X.1.2.1 hdg hi h hn hl (fun ls h => k H locs ls hP hS h)
theorem g_astore (X : CX p s m args meth c cc own nL G E) {i a : Nat} (hdg : decode cc pc = .ok (.astore i, 2)) (hn : i < nL) (hl : (i, Value.ref a) :: lv.filter (fun q => !(q.1 == i) && !(q.1 + 1 == i && q.2.category == 2)) = lv') (k : GW p l e R s m args below meth c G E nL Q kc ks D (pc + 2) lv' st) : GW p l e R s m args below meth c G E nL Q kc ks D pc lv (.ref a :: st) := fun H locs ls hP hS h => lv_astore X.1.1 X.1.2.1 hdg h hn hl (fun ls h => k H locs ls hP hS h)
theorem g_iinc (X : CX p s m args meth c cc own nL G E) (j : Nat) {i : Nat} {n : Int} {x v : Int32} (hdg : decode cc pc = .ok (.iinc i n, 3)) (hk : lv[j]? = some (i, .int x)) (hv : x + Int32.ofInt n = v) (hn : i < nL) (hl : (i, Value.int v) :: lv.filter (fun q => !(q.1 == i) && !(q.1 + 1 == i && q.2.category == 2)) = lv') (k : GW p l e R s m args below meth c G E nL Q kc ks D (pc + 3) lv' st) : GW p l e R s m args below meth c G E nL Q kc ks D pc lv st := fun H locs ls hP hS h => lv_iinc X.1.1 X.1.2.1 hdg h hk hv hn hl (fun ls h => k H locs ls hP hS h)
theorem g_iadd (X : CX p s m args meth c cc own nL G E) {x y : Int32} (hdg : decode cc pc = .ok (.iadd, 1)) (k : GW p l e R s m args below meth c G E nL Q kc ks D (pc + 1) lv (.int (x + y) :: st)) : GW p l e R s m args below meth c G E nL Q kc ks D pc lv (.int y :: .int x :: st) := fun H locs ls hP hS h => lv_iadd X.1.1 X.1.2.1 hdg (k H locs ls hP hS h)
theorem g_isub (X : CX p s m args meth c cc own nL G E) {x y : Int32} (hdg : decode cc pc = .ok (.isub, 1)) (k : GW p l e R s m args below meth c G E nL Q kc ks D (pc + 1) lv (.int (x - y) :: st)) : GW p l e R s m args below meth c G E nL Q kc ks D pc lv (.int y :: .int x :: st) := fun H locs ls hP hS h => lv_isub X.1.1 X.1.2.1 hdg (k H locs ls hP hS h)
theorem g_imul (X : CX p s m args meth c cc own nL G E) {x y : Int32} (hdg : decode cc pc = .ok (.imul, 1)) (k : GW p l e R s m args below meth c G E nL Q kc ks D (pc + 1) lv (.int (x * y) :: st)) : GW p l e R s m args below meth c G E nL Q kc ks D pc lv (.int y :: .int x :: st) := fun H locs ls hP hS h => lv_imul X.1.1 X.1.2.1 hdg (k H locs ls hP hS h)
theorem g_iand (X : CX p s m args meth c cc own nL G E) {x y : Int32} (hdg : decode cc pc = .ok (.iand, 1)) (k : GW p l e R s m args below meth c G E nL Q kc ks D (pc + 1) lv (.int (x &&& y) :: st)) : GW p l e R s m args below meth c G E nL Q kc ks D pc lv (.int y :: .int x :: st) := fun H locs ls hP hS h => lv_iand X.1.1 X.1.2.1 hdg (k H locs ls hP hS h)
theorem g_ior (X : CX p s m args meth c cc own nL G E) {x y : Int32} (hdg : decode cc pc = .ok (.ior, 1)) (k : GW p l e R s m args below meth c G E nL Q kc ks D (pc + 1) lv (.int (x ||| y) :: st)) : GW p l e R s m args below meth c G E nL Q kc ks D pc lv (.int y :: .int x :: st) := fun H locs ls hP hS h => lv_ior X.1.1 X.1.2.1 hdg (k H locs ls hP hS h)
theorem g_ishl (X : CX p s m args meth c cc own nL G E) {x y : Int32} (hdg : decode cc pc = .ok (.ishl, 1)) (k : GW p l e R s m args below meth c G E nL Q kc ks D (pc + 1) lv (.int (x <<< (y &&& 31)) :: st)) : GW p l e R s m args below meth c G E nL Q kc ks D pc lv (.int y :: .int x :: st) := fun H locs ls hP hS h => lv_ishl X.1.1 X.1.2.1 hdg (k H locs ls hP hS h)
theorem g_ishr (X : CX p s m args meth c cc own nL G E) {x y : Int32} (hdg : decode cc pc = .ok (.ishr, 1)) (k : GW p l e R s m args below meth c G E nL Q kc ks D (pc + 1) lv (.int (x >>> (y &&& 31)) :: st)) : GW p l e R s m args below meth c G E nL Q kc ks D pc lv (.int y :: .int x :: st) := fun H locs ls hP hS h => lv_ishr X.1.1 X.1.2.1 hdg (k H locs ls hP hS h)
theorem g_idiv (X : CX p s m args meth c cc own nL G E) {x y : Int32} (hne : ¬ y = 0) (hdg : decode cc pc = .ok (.idiv, 1)) (k : GW p l e R s m args below meth c G E nL Q kc ks D (pc + 1) lv (.int (x / y) :: st)) : GW p l e R s m args below meth c G E nL Q kc ks D pc lv (.int y :: .int x :: st) := fun H locs ls hP hS h => lv_idiv X.1.1 X.1.2.1 hdg hne (k H locs ls hP hS h)
theorem g_irem (X : CX p s m args meth c cc own nL G E) {x y : Int32} (hne : ¬ y = 0) (hdg : decode cc pc = .ok (.irem, 1)) (k : GW p l e R s m args below meth c G E nL Q kc ks D (pc + 1) lv (.int (x - x / y * y) :: st)) : GW p l e R s m args below meth c G E nL Q kc ks D pc lv (.int y :: .int x :: st) := fun H locs ls hP hS h => lv_irem X.1.1 X.1.2.1 hdg hne (k H locs ls hP hS h)
theorem g_ineg (X : CX p s m args meth c cc own nL G E) {x : Int32} (hdg : decode cc pc = .ok (.ineg, 1)) (k : GW p l e R s m args below meth c G E nL Q kc ks D (pc + 1) lv (.int (-x) :: st)) : GW p l e R s m args below meth c G E nL Q kc ks D pc lv (.int x :: st) := fun H locs ls hP hS h => lv_ineg X.1.1 X.1.2.1 hdg (k H locs ls hP hS h)
theorem g_i2l (X : CX p s m args meth c cc own nL G E) {x : Int32} (hdg : decode cc pc = .ok (.i2l, 1)) (k : GW p l e R s m args below meth c G E nL Q kc ks D (pc + 1) lv (.long x.toInt64 :: st)) : GW p l e R s m args below meth c G E nL Q kc ks D pc lv (.int x :: st) := fun H locs ls hP hS h => lv_i2l X.1.1 X.1.2.1 hdg rfl (k H locs ls hP hS h)
theorem g_i2c (X : CX p s m args meth c cc own nL G E) {x : Int32} (hdg : decode cc pc = .ok (.i2c, 1)) (k : GW p l e R s m args below meth c G E nL Q kc ks D (pc + 1) lv (.int (x.toUInt32 % 65536).toInt32 :: st)) : GW p l e R s m args below meth c G E nL Q kc ks D pc lv (.int x :: st) := fun H locs ls hP hS h => lv_i2c X.1.1 X.1.2.1 hdg rfl (k H locs ls hP hS h)
theorem g_ladd (X : CX p s m args meth c cc own nL G E) {x y : Int64} (hdg : decode cc pc = .ok (.ladd, 1)) (k : GW p l e R s m args below meth c G E nL Q kc ks D (pc + 1) lv (.long (x + y) :: st)) : GW p l e R s m args below meth c G E nL Q kc ks D pc lv (.long y :: .long x :: st) := fun H locs ls hP hS h => lv_ladd X.1.1 X.1.2.1 hdg (k H locs ls hP hS h)
theorem g_lsub (X : CX p s m args meth c cc own nL G E) {x y : Int64} (hdg : decode cc pc = .ok (.lsub, 1)) (k : GW p l e R s m args below meth c G E nL Q kc ks D (pc + 1) lv (.long (x - y) :: st)) : GW p l e R s m args below meth c G E nL Q kc ks D pc lv (.long y :: .long x :: st) := fun H locs ls hP hS h => lv_lsub X.1.1 X.1.2.1 hdg (k H locs ls hP hS h)
theorem g_lcmp (X : CX p s m args meth c cc own nL G E) {x y : Int64} (hdg : decode cc pc = .ok (.lcmp, 1)) (k : GW p l e R s m args below meth c G E nL Q kc ks D (pc + 1) lv (.int (lg_cmp x y) :: st)) : GW p l e R s m args below meth c G E nL Q kc ks D pc lv (.long y :: .long x :: st) := fun H locs ls hP hS h => W.lcmp X.1.1 X.1.2.1 hdg (k H locs ls hP hS h)
theorem g_i2d (X : CX p s m args meth c cc own nL G E) {x : Int32} (hdg : decode cc pc = .ok (.i2d, 1)) (k : GW p l e R s m args below meth c G E nL Q kc ks D (pc + 1) lv (.double (FP.i2d x) :: st)) : GW p l e R s m args below meth c G E nL Q kc ks D pc lv (.int x :: st) := fun H locs ls hP hS h => lv_i2d X.1.1 X.1.2.1 hdg (k H locs ls hP hS h)
theorem g_i2f (X : CX p s m args meth c cc own nL G E) {x : Int32} (hdg : decode cc pc = .ok (.i2f, 1)) (k : GW p l e R s m args below meth c G E nL Q kc ks D (pc + 1) lv (.float (FP.i2f x) :: st)) : GW p l e R s m args below meth c G E nL Q kc ks D pc lv (.int x :: st) := fun H locs ls hP hS h => lv_i2f X.1.1 X.1.2.1 hdg (k H locs ls hP hS h)
theorem g_fdiv (X : CX p s m args meth c cc own nL G E) {x y : UInt32} (hne : vf_n32 (FP.fdiv x y)) (hdg : decode cc pc = .ok (.fdiv, 1)) (k : GW p l e R s m args below meth c G E nL Q kc ks D (pc + 1) lv (.float (FP.fdiv x y) :: st)) : GW p l e R s m args below meth c G E nL Q kc ks D pc lv (.float y :: .float x :: st) := fun H locs ls hP hS h => lv_fdiv X.1.1 X.1.2.1 hdg hne (k H locs ls hP hS h)
theorem g_ddiv (X : CX p s m args meth c cc own nL G E) {x y : UInt64} (hne : vf_n64 (FP.ddiv x y)) (hdg : decode cc pc = .ok (.ddiv, 1)) (k : GW p l e R s m args below meth c G E nL Q kc ks D (pc + 1) lv (.double (FP.ddiv x y) :: st)) : GW p l e R s m args below meth c G E nL Q kc ks D pc lv (.double y :: .double x :: st) := fun H locs ls hP hS h => lv_ddiv X.1.1 X.1.2.1 hdg hne (k H locs ls hP hS h)
theorem g_if_eq (X : CX p s m args meth c cc own nL G E) {x : Int32} {off : Int} {tgt : Nat} (hdg : decode cc pc = .ok (.ifCond .eq off, 3)) (ht : (pc : Int) + off = (tgt : Int)) (kt : x = 0 → GW p l e R s m args below meth c G E nL Q kc ks D tgt lv st) (kf : ¬ x = 0 → GW p l e R s m args below meth c G E nL Q kc ks D (pc + 3) lv st) : GW p l e R s m args below meth c G E nL Q kc ks D pc lv (.int x :: st) := fun H locs ls hP hS h => lv_if_eq X.1.1 X.1.2.1 hdg ht (fun q => kt q H locs ls hP hS h) (fun q => kf q H locs ls hP hS h)
theorem g_icmp_eq (X : CX p s m args meth c cc own nL G E) {x y : Int32} {off : Int} {tgt : Nat} (hdg : decode cc pc = .ok (.if_icmp .eq off, 3)) (ht : (pc : Int) + off = (tgt : Int)) (kt : x = y → GW p l e R s m args below meth c G E nL Q kc ks D tgt lv st) (kf : ¬ x = y → GW p l e R s m args below meth c G E nL Q kc ks D (pc + 3) lv st) : GW p l e R s m args below meth c G E nL Q kc ks D pc lv (.int y :: .int x :: st) := fun H locs ls hP hS h => lv_icmp_eq X.1.1 X.1.2.1 hdg ht (fun q => kt q H locs ls hP hS h) (fun q => kf q H locs ls hP hS h)
theorem g_if_ne (X : CX p s m args meth c cc own nL G E) {x : Int32} {off : Int} {tgt : Nat} (hdg : decode cc pc = .ok (.ifCond .ne off, 3)) (ht : (pc : Int) + off = (tgt : Int)) (kt : ¬ x = 0 → GW p l e R s m args below meth c G E nL Q kc ks D tgt lv st) (kf : x = 0 → GW p l e R s m args below meth c G E nL Q kc ks D (pc + 3) lv st) : GW p l e R s m args below meth c G E nL Q kc ks D pc lv (.int x :: st) := fun H locs ls hP hS h => lv_if_ne X.1.1 X.1.2.1 hdg ht (fun q => kt q H locs ls hP hS h) (fun q => kf q H locs ls hP hS h)
theorem g_icmp_ne (X : CX p s m args meth c cc own nL G E) {x y : Int32} {off : Int} {tgt : Nat} (hdg : decode cc pc = .ok (.if_icmp .ne off, 3)) (ht : (pc : Int) + off = (tgt : Int)) (kt : ¬ x = y → GW p l e R s m args below meth c G E nL Q kc ks D tgt lv st) (kf : x = y → GW p l e R s m args below meth c G E nL Q kc ks D (pc + 3) lv st) : GW p l e R s m args below meth c G E nL Q kc ks D pc lv (.int y :: .int x :: st) := fun H locs ls hP hS h => lv_icmp_ne X.1.1 X.1.2.1 hdg ht (fun q => kt q H locs ls hP hS h) (fun q => kf q H locs ls hP hS h)
theorem g_if_lt (X : CX p s m args meth c cc own nL G E) {x : Int32} {off : Int} {tgt : Nat} (hdg : decode cc pc = .ok (.ifCond .lt off, 3)) (ht : (pc : Int) + off = (tgt : Int)) (kt : x < 0 → GW p l e R s m args below meth c G E nL Q kc ks D tgt lv st) (kf : ¬ x < 0 → GW p l e R s m args below meth c G E nL Q kc ks D (pc + 3) lv st) : GW p l e R s m args below meth c G E nL Q kc ks D pc lv (.int x :: st) := fun H locs ls hP hS h => lv_if_lt X.1.1 X.1.2.1 hdg ht (fun q => kt q H locs ls hP hS h) (fun q => kf q H locs ls hP hS h)
theorem g_icmp_lt (X : CX p s m args meth c cc own nL G E) {x y : Int32} {off : Int} {tgt : Nat} (hdg : decode cc pc = .ok (.if_icmp .lt off, 3)) (ht : (pc : Int) + off = (tgt : Int)) (kt : x < y → GW p l e R s m args below meth c G E nL Q kc ks D tgt lv st) (kf : ¬ x < y → GW p l e R s m args below meth c G E nL Q kc ks D (pc + 3) lv st) : GW p l e R s m args below meth c G E nL Q kc ks D pc lv (.int y :: .int x :: st) := fun H locs ls hP hS h => lv_icmp_lt X.1.1 X.1.2.1 hdg ht (fun q => kt q H locs ls hP hS h) (fun q => kf q H locs ls hP hS h)
theorem g_if_ge (X : CX p s m args meth c cc own nL G E) {x : Int32} {off : Int} {tgt : Nat} (hdg : decode cc pc = .ok (.ifCond .ge off, 3)) (ht : (pc : Int) + off = (tgt : Int)) (kt : 0 ≤ x → GW p l e R s m args below meth c G E nL Q kc ks D tgt lv st) (kf : ¬ 0 ≤ x → GW p l e R s m args below meth c G E nL Q kc ks D (pc + 3) lv st) : GW p l e R s m args below meth c G E nL Q kc ks D pc lv (.int x :: st) := fun H locs ls hP hS h => lv_if_ge X.1.1 X.1.2.1 hdg ht (fun q => kt q H locs ls hP hS h) (fun q => kf q H locs ls hP hS h)
theorem g_icmp_ge (X : CX p s m args meth c cc own nL G E) {x y : Int32} {off : Int} {tgt : Nat} (hdg : decode cc pc = .ok (.if_icmp .ge off, 3)) (ht : (pc : Int) + off = (tgt : Int)) (kt : y ≤ x → GW p l e R s m args below meth c G E nL Q kc ks D tgt lv st) (kf : ¬ y ≤ x → GW p l e R s m args below meth c G E nL Q kc ks D (pc + 3) lv st) : GW p l e R s m args below meth c G E nL Q kc ks D pc lv (.int y :: .int x :: st) := fun H locs ls hP hS h => lv_icmp_ge X.1.1 X.1.2.1 hdg ht (fun q => kt q H locs ls hP hS h) (fun q => kf q H locs ls hP hS h)
theorem g_if_gt (X : CX p s m args meth c cc own nL G E) {x : Int32} {off : Int} {tgt : Nat} (hdg : decode cc pc = .ok (.ifCond .gt off, 3)) (ht : (pc : Int) + off = (tgt : Int)) (kt : 0 < x → GW p l e R s m args below meth c G E nL Q kc ks D tgt lv st) (kf : ¬ 0 < x → GW p l e R s m args below meth c G E nL Q kc ks D (pc + 3) lv st) : GW p l e R s m args below meth c G E nL Q kc ks D pc lv (.int x :: st) := fun H locs ls hP hS h => lv_if_gt X.1.1 X.1.2.1 hdg ht (fun q => kt q H locs ls hP hS h) (fun q => kf q H locs ls hP hS h)
theorem g_icmp_gt (X : CX p s m args meth c cc own nL G E) {x y : Int32} {off : Int} {tgt : Nat} (hdg : decode cc pc = .ok (.if_icmp .gt off, 3)) (ht : (pc : Int) + off = (tgt : Int)) (kt : y < x → GW p l e R s m args below meth c G E nL Q kc ks D tgt lv st) (kf : ¬ y < x → GW p l e R s m args below meth c G E nL Q kc ks D (pc + 3) lv st) : GW p l e R s m args below meth c G E nL Q kc ks D pc lv (.int y :: .int x :: st) := fun H locs ls hP hS h => lv_icmp_gt X.1.1 X.1.2.1 hdg ht (fun q => kt q H locs ls hP hS h) (fun q => kf q H locs ls hP hS h)
theorem g_if_le (X : CX p s m args meth c cc own nL G E) {x : Int32} {off : Int} {tgt : Nat} (hdg : decode cc pc = .ok (.ifCond .le off, 3)) (ht : (pc : Int) + off = (tgt : Int)) (kt : x ≤ 0 → GW p l e R s m args below meth c G E nL Q kc ks D tgt lv st) (kf : ¬ x ≤ 0 → GW p l e R s m args below meth c G E nL Q kc ks D (pc + 3) lv st) : GW p l e R s m args below meth c G E nL Q kc ks D pc lv (.int x :: st) := fun H locs ls hP hS h => lv_if_le X.1.1 X.1.2.1 hdg ht (fun q => kt q H locs ls hP hS h) (fun q => kf q H locs ls hP hS h)
theorem g_icmp_le (X : CX p s m args meth c cc own nL G E) {x y : Int32} {off : Int} {tgt : Nat} (hdg : decode cc pc = .ok (.if_icmp .le off, 3)) (ht : (pc : Int) + off = (tgt : Int)) (kt : x ≤ y → GW p l e R s m args below meth c G E nL Q kc ks D tgt lv st) (kf : ¬ x ≤ y → GW p l e R s m args below meth c G E nL Q kc ks D (pc + 3) lv st) : GW p l e R s m args below meth c G E nL Q kc ks D pc lv (.int y :: .int x :: st) := fun H locs ls hP hS h => lv_icmp_le X.1.1 X.1.2.1 hdg ht (fun q => kt q H locs ls hP hS h) (fun q => kf q H locs ls hP hS h)
theorem g_dup (X : CX p s m args meth c cc own nL G E) {va : Value} (hdg : decode cc pc = .ok (.dup, 1)) (hva : va.category = 1) (k : GW p l e R s m args below meth c G E nL Q kc ks D (pc + 1) lv (va :: va :: st)) : GW p l e R s m args below meth c G E nL Q kc ks D pc lv (va :: st) := fun H locs ls hP hS h => lv_dup X.1.1 X.1.2.1 hdg hva (k H locs ls hP hS h)
theorem g_pop (X : CX p s m args meth c cc own nL G E) {va : Value} (hdg : decode cc pc = .ok (.pop, 1)) (hva : va.category = 1) (k : GW p l e R s m args below meth c G E nL Q kc ks D (pc + 1) lv st) : GW p l e R s m args below meth c G E nL Q kc ks D pc lv (va :: st) := fun H locs ls hP hS h => lv_pop X.1.1 X.1.2.1 hdg hva (k H locs ls hP hS h)
theorem g_pop2 (X : CX p s m args meth c cc own nL G E) {va : Value} (hdg : decode cc pc = .ok (.pop2, 1)) (hva : va.category = 2) (k : GW p l e R s m args below meth c G E nL Q kc ks D (pc + 1) lv st) : GW p l e R s m args below meth c G E nL Q kc ks D pc lv (va :: st) := fun H locs ls hP hS h => lv_pop2_2 X.1.1 X.1.2.1 hdg hva (k H locs ls hP hS h)
theorem g_dup2 (X : CX p s m args meth c cc own nL G E) {va vb : Value} (hdg : decode cc pc = .ok (.dup2, 1)) (hva : va.category = 1) (hvb : vb.category = 1) (k : GW p l e R s m args below meth c G E nL Q kc ks D (pc + 1) lv (va :: vb :: va :: vb :: st)) : GW p l e R s m args below meth c G E nL Q kc ks D pc lv (va :: vb :: st) := fun H locs ls hP hS h => lv_dup2_11 X.1.1 X.1.2.1 hdg hva hvb (k H locs ls hP hS h)
theorem g_goto (X : CX p s m args meth c cc own nL G E) {off : Int} {tgt : Nat} (hdg : decode cc pc = .ok (.goto off, 3)) (ht : (pc : Int) + off = (tgt : Int)) (k : GW p l e R s m args below meth c G E nL Q kc ks D tgt lv st) : GW p l e R s m args below meth c G E nL Q kc ks D pc lv st := fun H locs ls hP hS h => lv_goto X.1.1 X.1.2.1 hdg ht (k H locs ls hP hS h)
theorem g_get (X : CX p s m args meth c cc own nL G E) {C ref : String} {T : u_T} {N ci index a : Nat} (q0 : Nat) {fs : List Value} (hin : ∀ w ∈ u_ws C T N, w ∈ UT) (he : (wd E D)[q0]? = some (a, .inr (ci, fs))) (hc : vwCl[ci]? = some (C, T, N)) (k : Nat) (hk : k < N) (hlink : Cond.fieldLink own index ref (T k).2.1 (T k).2.2.1 ∈ UT) (hsame : (T k).1 = ref) {v : Value} (hv : fs[k]? = some v) (hdg : decode cc pc = .ok (.getfield index, 3)) (kk : GW p l e R s m args below meth c G E nL Q kc ks D (pc + 3) lv (v :: st)) : GW p l e R s m args below meth c G E nL Q kc ks D pc lv (.ref a :: st) := fun H locs ls hP hS h => va_get X.1.1 X.1.2.1 X.1.2.2.2.2 hin X.1.2.2.2.1 X.2.2.1.1 hP q0 he hc k hk (X.1.2.2.2.2 _ hlink) (fun x hx => by rw [← hsame]; exact hx) hv hdg (kk H locs ls hP hS h)
theorem g_put (X : CX p s m args meth c cc own nL G E) {C ref : String} {T : u_T} {N ci index a : Nat} (q0 : Nat) {fs : List Value} (hin : ∀ w ∈ u_ws C T N, w ∈ UT) (ty0 : Nat → FieldType) (hty : ∀ k, k < N → parseFieldDescriptor (T k).2.2.1 = some (ty0 k)) (hnm : ∀ a, a < N → ∀ b, b < N → a ≠ b → (T a).2.1 ≠ (T b).2.1) (he : (wd E D)[q0]? = some (a, .inr (ci, fs))) (hc : vwCl[ci]? = some (C, T, N)) (k : Nat) (hk : k < N) (hlink : Cond.fieldLink own index ref (T k).2.1 (T k).2.2.1 ∈ UT) (hsame : (T k).1 = ref) (hfin : (T k).2.2.2 = false) {v : Value} (hn : narrow (ty0 k) v = v) (hfit : fits (ty0 k) v = true) (hl : k < fs.length) (hw : (wd E D).set q0 (a, .inr (ci, fs.set k v)) = wd E D') (hdg : decode cc pc = .ok (.putfield index, 3)) (kk : GW p l e R s m args below meth c G E nL Q kc ks D' (pc + 3) lv st) : GW p l e R s m args below meth c G E nL Q kc ks D pc lv (v :: .ref a :: st) := fun H locs ls hP hS h => va_put X.1.1 X.1.2.1 X.1.2.2.2.2 hin ty0 hty hnm X.1.2.2.2.1 X.2.2.1.1 hP (X.2.2.2.1 D) hS q0 he hc k hk (X.1.2.2.2.2 _ hlink) (fun x hx => by rw [← hsame]; exact hx) hfin (hty k hk) hn hfit hl hdg (fun H1 locs1 hP1 _ hS1 => kk H1 locs1 ls (by rw [← hw]; exact hP1) hS1 h)
theorem g_iald (X : CX p s m args meth c cc own nL G E) {a n : Nat} {f : Nat → Int32} (q0 : Nat) (ha : (wd E D)[q0]? = some (a, .inl (E.2 0, n, .inl f))) {i : Int32} (hin : vp_in i n) (hdg : decode cc pc = .ok (.iaload, 1)) (k : GW p l e R s m args below meth c G E nL Q kc ks D (pc + 1) lv (.int (f i.toNatClampNeg) :: st)) : GW p l e R s m args below meth c G E nL Q kc ks D pc lv (.int i :: .ref a :: st) := fun H locs ls hP hS h => va_iald X.1.1 X.1.2.1 X.2.2.1.1 hP q0 0 ha rfl hin hdg (k H locs ls hP hS h)
theorem g_zald (X : CX p s m args meth c cc own nL G E) {a n : Nat} {f : Nat → Int32} (q0 : Nat) (ha : (wd E D)[q0]? = some (a, .inl (E.2 1, n, .inl f))) {i : Int32} (hin : vp_in i n) (hdg : decode cc pc = .ok (.baload, 1)) (k : GW p l e R s m args below meth c G E nL Q kc ks D (pc + 1) lv (.int (f i.toNatClampNeg) :: st)) : GW p l e R s m args below meth c G E nL Q kc ks D pc lv (.int i :: .ref a :: st) := fun H locs ls hP hS h => va_zald X.1.1 X.1.2.1 X.2.2.1.1 hP q0 1 ha rfl hin hdg (k H locs ls hP hS h)
theorem g_cald (X : CX p s m args meth c cc own nL G E) {a n : Nat} {f : Nat → Int32} (q0 : Nat) (ha : (wd E D)[q0]? = some (a, .inl (E.2 2, n, .inl f))) {i : Int32} (hin : vp_in i n) (hdg : decode cc pc = .ok (.caload, 1)) (k : GW p l e R s m args below meth c G E nL Q kc ks D (pc + 1) lv (.int (f i.toNatClampNeg) :: st)) : GW p l e R s m args below meth c G E nL Q kc ks D pc lv (.int i :: .ref a :: st) := fun H locs ls hP hS h => va_cald X.1.1 X.1.2.1 X.2.2.1.1 hP q0 2 ha rfl hin hdg (k H locs ls hP hS h)
theorem g_iast (X : CX p s m args meth c cc own nL G E) {a n : Nat} {f : Nat → Int32} (q0 : Nat) (ha : (wd E D)[q0]? = some (a, .inl (E.2 0, n, .inl f))) {i x : Int32} (hin : vp_in i n) (hw : (wd E D).set q0 (a, .inl (E.2 0, n, .inl (upd f i.toNatClampNeg x))) = wd E D') (hdg : decode cc pc = .ok (.iastore, 1)) (k : GW p l e R s m args below meth c G E nL Q kc ks D' (pc + 1) lv st) : GW p l e R s m args below meth c G E nL Q kc ks D pc lv (.int x :: .int i :: .ref a :: st) := fun H locs ls hP hS h => va_iast X.1.1 X.1.2.1 X.2.2.1.1 hP (X.2.2.2.1 D) hS q0 0 ha rfl hin hdg (fun H1 locs1 hP1 _ hS1 => k H1 locs1 ls (by rw [← hw]; exact hP1) hS1 h)
theorem g_zast (X : CX p s m args meth c cc own nL G E) {a n : Nat} {f : Nat → Int32} (q0 : Nat) (ha : (wd E D)[q0]? = some (a, .inl (E.2 1, n, .inl f))) {i x : Int32} (hin : vp_in i n) (hw : (wd E D).set q0 (a, .inl (E.2 1, n, .inl (upd f i.toNatClampNeg (vp_nar .boolean x)))) = wd E D') (hdg : decode cc pc = .ok (.bastore, 1)) (k : GW p l e R s m args below meth c G E nL Q kc ks D' (pc + 1) lv st) : GW p l e R s m args below meth c G E nL Q kc ks D pc lv (.int x :: .int i :: .ref a :: st) := fun H locs ls hP hS h => va_zast X.1.1 X.1.2.1 X.2.2.1.1 hP (X.2.2.2.1 D) hS q0 1 ha rfl hin hdg (fun H1 locs1 hP1 _ hS1 => k H1 locs1 ls (by rw [← hw]; exact hP1) hS1 h)
theorem g_cast (X : CX p s m args meth c cc own nL G E) {a n : Nat} {f : Nat → Int32} (q0 : Nat) (ha : (wd E D)[q0]? = some (a, .inl (E.2 2, n, .inl f))) {i x : Int32} (hin : vp_in i n) (hw : (wd E D).set q0 (a, .inl (E.2 2, n, .inl (upd f i.toNatClampNeg (vp_nar .char x)))) = wd E D') (hdg : decode cc pc = .ok (.castore, 1)) (k : GW p l e R s m args below meth c G E nL Q kc ks D' (pc + 1) lv st) : GW p l e R s m args below meth c G E nL Q kc ks D pc lv (.int x :: .int i :: .ref a :: st) := fun H locs ls hP hS h => va_cast X.1.1 X.1.2.1 X.2.2.1.1 hP (X.2.2.2.1 D) hS q0 2 ha rfl hin hdg (fun H1 locs1 hP1 _ hS1 => k H1 locs1 ls (by rw [← hw]; exact hP1) hS1 h)
theorem g_alen (X : CX p s m args meth c cc own nL G E) {a t0 : Nat} {cA : ClassId} {x : vp_A} {ty : FieldType} (q0 : Nat) (ha : (wd E D)[q0]? = some (a, .inl (cA, x))) (ht : (tysL E)[t0]? = some (cA, ty)) {v : Int32} (hv : Int32.ofNat x.1 = v) (hdg : decode cc pc = .ok (.arraylength, 1)) (k : GW p l e R s m args below meth c G E nL Q kc ks D (pc + 1) lv (.int v :: st)) : GW p l e R s m args below meth c G E nL Q kc ks D pc lv (.ref a :: st) := fun H locs ls hP hS h => va_alen X.1.1 X.1.2.1 X.2.2.1.1 hP q0 t0 ha ht hv hdg (k H locs ls hP hS h)
-- returns
theorem g_iret (X : CX p s m args meth c cc own nL G E) {ty : FieldType} {v : Int32} {r : RT} (hr : meth.sig.returnType = some ty) (hn : narrow ty (.int v) = .int v) (hdg : decode cc pc = .ok (.ireturn, 1)) (he : ((0, some (.int v), D) : RT) = r) : GW p l e R s m args below meth c G E nL (MQ below (QR G E s.heap.size r) args s kc ks (fr E s.heap.size)) kc ks D pc lv [.int v] := fun H locs ls hP hS h => W.zret X.1.1 X.1.2.1 hr hn (fun t ht hW => by subst he; exact ⟨rfl, rfl, by rw [ht]; exact hP, hS.F ht⟩) hS.2.2 hdg X.2.1
theorem g_vret (X : CX p s m args meth c cc own nL G E) {r : RT} (hr : meth.sig.returnType = none) (hdg : decode cc pc = .ok (.return_, 1)) (he : ((0, none, D) : RT) = r) : GW p l e R s m args below meth c G E nL (MQ below (QR G E s.heap.size r) args s kc ks (fr E s.heap.size)) kc ks D pc lv [] := fun H locs ls hP hS h => W.vret X.1.1 X.1.2.1 hr (fun t ht hW => by subst he; exact ⟨rfl, rfl, by rw [ht]; exact hP, hS.F ht⟩) hS.2.2 hdg X.2.1
theorem g_lret (X : CX p s m args meth c cc own nL G E) {v : Int64} {r : RT} (hr : meth.sig.returnType = some .long) (hdg : decode cc pc = .ok (.lreturn, 1)) (he : ((0, some (.long v), D) : RT) = r) : GW p l e R s m args below meth c G E nL (MQ below (QR G E s.heap.size r) args s kc ks (fr E s.heap.size)) kc ks D pc lv [.long v] := fun H locs ls hP hS h => W.lret X.1.1 X.1.2.1 hr (fun t ht hW => by subst he; exact ⟨rfl, rfl, by rw [ht]; exact hP, hS.F ht⟩) hS.2.2 hdg X.2.1
-- calls
variable {y : MethodName} {bytes : ByteArray} {maxL n index : Nat} {ret : Option FieldType} {rm : Room} {As : List Value} {rv : Option Value}
theorem fr_sub {E : EE} {a b : Nat} (h : a ≤ b) (q : Nat) (hq : fr E b q) : fr E a q := hq.elim Or.inl (fun z => Or.inr (Nat.le_trans h z))
theorem g_go {av : List Value} {r : RT} {H : Heap} {locs : List Loc} {ls : Array Slot} (hr : va_Run p l e R s m args below meth c H locs 0 0 0 0 (F0 m pc ls st) rest (QR G E H.size r av.toArray) (fr E H.size)) (hS : va_S (fr E s.heap.size) s.heap H locs) (h : lv_has ls nL lv) (k : GW p l e R s m args below meth c G E nL Q 0 0 r.2.2 (pc + 3) lv ((r.2.1.map (cvE E)).toList ++ rest)) : W p l e R s m args below meth c H locs 0 0 Q (F0 m pc ls st) := by
  intro T hT X
  obtain ⟨v, st₀, t, T', L, h0, X', hL, e1, e2, ⟨q0, hv, hP, hz, hk⟩, stp⟩ := hr T hT X
  cases hv
  rw [h0] at hz hk
  have hA : ∀ q, fr E H.size q → fr E s.heap.size q := fr_sub hS.1
  obtain ⟨t2, a1, b1⟩ := k T'.heap (locs ++ L) ls (by rw [e1]; exact hP) ⟨Nat.le_trans hS.1 (by rw [e1]; exact hz), fun q h1 h2 => by rw [e1, hk q (Nat.lt_of_lt_of_le h1 hS.1) (fun z => h2 (hA q z))]; exact hS.2.1 q h1 h2, fun q hq => by
      rcases List.mem_append.mp hq with h | h
      · exact hS.2.2 q h
      · exact hA _ (hL q h)⟩ h T' rfl X'
  exact ⟨t2, stp t2 a1, b1⟩
theorem PP_in (X : CX p s m args meth c cc own nL G E) {H : Heap} {locs : List Loc} (hP : va_P G vwCl (wd E D) H) (hS : va_S (fr E s.heap.size) s.heap H locs) {U : State} (hU : U.heap = H) (hW : s.WarmedH U.vm) : PP G E D H.size U := by
  subst hU
  exact ⟨rfl, hP, X.2.2.1.warm hW, wd_any (X.2.2.2.1 D) D, ((X.2.2.2.2.moved hW.alike).kept hS.2.1).narrow (fr_sub hS.1)⟩
theorem g_V (X : CX p s m args meth c cc own nL G E) {C : String} {a ci : Nat} {q : vw_C} {fs : List Value} {r : RT} (hM : MM l G E y bytes maxL ret rm (.ref a :: As) D r) (q0 : Nat) (he : (wd E D)[q0]? = some (a, .inr (ci, fs))) (hc : vwCl[ci]? = some q) (hq : q.1 = C) (hg : GoodIn UT (wsV own index C y (Cond.code y bytes maxL ret :: UT))) (hrm : rm.cells = 0 ∧ rm.slots = 0)
    (hd : y.cls = C ∧ y.cls ≠ "java/lang/invoke/MethodHandle" ∧ y.cls ≠ "java/lang/invoke/VarHandle" ∧ (parseMethodDescriptor y.desc).map (fun d => d.parameters.length) = some n) (hR : rm.frames + 1 ≤ R.frames ∧ 8 + (maxL + 11) + rm.locals ≤ R.locals) (hn : As.length = n) (hst : st = As.reverse ++ .ref a :: rest) (hW : (rest.map fun v => v.category).sum ≤ 8) (hdg : decode cc pc = .ok (.invokevirtual index, 3)) (k : GW p l e R s m args below meth c G E nL Q 0 0 r.2.2 (pc + 3) lv ((r.2.1.map (cvE E)).toList ++ rest)) : GW p l e R s m args below meth c G E nL Q 0 0 D pc lv st := fun H locs ls hP hS h =>
  g_go (va_runV X.1 (hM H.size) (cwV n X.1.2.2.2.2 hg rfl hrm.1 hrm.2 hd hR) ⟨PP_blind, by rw [← hq]; exact va_recv X.2.2.1.1 hP hc he, fun U hU hW => ⟨rfl, PP_in X hP hS hU hW⟩⟩ rfl hn h.1 hst (lv_room hW) hdg ⟨Nat.zero_le _, Nat.zero_le _⟩) hS h k
theorem g_S (X : CX p s m args meth c cc own nL G E) {r : RT} (hM : MM l G E y bytes maxL ret rm As D r) (hg : GoodIn UT (va_wsS own index y (Cond.code y bytes maxL ret :: UT))) (hrm : rm.cells = 0 ∧ rm.slots = 0)
    (hd : y.cls ≠ "java/lang/invoke/MethodHandle" ∧ y.cls ≠ "java/lang/invoke/VarHandle" ∧ (parseMethodDescriptor y.desc).map (fun d => d.parameters.length) = some n) (hR : rm.frames + 1 ≤ R.frames ∧ 8 + (maxL + 11) + rm.locals ≤ R.locals) (hn : As.length = n) (hst : st = As.reverse ++ rest) (hW : (rest.map fun v => v.category).sum ≤ 8) (hdg : decode cc pc = .ok (.invokestatic index, 3)) (k : GW p l e R s m args below meth c G E nL Q 0 0 r.2.2 (pc + 3) lv ((r.2.1.map (cvE E)).toList ++ rest)) : GW p l e R s m args below meth c G E nL Q 0 0 D pc lv st := fun H locs ls hP hS h =>
  g_go (va_runS X.1 (hM H.size) (va_cwS n X.1.2.2.2.2 hg rfl hrm.1 hrm.2 hd hR) ⟨PP_blind, fun U hU hW => ⟨rfl, PP_in X hP hS hU hW⟩⟩ rfl hn h.1 hst (lv_room hW) hdg ⟨Nat.zero_le _, Nat.zero_le _⟩) hS h k
theorem g_SN (X : CX p s m args meth c cc own nL G E) {host : String} {r : RT} (hM : MM l G E y bytes maxL ret rm As D r) (hg : Cond.code y bytes maxL ret ∈ UT) (hl : Cond.methodLinkNest own index y host ∈ NEST) (hini : Cond.initialized y.cls ∈ UT) (hstat : Cond.static y ∈ UT) (hrm : rm.cells = 0 ∧ rm.slots = 0)
    (hd : y.cls ≠ "java/lang/invoke/MethodHandle" ∧ y.cls ≠ "java/lang/invoke/VarHandle" ∧ (parseMethodDescriptor y.desc).map (fun d => d.parameters.length) = some n) (hR : rm.frames + 1 ≤ R.frames ∧ 8 + (maxL + 11) + rm.locals ≤ R.locals) (hn : As.length = n) (hst : st = As.reverse ++ rest) (hW : (rest.map fun v => v.category).sum ≤ 8) (hdg : decode cc pc = .ok (.invokestatic index, 3)) (k : GW p l e R s m args below meth c G E nL Q 0 0 r.2.2 (pc + 3) lv ((r.2.1.map (cvE E)).toList ++ rest)) : GW p l e R s m args below meth c G E nL Q 0 0 D pc lv st := fun H locs ls hP hS h =>
  g_go (va_runSN X.1 (hM H.size) ⟨va_cnB n X.1.2.2.2.2 (gu_c hg) rfl hrm.1 hrm.2 (X.2.2.1.2.1 _ hl) (X.1.2.2.2.2 _ hini) hd hR, X.1.2.2.2.2 _ hstat, trivial⟩ ⟨PP_blind, fun U hU hW => ⟨rfl, PP_in X hP hS hU hW⟩⟩ rfl hn h.1 hst (lv_room hW) hdg ⟨Nat.zero_le _, Nat.zero_le _⟩) hS h k
theorem g_max (X : CX p s m args meth c cc own nL G E) (hlink : Cond.methodLink own index Lib.Math.max.name ∈ UT) (hstat : Cond.static Lib.Math.max.name ∈ UT) (hini : Cond.initialized "java/lang/Math" ∈ UT) (hcode : Cond.code Lib.Math.max.name Lib.Math.max.code 2 (some .int) ∈ UT) (hf : 1 ≤ R.frames) (hlo : (rest.map fun v => v.category).sum + 13 ≤ R.locals) {x y : Int32} (hdg : decode cc pc = .ok (.invokestatic index, 3)) (k : GW p l e R s m args below meth c G E nL Q 0 0 D (pc + 3) lv (.int (if x < y then y else x) :: rest)) : GW p l e R s m args below meth c G E nL Q 0 0 D pc lv (.int y :: .int x :: rest) := fun H locs ls hP hS h => va_mmax X.1.1 X.1.2.1 (X.1.2.2.1.trans h.1.symm) X.1.2.2.2.1 (X.1.2.2.2.2 _ hlink) (X.1.2.2.2.2 _ hstat) (X.1.2.2.2.2 _ hini) (X.1.2.2.2.2 _ hcode) hf hlo (Nat.zero_le _) (Nat.zero_le _) hdg (k H locs ls hP hS h)
theorem g_min (X : CX p s m args meth c cc own nL G E) (hlink : Cond.methodLink own index Lib.Math.min.name ∈ UT) (hstat : Cond.static Lib.Math.min.name ∈ UT) (hini : Cond.initialized "java/lang/Math" ∈ UT) (hcode : Cond.code Lib.Math.min.name Lib.Math.min.code 2 (some .int) ∈ UT) (hf : 1 ≤ R.frames) (hlo : (rest.map fun v => v.category).sum + 13 ≤ R.locals) {x y : Int32} (hdg : decode cc pc = .ok (.invokestatic index, 3)) (k : GW p l e R s m args below meth c G E nL Q 0 0 D (pc + 3) lv (.int (if y < x then y else x) :: rest)) : GW p l e R s m args below meth c G E nL Q 0 0 D pc lv (.int y :: .int x :: rest) := fun H locs ls hP hS h => va_mmin X.1.1 X.1.2.1 (X.1.2.2.1.trans h.1.symm) X.1.2.2.2.1 (X.1.2.2.2.2 _ hlink) (X.1.2.2.2.2 _ hstat) (X.1.2.2.2.2 _ hini) (X.1.2.2.2.2 _ hcode) hf hlo (Nat.zero_le _) (Nat.zero_le _) hdg (k H locs ls hP hS h)
theorem g_abs (X : CX p s m args meth c cc own nL G E) (hlink : Cond.methodLink own index Lib.Math.abs.name ∈ UT) (hstat : Cond.static Lib.Math.abs.name ∈ UT) (hini : Cond.initialized "java/lang/Math" ∈ UT) (hcode : Cond.code Lib.Math.abs.name Lib.Math.abs.code 1 (some .int) ∈ UT) (hf : 1 ≤ R.frames) (hlo : (rest.map fun v => v.category).sum + 13 ≤ R.locals) {x : Int32} (hdg : decode cc pc = .ok (.invokestatic index, 3)) (k : GW p l e R s m args below meth c G E nL Q 0 0 D (pc + 3) lv (.int (if 0 ≤ x then x else 0 - x) :: rest)) : GW p l e R s m args below meth c G E nL Q 0 0 D pc lv (.int x :: rest) := fun H locs ls hP hS h => va_mabs X.1.1 X.1.2.1 (X.1.2.2.1.trans h.1.symm) X.1.2.2.2.1 (X.1.2.2.2.2 _ hlink) (X.1.2.2.2.2 _ hstat) (X.1.2.2.2.2 _ hini) (X.1.2.2.2.2 _ hcode) hf hlo (Nat.zero_le _) (Nat.zero_le _) hdg (k H locs ls hP hS h)
theorem g_tswIn (X : CX p s m args meth c cc own nL G E) {dflt lo hi : Int} {offs : Array Int} {len : Nat} {x v : Int32} {off : Int} {tgt : Nat} (hdg : decode cc pc = .ok (.tableswitch dflt lo hi offs, len)) (hx : x = v) (h1 : ¬ v.toInt < lo) (h2 : ¬ hi < v.toInt) (ho : offs[(v.toInt - lo).toNat]? = some off) (ht : (pc : Int) + off = (tgt : Int)) (k : GW p l e R s m args below meth c G E nL Q kc ks D tgt lv st) : GW p l e R s m args below meth c G E nL Q kc ks D pc lv (.int x :: st) := fun H locs ls hP hS h => by
  subst hx
  exact lv_tableIn X.1.1 X.1.2.1 hdg h1 h2 ho ht (k H locs ls hP hS h)
theorem g_tswOut (X : CX p s m args meth c cc own nL G E) {dflt lo hi : Int} {offs : Array Int} {len : Nat} {x : Int32} {tgt : Nat} (hdg : decode cc pc = .ok (.tableswitch dflt lo hi offs, len)) (h : x.toInt < lo ∨ hi < x.toInt) (ht : (pc : Int) + dflt = (tgt : Int)) (k : GW p l e R s m args below meth c G E nL Q kc ks D tgt lv st) : GW p l e R s m args below meth c G E nL Q kc ks D pc lv (.int x :: st) := fun H locs ls hP hS hl => lv_tableOut X.1.1 X.1.2.1 hdg h ht (k H locs ls hP hS hl)
theorem g_ldc (X : CX p s m args meth c cc own nL G E) {v : Int32} {index : Nat} (hc : Cond.constant own index v ∈ UT) (hdg : decode cc pc = .ok (.ldc index, 2)) (k : GW p l e R s m args below meth c G E nL Q kc ks D (pc + 2) lv (.int v :: st)) : GW p l e R s m args below meth c G E nL Q kc ks D pc lv st := fun H locs ls hP hS h => lv_ldc X.1.1 X.1.2.1 X.1.2.2.2.1 (X.1.2.2.2.2 _ hc) hdg (k H locs ls hP hS h)
theorem g_null (X : CX p s m args meth c cc own nL G E) (hdg : decode cc pc = .ok (.aconst_null, 1)) (k : GW p l e R s m args below meth c G E nL Q kc ks D (pc + 1) lv (.null :: st)) : GW p l e R s m args below meth c G E nL Q kc ks D pc lv st := fun H locs ls hP hS h => lv_null X.1.1 X.1.2.1 hdg (k H locs ls hP hS h)
theorem g_ifnull (X : CX p s m args meth c cc own nL G E) {a : Nat} {off : Int} (hdg : decode cc pc = .ok (.ifnull off, 3)) (k : GW p l e R s m args below meth c G E nL Q kc ks D (pc + 3) lv st) : GW p l e R s m args below meth c G E nL Q kc ks D pc lv (.ref a :: st) := fun H locs ls hP hS h => lv_ifnull X.1.1 X.1.2.1 hdg (k H locs ls hP hS h)
theorem g_ifnullN (X : CX p s m args meth c cc own nL G E) {off : Int} {tgt : Nat} (hdg : decode cc pc = .ok (.ifnull off, 3)) (ht : (pc : Int) + off = (tgt : Int)) (k : GW p l e R s m args below meth c G E nL Q kc ks D tgt lv st) : GW p l e R s m args below meth c G E nL Q kc ks D pc lv (.null :: st) := fun H locs ls hP hS h => lv_ifnullN X.1.1 X.1.2.1 hdg ht (k H locs ls hP hS h)
theorem g_ifnonnull (X : CX p s m args meth c cc own nL G E) {a : Nat} {off : Int} {tgt : Nat} (hdg : decode cc pc = .ok (.ifnonnull off, 3)) (ht : (pc : Int) + off = (tgt : Int)) (k : GW p l e R s m args below meth c G E nL Q kc ks D tgt lv st) : GW p l e R s m args below meth c G E nL Q kc ks D pc lv (.ref a :: st) := fun H locs ls hP hS h => lv_ifnonnull X.1.1 X.1.2.1 hdg ht (k H locs ls hP hS h)
theorem g_ifnonnullN (X : CX p s m args meth c cc own nL G E) {off : Int} (hdg : decode cc pc = .ok (.ifnonnull off, 3)) (k : GW p l e R s m args below meth c G E nL Q kc ks D (pc + 3) lv st) : GW p l e R s m args below meth c G E nL Q kc ks D pc lv (.null :: st) := fun H locs ls hP hS h => lv_ifnonnullN X.1.1 X.1.2.1 hdg (k H locs ls hP hS h)
theorem g_astore_nN (X : CX p s m args meth c cc own nL G E) {i : Fin 4} {i0 : Nat} (hdg : decode cc pc = .ok (.astore_n i, 1)) (hi : (i : Nat) = i0) (hn : i0 < nL) (hl : (i0, Value.null) :: lv.filter (fun q => !(q.1 == i0) && !(q.1 + 1 == i0 && q.2.category == 2)) = lv') (k : GW p l e R s m args below meth c G E nL Q kc ks D (pc + 1) lv' st) : GW p l e R s m args below meth c G E nL Q kc ks D pc lv (.null :: st) := fun H locs ls hP hS h => lv_astore_nN X.1.1 X.1.2.1 hdg hi h hn hl (fun ls h => k H locs ls hP hS h)
theorem g_astoreN (X : CX p s m args meth c cc own nL G E) {i : Nat} (hdg : decode cc pc = .ok (.astore i, 2)) (hn : i < nL) (hl : (i, Value.null) :: lv.filter (fun q => !(q.1 == i) && !(q.1 + 1 == i && q.2.category == 2)) = lv') (k : GW p l e R s m args below meth c G E nL Q kc ks D (pc + 2) lv' st) : GW p l e R s m args below meth c G E nL Q kc ks D pc lv (.null :: st) := fun H locs ls hP hS h => lv_astoreN X.1.1 X.1.2.1 hdg h hn hl (fun ls h => k H locs ls hP hS h)
theorem g_aload_nN (X : CX p s m args meth c cc own nL G E) (j : Nat) {i : Fin 4} {i0 : Nat} (hdg : decode cc pc = .ok (.aload_n i, 1)) (hi : (i : Nat) = i0) (hk : lv[j]? = some (i0, .null)) (k : GW p l e R s m args below meth c G E nL Q kc ks D (pc + 1) lv (.null :: st)) : GW p l e R s m args below meth c G E nL Q kc ks D pc lv st := fun H locs ls hP hS h => lv_aload_nN X.1.1 X.1.2.1 hdg hi (lv_at h j hk) (k H locs ls hP hS h)
theorem g_aloadN (X : CX p s m args meth c cc own nL G E) (j : Nat) {i : Nat} (hdg : decode cc pc = .ok (.aload i, 2)) (hk : lv[j]? = some (i, .null)) (k : GW p l e R s m args below meth c G E nL Q kc ks D (pc + 2) lv (.null :: st)) : GW p l e R s m args below meth c G E nL Q kc ks D pc lv st := fun H locs ls hP hS h => lv_aloadN X.1.1 X.1.2.1 hdg (lv_at h j hk) (k H locs ls hP hS h)
theorem g_aaldR (X : CX p s m args meth c cc own nL G E) {a : Nat} (q0 : Nat) (ha : (wd E D)[q0]? = some (a, .inl (E.2 3, 8, .inr (.inr (.inr (.inr (fun j => if j < 8 then some (E.1 (18 + 5 * j)) else none))))))) {i : Int32} (hin : vp_in i 8) (hdg : decode cc pc = .ok (.aaload, 1)) (k : GW p l e R s m args below meth c G E nL Q kc ks D (pc + 1) lv (.ref (E.1 (18 + 5 * i.toNatClampNeg)) :: st)) : GW p l e R s m args below meth c G E nL Q kc ks D pc lv (.int i :: .ref a :: st) := fun H locs ls hP hS h => va_aldq X.1.1 X.1.2.1 X.2.2.1.1 hP q0 3 ha rfl hin hdg (by
  have hlt : i.toNatClampNeg < 8 := Nat.not_le.mp fun q => hin (Or.inr q)
  have e1 : va_rf ((fun j => if j < 8 then some (E.1 (18 + 5 * j)) else none) i.toNatClampNeg) = .ref (E.1 (18 + 5 * i.toNatClampNeg)) := by
    show va_rf (if i.toNatClampNeg < 8 then _ else _) = _
    rw [if_pos hlt]
    rfl
  rw [e1]
  exact k H locs ls hP hS h)
theorem g_copyi (X : CX p s m args meth c cc own nL G E) {index : Nat} (hlink : Cond.methodLink own index arraycopyName ∈ UT) (hnat : Cond.native arraycopyName ∈ UT) (hstat : Cond.static arraycopyName ∈ UT) (hini : Cond.initialized "java/lang/System" ∈ UT) {a0 a n0 n1 : Nat} {f g : Nat → Int32} (q0 q1 : Nat) (ha0 : (wd E D)[q0]? = some (a0, .inl (E.2 0, n0, .inl f))) (ha1 : (wd E D)[q1]? = some (a, .inl (E.2 0, n1, .inl g))) {sp dp n : Int32} (h1 : ¬ sp < 0) (h2 : ¬ dp < 0) (h3 : ¬ n < 0) (h4 : sp.toNatClampNeg + n.toNatClampNeg ≤ n0) (h5 : dp.toNatClampNeg + n.toNatClampNeg ≤ n1) (hw : (wd E D).set q1 (a, .inl (E.2 0, n1, .inl (va_cpy f g sp.toNatClampNeg dp.toNatClampNeg n.toNatClampNeg))) = wd E D') (hf : 1 ≤ R.frames) (hlo : (rest.map fun v => v.category).sum + (nativeFrameWords "java/lang/System" "arraycopy" 5 + 11) ≤ R.locals) (hdg : decode cc pc = .ok (.invokestatic index, 3)) (k : GW p l e R s m args below meth c G E nL Q 0 0 D' (pc + 3) lv rest) : GW p l e R s m args below meth c G E nL Q 0 0 D pc lv (.int n :: .int dp :: .ref a :: .int sp :: .ref a0 :: rest) := fun H locs ls hP hS h => va_copyi X.1.1 X.1.2.1 (X.1.2.2.1.trans h.1.symm) X.1.2.2.2.1 (X.1.2.2.2.2 _ hlink) (X.1.2.2.2.2 _ hnat) (X.1.2.2.2.2 _ hstat) (X.1.2.2.2.2 _ hini) X.2.2.1.1 hP (X.2.2.2.1 D) hS q0 q1 0 0 ha0 ha1 rfl rfl rfl h1 h2 h3 h4 h5 (fun _ _ => rfl) hf hlo hdg (fun H1 locs1 hP1 _ hS1 => k H1 locs1 ls (by rw [← hw]; exact hP1) hS1 h)
theorem g_aret (X : CX p s m args meth c cc own nL G E) {q : Nat} {n : String} {r : RT} (hr : meth.sig.returnType = some (.object n)) (hdg : decode cc pc = .ok (.areturn, 1)) (he : ((0, some (.ref q), D) : RT) = r) : GW p l e R s m args below meth c G E nL (MQ below (QR G E s.heap.size r) args s kc ks (fr E s.heap.size)) kc ks D pc lv [.ref (E.1 q)] := fun H locs ls hP hS h => W.aret X.1.1 X.1.2.1 hr (Or.inl ⟨_, rfl⟩) (Or.inr ⟨_, rfl⟩) (fun t ht hW => by subst he; exact ⟨rfl, rfl, by rw [ht]; exact hP, hS.F ht⟩) hS.2.2 hdg X.2.1
theorem g_aretN (X : CX p s m args meth c cc own nL G E) {n : String} {r : RT} (hr : meth.sig.returnType = some (.object n)) (hdg : decode cc pc = .ok (.areturn, 1)) (he : ((0, some .null, D) : RT) = r) : GW p l e R s m args below meth c G E nL (MQ below (QR G E s.heap.size r) args s kc ks (fr E s.heap.size)) kc ks D pc lv [.null] := fun H locs ls hP hS h => W.aret X.1.1 X.1.2.1 hr (Or.inl ⟨_, rfl⟩) (Or.inl rfl) (fun t ht hW => by subst he; exact ⟨rfl, rfl, by rw [ht]; exact hP, hS.F ht⟩) hS.2.2 hdg X.2.1
-- methods that may throw
def exN (k : Nat) : String := match k with
  | 1 => "java/lang/IllegalArgumentException"
  | 2 => "java/lang/IllegalStateException"
  | 3 => "java/lang/UnsupportedOperationException"
  | 4 => "java/lang/IndexOutOfBoundsException"
  | 5 => "java/util/NoSuchElementException"
  | _ => "java/lang/ArithmeticException"
def XR (G : va_G) (E : EE) (sz : Nat) (r : RT) : String → State → State → Prop := fun Ex st t => ¬ r.1 = 0 ∧ Ex = exN r.1 ∧ va_P G vwCl (wd E r.2.2) t.heap ∧ va_F (fr E sz) st t
def MX (l : Launch) (G : va_G) (E : EE) (y : MethodName) (bytes : ByteArray) (maxL : Nat) (ret : Option FieldType) (rm : Room) (av : List Value) (D : DD) (r : RT) : Prop :=
  ∀ sz, vx_Met l y (Cond.code y bytes maxL ret :: UT) rm (va_Pc av (PP G E D sz)) (QR G E sz r) (XR G E sz r) 1 6 (fr E sz)
theorem mx_of {y : MethodName} {maxL : Nat} {ret : Option FieldType} {rm : Room} {av : List Value} {r : RT} (hy : plainName y.cls = true) (hlen : (lg_sl av).length ≤ maxL)
    (body : ∀ (p : Program) (e : Env) (s : State) (m : MethodId) (args : Array Value) (below : List Frame) (meth : Method) (c : Code), CX p s m args meth c cc y.cls maxL G E → meth.sig.returnType = ret → (∀ x ∈ c.exceptionTable.toList, False) → GW p l e rm s m args below meth c G E maxL (vx_MQ below (QR G E s.heap.size r) (XR G E s.heap.size r) args s 1 6 (fr E s.heap.size)) 0 0 D 0 (lv_args 0 av) []) : MX l G E y cc maxL ret rm av D r := by
  intro sz
  refine vx_ofW (cc := cc) (maxL := maxL) (ret := ret) hy rfl ?_
  intro p e s m args below meth c s₁ B hml ht hv
  obtain ⟨ha, hsz, hP, hK, hD0, hST⟩ := hv
  subst hsz
  have hts := atoms_spec (ws := Cond.code y cc maxL ret :: UT) B.pre
  have X : CX p s m args meth c cc y.cls maxL G E := ⟨⟨B.exec, B.bytes, hml, findClass_of_methodNamed B.named, fun w hw => hts w (List.mem_cons_of_mem _ hw)⟩, B.notSynchronized, hK, fun D2 => wd_fr _ hD0 D2, hST⟩
  have k := body p e s m args below meth c X B.returns ht
  subst ha
  rw [lg_entry_eq]
  exact k s.heap [] _ hP va_S.rf (lv_entry av hlen)
theorem gx_iret (X : CX p s m args meth c cc own nL G E) {ty : FieldType} {v : Int32} {r : RT} (hr : meth.sig.returnType = some ty) (hn : narrow ty (.int v) = .int v) (hdg : decode cc pc = .ok (.ireturn, 1)) (he : ((0, some (.int v), D) : RT) = r) : GW p l e R s m args below meth c G E nL (vx_MQ below (QR G E s.heap.size r) (XR G E s.heap.size r) args s 1 6 (fr E s.heap.size)) 0 0 D pc lv [.int v] := fun H locs ls hP hS h => W.widen (Nat.zero_le 1) (Nat.zero_le 6) (vx_ret (W.zret X.1.1 X.1.2.1 hr hn (fun t ht hW => by subst he; exact ⟨rfl, rfl, by rw [ht]; exact hP, hS.F ht⟩) hS.2.2 hdg X.2.1))
theorem gx_lret (X : CX p s m args meth c cc own nL G E) {v : Int64} {r : RT} (hr : meth.sig.returnType = some .long) (hdg : decode cc pc = .ok (.lreturn, 1)) (he : ((0, some (.long v), D) : RT) = r) : GW p l e R s m args below meth c G E nL (vx_MQ below (QR G E s.heap.size r) (XR G E s.heap.size r) args s 1 6 (fr E s.heap.size)) 0 0 D pc lv [.long v] := fun H locs ls hP hS h => W.widen (Nat.zero_le 1) (Nat.zero_le 6) (vx_ret (W.lret X.1.1 X.1.2.1 hr (fun t ht hW => by subst he; exact ⟨rfl, rfl, by rw [ht]; exact hP, hS.F ht⟩) hS.2.2 hdg X.2.1))
theorem gx_dret (X : CX p s m args meth c cc own nL G E) {v : UInt64} {r : RT} (hr : meth.sig.returnType = some .double) (hdg : decode cc pc = .ok (.dreturn, 1)) (he : ((0, some (.double v), D) : RT) = r) : GW p l e R s m args below meth c G E nL (vx_MQ below (QR G E s.heap.size r) (XR G E s.heap.size r) args s 1 6 (fr E s.heap.size)) 0 0 D pc lv [.double v] := fun H locs ls hP hS h => W.widen (Nat.zero_le 1) (Nat.zero_le 6) (vx_ret (W.dret X.1.1 X.1.2.1 hr (fun t ht hW => by subst he; exact ⟨rfl, rfl, by rw [ht]; exact hP, hS.F ht⟩) hS.2.2 hdg X.2.1))
theorem gx_throw (X : CX p s m args meth c cc own nL G E) (hfl : l.stackTraces = false) (ht : ∀ x ∈ c.exceptionTable.toList, False) {ik is ic : Nat} {cls text : String} {names : List String} (hcls : Bundle.fit cls = true) (hnames : ∀ n ∈ names, Bundle.fit n = true) (hk : Cond.classLink own ik cls ∈ UT) (hini : Cond.initialized cls ∈ UT) (hstr : (own, is, text) ∈ STRS) (hat : ∀ w ∈ vx_atS own ic cls names, w ∈ UT ∨ w ∈ NEST) (hgood : ∀ w ∈ Cond.classLink own ik cls :: Cond.initialized cls :: vx_atS own ic cls names, vx_ot w = true)
    (d0 : decode cc pc = .ok (.new ik, 3)) (d3 : decode cc (pc + 3) = .ok (.dup, 1)) (d4 : decode cc (pc + 4) = .ok (.ldc is, 2)) (d6 : decode cc (pc + 6) = .ok (.invokespecial ic, 3)) (d9 : decode cc (pc + 9) = .ok (.athrow, 1)) (hRf : names.length + 3 < R.frames) (hRl : (st.map fun v => v.category).sum + (13 * (names.length + 1) + 43) ≤ R.locals) (hRc : 0 + 1 ≤ R.cells) (hRs : 0 + 6 ≤ R.slots) {k : Nat} {r : RT} (hk0 : ¬ k = 0) (hkn : exN k = cls) (he : ((k, none, D) : RT) = r) : GW p l e R s m args below meth c G E nL (vx_MQ below (QR G E s.heap.size r) (XR G E s.heap.size r) args s 1 6 (fr E s.heap.size)) 0 0 D pc lv st := fun H locs ls hP hS h => by
  obtain ⟨sa, hsa⟩ := X.2.2.1.2.2.1 _ hstr
  refine vx_throwS X.1.1 X.1.2.1 hfl X.1.2.2.2.1 hcls hnames (X.1.2.2.2.2 _ hk) (X.1.2.2.2.2 _ hini) hsa (fun w hw => (hat w hw).elim (X.1.2.2.2.2 _) (fun z => va_Nw.use (isNest_on (List.mem_filter.mp z).2) (X.2.2.1.2.1 _ z))) hgood X.2.2.2.2.1 X.2.2.2.2.2.1 hS (h.1.trans X.1.2.2.1.symm) d0 d3 d4 d6 d9 (fun x hx => absurd (ht x hx) id) hRf hRl hRc hRs X.2.1 (fun t hvm h1 h2 => ?_) hS.2.2 (Nat.le_refl _) (Nat.le_refl _)
  subst he
  exact ⟨hk0, hkn.symm, hP.kept (fun k q hq => h2 q.1 (hP k q hq).lt), Nat.le_trans hS.1 h1, fun q g1 g2 => (h2 q (Nat.lt_of_lt_of_le g1 hS.1)).trans (hS.2.1 q g1 g2)⟩
end GG
-- the pure side: steps of a method between its cuts
def run (T : Nat → List Int32 → DD → Option ((Nat × List Int32 × DD) ⊕ RT)) : Nat → Nat → List Int32 → DD → Option RT
  | 0, _, _, _ => none
  | n + 1, k, ls, D => match T k ls D with
    | some (.inl o) => run T n o.1 o.2.1 o.2.2
    | some (.inr r) => some r
    | none => none
theorem run_G {T : Nat → List Int32 → DD → Option ((Nat × List Int32 × DD) ⊕ RT)} {HG : Nat → List Int32 → DD → Prop} {r : RT} (hstep : ∀ k ls D o, T k ls D = some o → (∀ x, o = .inl x → HG x.1 x.2.1 x.2.2) → (∀ x, o = .inr x → x = r) → HG k ls D) : ∀ n k ls D, run T n k ls D = some r → HG k ls D := by
  intro n
  induction n with
  | zero => intro k ls D h; cases h
  | succ n ih =>
    intro k ls D h
    rw [run] at h
    cases hT : T k ls D with
    | none => rw [hT] at h; cases h
    | some o =>
      rw [hT] at h
      cases o with
      | inl x => exact hstep k ls D _ hT (fun x' hx => by cases hx; exact ih _ _ _ h) (fun x' hx => by cases hx)
      | inr x => exact hstep k ls D _ hT (fun x' hx => by cases hx) (fun x' hx => by cases hx; exact Option.some.inj h)
def cI {α : Type} (o : Option RT) (k : Int32 → DD → Option α) : Option α := match o with
  | some (0, some (.int x), D) => k x D
  | _ => none
theorem cI_s {α : Type} {o : Option RT} {k : Int32 → DD → Option α} {y : α} (h : cI o k = some y) : ∃ x D, o = some (0, some (.int x), D) ∧ k x D = some y := by
  unfold cI at h
  split at h
  · exact ⟨_, _, rfl, h⟩
  · cases h
def cL {α : Type} (o : Option RT) (k : Int64 → DD → Option α) : Option α := match o with
  | some (0, some (.long x), D) => k x D
  | _ => none
theorem cL_s {α : Type} {o : Option RT} {k : Int64 → DD → Option α} {y : α} (h : cL o k = some y) : ∃ x D, o = some (0, some (.long x), D) ∧ k x D = some y := by
  unfold cL at h
  split at h
  · exact ⟨_, _, rfl, h⟩
  · cases h
def cV {α : Type} (o : Option RT) (k : DD → Option α) : Option α := match o with
  | some (0, none, D) => k D
  | _ => none
theorem cV_s {α : Type} {o : Option RT} {k : DD → Option α} {y : α} (h : cV o k = some y) : ∃ D, o = some (0, none, D) ∧ k D = some y := by
  unfold cV at h
  split at h
  · exact ⟨_, rfl, h⟩
  · cases h
def cR {α : Type} (o : Option RT) (k : Nat → DD → Option α) (kn : DD → Option α) : Option α := match o with
  | some (0, some (.ref q), D) => k q D
  | some (0, some .null, D) => kn D
  | _ => none
theorem cR_s {α : Type} {o : Option RT} {k : Nat → DD → Option α} {kn : DD → Option α} {y : α} (h : cR o k kn = some y) : (∃ q D, o = some (0, some (.ref q), D) ∧ k q D = some y) ∨ ∃ D, o = some (0, some .null, D) ∧ kn D = some y := by
  unfold cR at h
  split at h
  · exact Or.inl ⟨_, _, rfl, h⟩
  · exact Or.inr ⟨_, rfl, h⟩
  · cases h
/-- an index inside a row of n -/
def inB (i : Int32) (n : Nat) : Bool := decide (0 ≤ i) && decide (i.toNatClampNeg < n)
theorem inB_vp {i : Int32} {n : Nat} (h : inB i n = true) : vp_in i n := by
  simp only [inB, Bool.and_eq_true, decide_eq_true_eq] at h
  intro q
  rcases q with q | q
  · exact absurd h.1 (Int32.not_le.mpr q)
  · exact absurd h.2 (Nat.not_lt.mpr q)
theorem chk_s {α : Type} {c : Prop} [Decidable c] {A : Option α} {y : α} (h : (if c then A else none) = some y) : c ∧ A = some y := by
  split at h
  · exact ⟨by assumption, h⟩
  · cases h
theorem ite_s {α : Type} {c : Prop} [Decidable c] {A B : Option α} {y : α} (h : (if c then A else B) = some y) : (c → A = some y) ∧ (¬ c → B = some y) := ⟨fun hc => by rw [if_pos hc] at h; exact h, fun hc => by rw [if_neg hc] at h; exact h⟩
