theorem ncl_L_8 : Cond.classLink RL 8 "StoneQuarry" ∈ UT := ut 105 (by decide +kernel) (by decide +kernel)
theorem nin_12 : Cond.instantiable "StoneQuarry" 15 ∈ UT := ut 106 (by decide +kernel) (by decide +kernel)
theorem nii_12 : Cond.initialized "StoneQuarry" ∈ UT := ut 75 (by decide +kernel) (by decide +kernel)
theorem nml_L_126 : Cond.methodLink RL 126 yX12_init ∈ UT := ut 107 (by decide +kernel) (by decide +kernel)
theorem nco_12 : Cond.code yX12_init cX12_init 1 none ∈ UT := ut 109 (by decide +kernel) (by decide +kernel)
theorem nim_12 : Cond.instanceMethod yX12_init ∈ UT := ut 108 (by decide +kernel) (by decide +kernel)
theorem nhd_12 : yX12_init.cls ≠ "java/lang/invoke/MethodHandle" ∧ yX12_init.cls ≠ "java/lang/invoke/VarHandle" ∧ (parseMethodDescriptor yX12_init.desc).map (fun d => d.parameters.length) = some 0 := by decide +kernel
theorem ncl_L_127 : Cond.classLink RL 127 "StoneQuarryModel" ∈ UT := ut 1344 (by decide +kernel) (by decide +kernel)
theorem nin_13 : Cond.instantiable "StoneQuarryModel" 25 ∈ UT := ut 1345 (by decide +kernel) (by decide +kernel)
theorem nii_13 : Cond.initialized "StoneQuarryModel" ∈ UT := ut 87 (by decide +kernel) (by decide +kernel)
theorem nml_L_129 : Cond.methodLink RL 129 yX13_init ∈ UT := ut 1346 (by decide +kernel) (by decide +kernel)
theorem nco_13 : Cond.code yX13_init cX13_init 2 none ∈ UT := ut 1348 (by decide +kernel) (by decide +kernel)
theorem nim_13 : Cond.instanceMethod yX13_init ∈ UT := ut 1347 (by decide +kernel) (by decide +kernel)
theorem nhd_13 : yX13_init.cls ≠ "java/lang/invoke/MethodHandle" ∧ yX13_init.cls ≠ "java/lang/invoke/VarHandle" ∧ (parseMethodDescriptor yX13_init.desc).map (fun d => d.parameters.length) = some 0 := by decide +kernel
theorem nac_long : Cond.arrayClass (newarray.typeOf .long) ∈ UT := ut 1795 (by decide +kernel) (by decide +kernel)
theorem nac_double : Cond.arrayClass (newarray.typeOf .double) ∈ UT := ut 1796 (by decide +kernel) (by decide +kernel)
set_option maxRecDepth 100000 in
set_option maxHeartbeats 8000000 in
theorem start_pre {p : Program} {l : Launch} {e : Env} {s : State} {m : MethodId} {b : Nat} {below : List Frame} {meth : Method} {c : Code} {G : va_G} {Q : State → Prop} {cA : Nat → ClassId} (X : NX p s m #[Value.ref b] meth c code RL 10 G cA (fun q => s.heap.size ≤ q)) (k : ∀ (x0 m0 q2 q3 : Nat) (u v : Nat → Nat), NW p l e room_1 s m #[Value.ref b] below meth c G 10 Q (fun q => s.heap.size ≤ q) 101 2430 (((([] ++ pX12 cA x0 u) ++ pX13 cA m0 v) ++ [(q2, .inl (cA 5, 1, .inr (.inl (fun _ => 0))))]) ++ [(q3, .inl (cA 6, 1, .inr (.inr (.inr (.inl (fun _ => 0))))))]) 28 [(0, .ref b), (1, .ref x0), (2, .ref m0), (3, .ref q2), (4, .ref q3), (5, .int 0)] []) : NW p l e room_1 s m #[Value.ref b] below meth c G 10 Q (fun q => s.heap.size ≤ q) 0 0 [] 0 [(0, .ref b)] [] := by
  refine n_new X (ci := 12) (C := RX12) (T := TX12) (fs := [.null, .null, .null, .null, .null, .null, .null, .null, .null, .null, .null, .null, .int 0, .int 0, .int 0]) uX12 tyX12 tyX12_ok ncl_L_8 nin_12 nii_12 rfl (fun j hj => match j, hj with | 0, _ => rfl | 1, _ => rfl | 2, _ => rfl | 3, _ => rfl | 4, _ => rfl | 5, _ => rfl | 6, _ => rfl | 7, _ => rfl | 8, _ => rfl | 9, _ => rfl | 10, _ => rfl | 11, _ => rfl | 12, _ => rfl | 13, _ => rfl | 14, _ => rfl | j + 15, h => absurd h (by omega)) (Nat.le_of_ble_eq_true rfl) (Nat.le_of_ble_eq_true rfl) dL_law_0 (fun x0 => ?_)
  refine n_dup X dL_law_3 rfl ?_
  refine n_I X (w0 := []) (c_X12_init l G cA x0) nco_12 nii_12 nml_L_126 nim_12 rfl nhd_12 ⟨(Nat.le_of_ble_eq_true rfl), (Nat.le_of_ble_eq_true rfl)⟩ rfl (Nat.le_of_ble_eq_true rfl) ⟨(Nat.le_of_ble_eq_true rfl), (Nat.le_of_ble_eq_true rfl)⟩ dL_law_4 (fun u => ?_)
  refine n_astore_n X (i0 := 1) dL_law_7 rfl (by decide) rfl ?_
  refine n_new X (ci := 13) (C := RX13) (T := TX13) (fs := [.int 0, .int 0, .int 0, .int 0, .int 0, .null, .null, .null, .null, .null, .null, .null, .null, .null, .null, .null, .null, .null, .null, .int 0, .int 0, .int 0, .int 0, .int 0, .int 0]) uX13 tyX13 tyX13_ok ncl_L_127 nin_13 nii_13 rfl (fun j hj => match j, hj with | 0, _ => rfl | 1, _ => rfl | 2, _ => rfl | 3, _ => rfl | 4, _ => rfl | 5, _ => rfl | 6, _ => rfl | 7, _ => rfl | 8, _ => rfl | 9, _ => rfl | 10, _ => rfl | 11, _ => rfl | 12, _ => rfl | 13, _ => rfl | 14, _ => rfl | 15, _ => rfl | 16, _ => rfl | 17, _ => rfl | 18, _ => rfl | 19, _ => rfl | 20, _ => rfl | 21, _ => rfl | 22, _ => rfl | 23, _ => rfl | 24, _ => rfl | j + 25, h => absurd h (by omega)) (Nat.le_of_ble_eq_true rfl) (Nat.le_of_ble_eq_true rfl) dL_law_8 (fun m0 => ?_)
  refine n_dup X dL_law_11 rfl ?_
  refine n_I X (w0 := ([] ++ pX12 cA x0 u)) (c_X13_init l G cA m0) nco_13 nii_13 nml_L_129 nim_13 rfl nhd_13 ⟨(Nat.le_of_ble_eq_true rfl), (Nat.le_of_ble_eq_true rfl)⟩ rfl (Nat.le_of_ble_eq_true rfl) ⟨(Nat.le_of_ble_eq_true rfl), (Nat.le_of_ble_eq_true rfl)⟩ dL_law_12 (fun v => ?_)
  refine n_astore_n X (i0 := 2) dL_law_15 rfl (by decide) rfl ?_
  refine n_iconst X (v := (1 : Int32)) dL_law_16 (by decide) ?_
  refine n_newa X (N' := 1) (ty := .long) (a0 := (1, .inr (.inl (fun _ => 0)))) 5 nac_long rfl rfl (fun C h => by cases h) (fun _ => rfl) (by decide) (by decide) (by decide) (Nat.le_of_ble_eq_true rfl) (Nat.le_of_ble_eq_true rfl) dL_law_17 (fun q2 => ?_)
  refine n_astore_n X (i0 := 3) dL_law_19 rfl (by decide) rfl ?_
  refine n_iconst X (v := (1 : Int32)) dL_law_20 (by decide) ?_
  refine n_newa X (N' := 1) (ty := .double) (a0 := (1, .inr (.inr (.inr (.inl (fun _ => 0)))))) 6 nac_double rfl rfl (fun C h => by cases h) (fun _ => rfl) (by decide) (by decide) (by decide) (Nat.le_of_ble_eq_true rfl) (Nat.le_of_ble_eq_true rfl) dL_law_21 (fun q3 => ?_)
  refine n_astore X (i := 4) dL_law_23 (by decide) rfl ?_
  refine n_iconst X (v := (0 : Int32)) dL_law_25 (by decide) ?_
  refine n_istore X (i := 5) dL_law_26 (by decide) rfl ?_
  exact n_sub [5, 4, 3, 2, 1, 0] rfl (k x0 m0 q2 q3 u v)

def D0 : DD := (fun k => if k = 121 then -1 else if k = 122 then -1 else if k = 142 then -1 else if k = 143 then -1 else 0, fun _ => 0, fun k => if k % 4 = 0 then (if k < 44 then f5 else fun _ => 0) else if k = 70 then v5 else if k = 82 then wordsRow else if k = 83 then wordAtRow else fun _ => 0, fun _ _ => 0, fun _ _ => 0, fun _ => none)
def E0 (cA : Nat → ClassId) (K : Nat → Nat) (x0 m0 q2 q3 : Nat) (u v : Nat → Nat) : EE := (na 1 (fun _ => x0) (na 83 u (na 1 (fun _ => m0) (na 14 v (na 1 (fun _ => q2) (na 1 (fun _ => q3) (fun k => K (k + 101))))))), cA)
theorem E0_fst (cA : Nat → ClassId) (K : Nat → Nat) (x0 m0 q2 q3 : Nat) (u v : Nat → Nat) : (E0 cA K x0 m0 q2 q3 u v).1 = na 1 (fun _ => x0) (na 83 u (na 1 (fun _ => m0) (na 14 v (na 1 (fun _ => q2) (na 1 (fun _ => q3) (fun k => K (k + 101))))))) := rfl
theorem na_hi (n : Nat) (f g : Nat → Nat) (j : Nat) (h : n ≤ j) : na n f g j = g (j - n) := by
  unfold na
  have : Nat.blt j n = false := by
    rw [Bool.eq_false_iff]
    intro z
    have := Nat.blt_eq.mp z
    omega
  rw [this]
  rfl
theorem na_lo (n : Nat) (f g : Nat → Nat) (j : Nat) (h : j < n) : na n f g j = f j := by
  unfold na
  rw [Nat.blt_eq.mpr h]
  rfl
theorem ringC_eq (g : Nat → Nat) : ringC g = fun j => if j < 8 then some (g j) else none := by
  have h0 : (0 : Int32).toNatClampNeg = 0 := by decide
  have h1 : (1 : Int32).toNatClampNeg = 1 := by decide
  have h2 : (2 : Int32).toNatClampNeg = 2 := by decide
  have h3 : (3 : Int32).toNatClampNeg = 3 := by decide
  have h4 : (4 : Int32).toNatClampNeg = 4 := by decide
  have h5 : (5 : Int32).toNatClampNeg = 5 := by decide
  have h6 : (6 : Int32).toNatClampNeg = 6 := by decide
  have h7 : (7 : Int32).toNatClampNeg = 7 := by decide
  funext j
  unfold ringC va_up
  rw [h0, h1, h2, h3, h4, h5, h6, h7]
  rcases j with _ | _ | _ | _ | _ | _ | _ | _ | j
  · rfl
  · rfl
  · rfl
  · rfl
  · rfl
  · rfl
  · rfl
  · rfl
  · rw [if_neg (by omega), if_neg (by omega), if_neg (by omega), if_neg (by omega), if_neg (by omega), if_neg (by omega), if_neg (by omega), if_neg (by omega), if_neg (by omega)]
set_option maxRecDepth 100000 in
set_option maxHeartbeats 8000000 in
theorem start_wd (cA : Nat → ClassId) (K : Nat → Nat) (x0 m0 q2 q3 : Nat) (u v : Nat → Nat) : ((((([] : va_W) ++ pX12 cA x0 u) ++ pX13 cA m0 v) ++ [(q2, .inl (cA 5, 1, .inr (.inl (fun _ => 0))))]) ++ [(q3, .inl (cA 6, 1, .inr (.inr (.inr (.inl (fun _ => 0))))))]) = wd (E0 cA K x0 m0 q2 q3 u v) D0 := by
  have h := ringC_eq (fun k => u (17 + 5 * k))
  have h2 : (fun j : Nat => if j < 8 then some ((E0 cA K x0 m0 q2 q3 u v).1 (18 + 5 * j)) else none) = fun j => if j < 8 then some ((fun k => u (17 + 5 * k)) j) else none := by
    funext j
    by_cases hj : j < 8
    · rw [if_pos hj, if_pos hj]
      congr 1
      rw [E0_fst, na_hi _ _ _ _ (by omega), na_lo _ _ _ _ (by omega)]
      show u (18 + 5 * j - 1) = u (17 + 5 * j)
      congr 1
      omega
    · rw [if_neg hj, if_neg hj]
  unfold pX12
  rw [h, ← h2]
  rfl

set_option maxRecDepth 100000 in
set_option maxHeartbeats 8000000 in
theorem whole_start_of (hpure : ∀ (L : Nat) (xs : Nat → Int32), L ≤ 2048 → ∃ n, n ≤ 100000 ∧ lrun (T_law xs L) n 0 0 D0 = some 1) {p : Program} {e : Env} {s : State} {m : MethodId} {below : List Frame} {meth : Method} {c : Code} (l : Launch) (hflags : l.flags = flags0) {b L : Nat} {xs : Nat → Int32} (hL : L ≤ 2048) (C0 : lw_At p s m meth c b L xs) : W p l e room_1 s m #[Value.ref b] below meth c s.heap [] 0 0 (lw_Z below #[Value.ref b] s) (entryFrame m ([Value.ref b] : List Value).toArray 10) := by
  obtain ⟨hx, hb, hr, hml, hown, hts, hX, hbl, hlocks, hgv⟩ := C0
  have hs : ∀ w ∈ FL, w.before #[Value.ref b] s = true := flat_of_before _ hgv
  obtain ⟨G, cA, hK⟩ := start_KN hts hs
  obtain ⟨K, hST⟩ := start_ST hts hs
  have hF : CallFix p m c code 10 s #[Value.ref b] UT RL := ⟨hx, hb, hml, hown, fun w hw => hts w (List.mem_filter.mp hw).1⟩
  have X : NX p s m #[Value.ref b] meth c code RL 10 G cA (fun q => s.heap.size ≤ q) := ⟨hF, hlocks, hK, fun q h => h⟩
  have hP0 : va_P G vwCl [] s.heap := fun k q h => by simp at h
  have hD0 : va_D (fun q => s.heap.size ≤ q) [] := ⟨fun i j p q h => by simp at h, fun k q h => by simp at h⟩
  rw [lg_entry_eq]
  refine start_pre (below := below) X (fun x0 m0 q2 q3 u v => ?_) s.heap [] _ hP0 hD0 va_S.rf (lv_entry [.ref b] (Nat.le_of_ble_eq_true rfl))
  intro H locs ls hP hD hS hl
  have hw := start_wd cA (fun k => K (k + 0)) x0 m0 q2 q3 u v
  rw [hw] at hP hD
  generalize hE0 : E0 cA (fun k => K (k + 0)) x0 m0 q2 q3 u v = E at hP hD
  have hE : ∀ k, k < 101 → s.heap.size ≤ E.1 k := fun k hk => by
    have h1 : ((wd E D0).map Prod.fst)[k]? = some (E.1 k) := by
      rw [wd_addr, List.getElem?_map, List.getElem?_range hk]
      rfl
    rw [List.getElem?_map] at h1
    obtain ⟨q, h2, h3⟩ := Option.map_eq_some_iff.mp h1
    have := hD.2 k q h2
    rw [h3] at this
    exact this
  have hfrA : ∀ q, fr E s.heap.size q → s.heap.size ≤ q := fun q h => by
    rcases h with ⟨k, hk, rfl⟩ | h
    · exact hE k hk
    · exact h
  have hAfr : ∀ q, s.heap.size ≤ q → fr E s.heap.size q := fun q h => Or.inr h
  have hEK : ∀ k, 1000 ≤ k → E.1 k = K k := fun k hk => by
    rw [← hE0, E0_fst, na_hi _ _ _ _ (by omega), na_hi _ _ _ _ (by omega), na_hi _ _ _ _ (by omega), na_hi _ _ _ _ (by omega), na_hi _ _ _ _ (by omega), na_hi _ _ _ _ (by omega)]
    show K (k - 1 - 83 - 1 - 14 - 1 - 1 + 101 + 0) = K k
    congr 1
    omega
  have hE2 : E.2 = cA := by rw [← hE0]; rfl
  have hKK : KK G E s := by
    have h1 := hK.1
    unfold KK at h1 ⊢
    have e : tysL E = tysL ((fun _ => 0), cA) := by
      unfold tysL
      rw [hE2]
    rw [e]
    exact h1
  have XX : CX p s m #[Value.ref b] meth c code RL 10 G E := ⟨hF, hlocks, hKK, fun D => (hD.weaken (B := fr E s.heap.size) (fun k q _ h => hAfr _ h)).fsts (wd_fst E D D0) (fun q hq => by
    rw [wd_addr] at hq
    obtain ⟨k, h1, h2⟩ := List.mem_map.mp hq
    exact Or.inl ⟨k, List.mem_range.mp h1, h2.symm⟩), (hST E hEK).narrow hfrA⟩
  have hbA : ¬ fr E s.heap.size b := fun h => Nat.not_lt.mpr (hfrA b h) hbl
  obtain ⟨n, hn, hlaw⟩ := hpure L xs hL
  have hfl : l.stackTraces = false := by
    unfold Launch.stackTraces
    rw [hflags]
    rfl
  have kk := c_law (below := below) (e := e) XX hfl hr hX hbl hbA hE n hn 0 0 D0 hlaw
  have hS2 : va_S (fr E s.heap.size) s.heap H locs := ⟨hS.1, fun q h1 h2 => hS.2.1 q h1 (fun z => h2 (hAfr q z)), fun q hq => hAfr _ (hS.2.2 q hq)⟩
  have e1 : E.1 0 = x0 := by rw [← hE0]; rfl
  have e2 : E.1 84 = m0 := by rw [← hE0]; rfl
  have e3 : E.1 99 = q2 := by rw [← hE0]; rfl
  have e4 : E.1 100 = q3 := by rw [← hE0]; rfl
  have kk2 := kk H locs ls hP hS2 (by rw [e1, e2, e3, e4]; exact hl)
  exact W.widen (by omega) (by omega) kk2
