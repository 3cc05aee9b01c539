theorem nol_X8 : Cond.methodLink RX8 3 Lib.objectInit ∈ UT := ut 118 (by decide +kernel) (by decide +kernel)
theorem nac_int : Cond.arrayClass (newarray.typeOf .int) ∈ UT := ut 156 (by decide +kernel) (by decide +kernel)
theorem nfl_X8_9 : Cond.fieldLink RX8 9 "StoneQuarry$QuarryState" "hardness" "[I" ∈ UT := ut 122 (by decide +kernel) (by decide +kernel)
theorem nfl_X8_15 : Cond.fieldLink RX8 15 "StoneQuarry$QuarryState" "chargeCells" "[I" ∈ UT := ut 123 (by decide +kernel) (by decide +kernel)
theorem nfl_X8_18 : Cond.fieldLink RX8 18 "StoneQuarry$QuarryState" "strengths" "[I" ∈ UT := ut 124 (by decide +kernel) (by decide +kernel)
theorem nfl_X8_21 : Cond.fieldLink RX8 21 "StoneQuarry$QuarryState" "prices" "[I" ∈ UT := ut 125 (by decide +kernel) (by decide +kernel)
theorem nhd_fill : yJ7_fill_53178.cls ≠ "java/lang/invoke/MethodHandle" ∧ yJ7_fill_53178.cls ≠ "java/lang/invoke/VarHandle" ∧ (parseMethodDescriptor yJ7_fill_53178.desc).map (fun d => d.parameters.length) = some 2 := by decide +kernel
theorem nks_fill : GoodIn UT (va_wsS RX8 24 yJ7_fill_53178 (Cond.code yJ7_fill_53178 cJ7_fill_53178 4 none :: UT)) := gu_S (ut 119 (by decide +kernel) (by decide +kernel)) (ut 120 (by decide +kernel) (by decide +kernel)) (ut 77 (by decide +kernel) (by decide +kernel)) (ut 121 (by decide +kernel) (by decide +kernel))
theorem nol_X11 : Cond.methodLink RX11 3 Lib.objectInit ∈ UT := ut 182 (by decide +kernel) (by decide +kernel)
theorem nac_boolean : Cond.arrayClass (newarray.typeOf .boolean) ∈ UT := ut 193 (by decide +kernel) (by decide +kernel)
theorem nfl_X11_9 : Cond.fieldLink RX11 9 "StoneQuarry$Veins" "found" "[Z" ∈ UT := ut 183 (by decide +kernel) (by decide +kernel)
theorem nfl_X11_15 : Cond.fieldLink RX11 15 "StoneQuarry$Veins" "order" "[I" ∈ UT := ut 184 (by decide +kernel) (by decide +kernel)
theorem nol_X1 : Cond.methodLink RX1 3 Lib.objectInit ∈ UT := ut 199 (by decide +kernel) (by decide +kernel)
theorem nfl_X1_9 : Cond.fieldLink RX1 9 "StoneQuarry$Blast" "exploded" "[Z" ∈ UT := ut 200 (by decide +kernel) (by decide +kernel)
theorem nfl_X1_15 : Cond.fieldLink RX1 15 "StoneQuarry$Blast" "opened" "[Z" ∈ UT := ut 201 (by decide +kernel) (by decide +kernel)
theorem nfl_X1_18 : Cond.fieldLink RX1 18 "StoneQuarry$Blast" "order" "[I" ∈ UT := ut 202 (by decide +kernel) (by decide +kernel)
theorem nol_X10 : Cond.methodLink RX10 3 Lib.objectInit ∈ UT := ut 223 (by decide +kernel) (by decide +kernel)
theorem nfl_X10_9 : Cond.fieldLink RX10 9 "StoneQuarry$Tunnels" "cost" "[I" ∈ UT := ut 224 (by decide +kernel) (by decide +kernel)
theorem nfl_X10_15 : Cond.fieldLink RX10 15 "StoneQuarry$Tunnels" "settled" "[Z" ∈ UT := ut 225 (by decide +kernel) (by decide +kernel)
theorem nol_X9 : Cond.methodLink RX9 3 Lib.objectInit ∈ UT := ut 236 (by decide +kernel) (by decide +kernel)
theorem nfl_X9_9 : Cond.fieldLink RX9 9 "StoneQuarry$Slabs" "partner" "[I" ∈ UT := ut 237 (by decide +kernel) (by decide +kernel)
theorem nfl_X9_15 : Cond.fieldLink RX9 15 "StoneQuarry$Slabs" "asked" "[Z" ∈ UT := ut 238 (by decide +kernel) (by decide +kernel)
theorem nfl_X9_19 : Cond.fieldLink RX9 19 "StoneQuarry$Slabs" "most" "[I" ∈ UT := ut 239 (by decide +kernel) (by decide +kernel)
theorem nfl_X9_22 : Cond.fieldLink RX9 22 "StoneQuarry$Slabs" "mostNext" "[I" ∈ UT := ut 240 (by decide +kernel) (by decide +kernel)
theorem nol_X2 : Cond.methodLink RX2 3 Lib.objectInit ∈ UT := ut 255 (by decide +kernel) (by decide +kernel)
theorem nfl_X2_9 : Cond.fieldLink RX2 9 "StoneQuarry$Blocks" "heights" "[I" ∈ UT := ut 256 (by decide +kernel) (by decide +kernel)
theorem nol_X5 : Cond.methodLink RX5 3 Lib.objectInit ∈ UT := ut 265 (by decide +kernel) (by decide +kernel)
theorem nfl_X5_9 : Cond.fieldLink RX5 9 "StoneQuarry$Cuts" "coins" "[I" ∈ UT := ut 266 (by decide +kernel) (by decide +kernel)
theorem nfl_X5_15 : Cond.fieldLink RX5 15 "StoneQuarry$Cuts" "pieces" "[I" ∈ UT := ut 267 (by decide +kernel) (by decide +kernel)
theorem nol_X7 : Cond.methodLink RX7 3 Lib.objectInit ∈ UT := ut 278 (by decide +kernel) (by decide +kernel)
theorem nac_char : Cond.arrayClass (newarray.typeOf .char) ∈ UT := ut 286 (by decide +kernel) (by decide +kernel)
theorem nfl_X7_11 : Cond.fieldLink RX7 11 "StoneQuarry$Line" "signs" "[C" ∈ UT := ut 279 (by decide +kernel) (by decide +kernel)
theorem nol_X4 : Cond.methodLink RX4 3 Lib.objectInit ∈ UT := ut 292 (by decide +kernel) (by decide +kernel)
theorem nfl_X4_11 : Cond.fieldLink RX4 11 "StoneQuarry$CommandText" "signs" "[C" ∈ UT := ut 295 (by decide +kernel) (by decide +kernel)
theorem ncl_X4_15 : Cond.classLink RX4 15 "StoneQuarry$Command" ∈ UT := ut 293 (by decide +kernel) (by decide +kernel)
theorem nfl_X4_17 : Cond.fieldLink RX4 17 "StoneQuarry$CommandText" "commands" "[LStoneQuarry$Command;" ∈ UT := ut 296 (by decide +kernel) (by decide +kernel)
theorem nfl_X4_21 : Cond.fieldLink RX4 21 "StoneQuarry$CommandText" "parameters" "[I" ∈ UT := ut 297 (by decide +kernel) (by decide +kernel)
theorem nol_X6 : Cond.methodLink RX6 3 Lib.objectInit ∈ UT := ut 162 (by decide +kernel) (by decide +kernel)
theorem ncl_X6_9 : Cond.classLink RX6 9 "StoneQuarry$QuarryState" ∈ UT := ut 163 (by decide +kernel) (by decide +kernel)
theorem nfl_X6_11 : Cond.fieldLink RX6 11 "StoneQuarry$History" "ring" "[LStoneQuarry$QuarryState;" ∈ UT := ut 166 (by decide +kernel) (by decide +kernel)
theorem nin_8 : Cond.instantiable "StoneQuarry$QuarryState" 9 ∈ UT := ut 114 (by decide +kernel) (by decide +kernel)
theorem nii_8 : Cond.initialized "StoneQuarry$QuarryState" ∈ UT := ut 76 (by decide +kernel) (by decide +kernel)
theorem nml_X6_17 : Cond.methodLink RX6 17 yX8_init ∈ UT := ut 165 (by decide +kernel) (by decide +kernel)
theorem nco_8 : Cond.code yX8_init cX8_init 1 none ∈ UT := ut 117 (by decide +kernel) (by decide +kernel)
theorem nim_8 : Cond.instanceMethod yX8_init ∈ UT := ut 116 (by decide +kernel) (by decide +kernel)
theorem nhd_8 : yX8_init.cls ≠ "java/lang/invoke/MethodHandle" ∧ yX8_init.cls ≠ "java/lang/invoke/VarHandle" ∧ (parseMethodDescriptor yX8_init.desc).map (fun d => d.parameters.length) = some 0 := by decide +kernel
def f5 : Nat → Int32 := fun j => if j < 36 then 5 else 0
def f5i (i : Nat) : Nat → Int32 := fun j => if j < i then 5 else 0
theorem f5i_s (i : Nat) (h : i < 36) : upd (f5i i) (Int32.ofNat i).toNatClampNeg 5 = f5i (i + 1) := by
  have e : (Int32.ofNat i).toNatClampNeg = i := (by decide : ∀ i, i < 36 → (Int32.ofNat i).toNatClampNeg = i) i h
  rw [e]
  funext j
  unfold upd f5i
  by_cases hj : j = i
  · subst hj
    simp
  · by_cases hl : j < i
    · simp [hj, hl, Nat.lt_succ_of_lt hl]
    · simp [hj, hl, show ¬ j < i + 1 by omega]
set_option maxRecDepth 100000 in
set_option maxHeartbeats 8000000 in
theorem c_fill36 (l : Launch) (G : va_G) (cA : Nat → ClassId) (a : Nat) : IN l G cA yJ7_fill_53178 cJ7_fill_53178 4 { frames := 0, cells := 0, slots := 0, locals := 0 } [.ref a, .int 5] [(a, .inl (cA 0, 36, .inl (fun _ => 0)))] (fun _ => [(a, .inl (cA 0, 36, .inl f5))]) := by
  refine n_of rfl (Nat.le_of_ble_eq_true rfl) ?_
  intro p e s m args below meth c X hr hnm
  refine n_iconst X (v := (0 : Int32)) dJ7_fill_53178_0 (by decide) ?_
  refine n_istore_n X (i0 := 2) dJ7_fill_53178_1 rfl (by decide) rfl ?_
  refine n_aload_n X 1 (i0 := 0) dJ7_fill_53178_2 rfl rfl ?_
  refine n_alen X (t0 := 0) (ty := .int) (v := (36 : Int32)) 0 rfl rfl rfl dJ7_fill_53178_3 ?_
  refine n_istore_n X (i0 := 3) dJ7_fill_53178_4 rfl (by decide) rfl ?_
  have key : ∀ k i, i + k = 36 → NW p l e { frames := 0, cells := 0, slots := 0, locals := 0 } s m args below meth c G 4 (MQ below (QN G [(a, .inl (cA 0, 36, .inl (fun _ => 0)))] (fun _ => [(a, .inl (cA 0, 36, .inl f5))]) s.heap.size) args s 0 0 (va_A [(a, .inl (cA 0, 36, .inl (fun _ => 0)))] s.heap.size)) (va_A [(a, .inl (cA 0, 36, .inl (fun _ => 0)))] s.heap.size) 0 0 [(a, .inl (cA 0, 36, .inl (f5i i)))] 5 [(2, .int (Int32.ofNat i)), (3, .int 36), (0, .ref a), (1, .int 5)] [] := by
    intro k
    induction k with
    | zero =>
      intro i hi
      have hi : i = 36 := by omega
      subst hi
      refine n_iload_n X 0 (i0 := 2) dJ7_fill_53178_5 rfl rfl ?_
      refine n_iload_n X 1 (i0 := 3) dJ7_fill_53178_6 rfl rfl ?_
      refine n_icmp_ge X (tgt := 20) dJ7_fill_53178_7 (by decide) (fun _ => ?_) (fun z => absurd z (by decide))
      exact n_vret X (rm := { frames := 0, cells := 0, slots := 0, locals := 0 }) (post := fun _ => [(a, .inl (cA 0, 36, .inl f5))]) (fun _ => 0) hr dJ7_fill_53178_20 (Nat.le_refl _) (Nat.le_refl _) rfl
    | succ k ih =>
      intro i hi
      have hlt : i < 36 := by omega
      refine n_iload_n X 0 (i0 := 2) dJ7_fill_53178_5 rfl rfl ?_
      refine n_iload_n X 1 (i0 := 3) dJ7_fill_53178_6 rfl rfl ?_
      refine n_icmp_ge X (tgt := 20) dJ7_fill_53178_7 (by decide) (fun z => absurd z ((by decide : ∀ i, i < 36 → ¬ (36 : Int32) ≤ Int32.ofNat i) i hlt)) (fun _ => ?_)
      refine n_aload_n X 2 (i0 := 0) dJ7_fill_53178_10 rfl rfl ?_
      refine n_iload_n X 0 (i0 := 2) dJ7_fill_53178_11 rfl rfl ?_
      refine n_iload_n X 3 (i0 := 1) dJ7_fill_53178_12 rfl rfl ?_
      refine n_iast X (ws' := [(a, .inl (cA 0, 36, .inl (f5i (i + 1))))]) 0 rfl (inB_vp ((by decide : ∀ i, i < 36 → inB (Int32.ofNat i) 36 = true) i hlt)) (by rw [f5i_s i hlt]; rfl) dJ7_fill_53178_13 ?_
      refine n_iinc X 0 (v := Int32.ofNat (i + 1)) dJ7_fill_53178_14 rfl ((by decide : ∀ i, i < 36 → Int32.ofNat i + Int32.ofInt 1 = Int32.ofNat (i + 1)) i hlt) (by decide) rfl ?_
      refine n_goto X (tgt := 5) dJ7_fill_53178_17 (by decide) ?_
      exact ih (i + 1) (by omega)
  refine n_sub (lv' := [(2, .int (Int32.ofNat 0)), (3, .int 36), (0, .ref a), (1, .int 5)]) [1, 0, 2, 3] rfl ?_
  have e0 : f5i 0 = fun _ => 0 := by
    funext j
    rfl
  have k := key 36 0 rfl
  rw [e0] at k
  exact k

def pX8 (cA : Nat → ClassId) (h0 : Nat) (as : Nat → Nat) : va_W := [(h0, .inr (8, [.ref (as 0), .ref (as 1), .ref (as 2), .ref (as 3), .int 0, .int 0, .int 0, .int 0, .long 0])), (as 0, .inl (cA 0, 36, .inl f5)), (as 1, .inl (cA 0, 6, .inl (fun _ => 0))), (as 2, .inl (cA 0, 6, .inl (fun _ => 0))), (as 3, .inl (cA 0, 11, .inl (fun _ => 0)))]
set_option maxRecDepth 100000 in
set_option maxHeartbeats 8000000 in
theorem c_X8_init (l : Launch) (G : va_G) (cA : Nat → ClassId) (h0 : Nat) : IN l G cA yX8_init cX8_init 1 ({ frames := 1, cells := 4, slots := 59, locals := 60 }) [.ref h0] [(h0, .inr (8, [.null, .null, .null, .null, .int 0, .int 0, .int 0, .int 0, .long 0]))] (pX8 cA h0) := by
  refine n_of rfl (Nat.le_of_ble_eq_true rfl) ?_
  intro p e s m args below meth c X hr hnm
  refine n_aload_n X 0 (i0 := 0) dX8_init_0 rfl rfl ?_
  refine n_obj X nol_X8 dX8_init_1 (Nat.le_of_ble_eq_true rfl) (Nat.le_of_ble_eq_true rfl) ?_
  refine n_aload_n X 0 (i0 := 0) dX8_init_4 rfl rfl ?_
  refine n_bipush X (v := (36 : Int32)) dX8_init_5 (by decide) ?_
  refine n_newa X (N' := 36) (ty := .int) (a0 := (36, .inl (fun _ => 0))) 0 nac_int rfl rfl (fun C h => by cases h) (fun _ => rfl) (by decide) (by decide) (by decide) (Nat.le_of_ble_eq_true rfl) (Nat.le_of_ble_eq_true rfl) dX8_init_7 (fun q7 => ?_)
  refine n_putF X hnm (T := TX8) (v := .ref q7) (ws' := [(h0, .inr (8, [.ref q7, .null, .null, .null, .int 0, .int 0, .int 0, .int 0, .long 0])), (q7, .inl (cA 0, 36, .inl (fun _ => 0)))]) 0 uX8 tyX8 tyX8_ok nmX8 rfl rfl 0 (by decide) nfl_X8_9 rfl rfl rfl rfl rfl (Nat.le_of_ble_eq_true rfl) rfl dX8_init_9 ?_
  refine n_aload_n X 0 (i0 := 0) dX8_init_12 rfl rfl ?_
  refine n_bipush X (v := (6 : Int32)) dX8_init_13 (by decide) ?_
  refine n_newa X (N' := 6) (ty := .int) (a0 := (6, .inl (fun _ => 0))) 0 nac_int rfl rfl (fun C h => by cases h) (fun _ => rfl) (by decide) (by decide) (by decide) (Nat.le_of_ble_eq_true rfl) (Nat.le_of_ble_eq_true rfl) dX8_init_15 (fun q15 => ?_)
  refine n_putF X hnm (T := TX8) (v := .ref q15) (ws' := [(h0, .inr (8, [.ref q7, .ref q15, .null, .null, .int 0, .int 0, .int 0, .int 0, .long 0])), (q7, .inl (cA 0, 36, .inl (fun _ => 0))), (q15, .inl (cA 0, 6, .inl (fun _ => 0)))]) 0 uX8 tyX8 tyX8_ok nmX8 rfl rfl 1 (by decide) nfl_X8_15 rfl rfl rfl rfl rfl (Nat.le_of_ble_eq_true rfl) rfl dX8_init_17 ?_
  refine n_aload_n X 0 (i0 := 0) dX8_init_20 rfl rfl ?_
  refine n_bipush X (v := (6 : Int32)) dX8_init_21 (by decide) ?_
  refine n_newa X (N' := 6) (ty := .int) (a0 := (6, .inl (fun _ => 0))) 0 nac_int rfl rfl (fun C h => by cases h) (fun _ => rfl) (by decide) (by decide) (by decide) (Nat.le_of_ble_eq_true rfl) (Nat.le_of_ble_eq_true rfl) dX8_init_23 (fun q23 => ?_)
  refine n_putF X hnm (T := TX8) (v := .ref q23) (ws' := [(h0, .inr (8, [.ref q7, .ref q15, .ref q23, .null, .int 0, .int 0, .int 0, .int 0, .long 0])), (q7, .inl (cA 0, 36, .inl (fun _ => 0))), (q15, .inl (cA 0, 6, .inl (fun _ => 0))), (q23, .inl (cA 0, 6, .inl (fun _ => 0)))]) 0 uX8 tyX8 tyX8_ok nmX8 rfl rfl 2 (by decide) nfl_X8_18 rfl rfl rfl rfl rfl (Nat.le_of_ble_eq_true rfl) rfl dX8_init_25 ?_
  refine n_aload_n X 0 (i0 := 0) dX8_init_28 rfl rfl ?_
  refine n_bipush X (v := (11 : Int32)) dX8_init_29 (by decide) ?_
  refine n_newa X (N' := 11) (ty := .int) (a0 := (11, .inl (fun _ => 0))) 0 nac_int rfl rfl (fun C h => by cases h) (fun _ => rfl) (by decide) (by decide) (by decide) (Nat.le_of_ble_eq_true rfl) (Nat.le_of_ble_eq_true rfl) dX8_init_31 (fun q31 => ?_)
  refine n_putF X hnm (T := TX8) (v := .ref q31) (ws' := [(h0, .inr (8, [.ref q7, .ref q15, .ref q23, .ref q31, .int 0, .int 0, .int 0, .int 0, .long 0])), (q7, .inl (cA 0, 36, .inl (fun _ => 0))), (q15, .inl (cA 0, 6, .inl (fun _ => 0))), (q23, .inl (cA 0, 6, .inl (fun _ => 0))), (q31, .inl (cA 0, 11, .inl (fun _ => 0)))]) 0 uX8 tyX8 tyX8_ok nmX8 rfl rfl 3 (by decide) nfl_X8_21 rfl rfl rfl rfl rfl (Nat.le_of_ble_eq_true rfl) rfl dX8_init_33 ?_
  refine n_aload_n X 0 (i0 := 0) dX8_init_36 rfl rfl ?_
  refine n_get X (v := .ref q7) (T := TX8) 0 uX8 rfl rfl 0 (by decide) nfl_X8_9 rfl rfl dX8_init_37 ?_
  refine n_iconst X (v := (5 : Int32)) dX8_init_40 (by decide) ?_
  refine n_S1 X [1] [0, 2, 3, 4] [0, 4, 1, 2, 3] (As := [.ref q7, .int 5]) (rest := []) (wr := [(h0, .inr (8, [.ref q7, .ref q15, .ref q23, .ref q31, .int 0, .int 0, .int 0, .int 0, .long 0])), (q15, .inl (cA 0, 6, .inl (fun _ => 0))), (q23, .inl (cA 0, 6, .inl (fun _ => 0))), (q31, .inl (cA 0, 11, .inl (fun _ => 0)))]) (wf := fun _ => [(h0, .inr (8, [.ref q7, .ref q15, .ref q23, .ref q31, .int 0, .int 0, .int 0, .int 0, .long 0])), (q7, .inl (cA 0, 36, .inl f5)), (q15, .inl (cA 0, 6, .inl (fun _ => 0))), (q23, .inl (cA 0, 6, .inl (fun _ => 0))), (q31, .inl (cA 0, 11, .inl (fun _ => 0)))]) (c_fill36 l G cA q7) nks_fill nhd_fill ⟨(Nat.le_of_ble_eq_true rfl), (Nat.le_of_ble_eq_true rfl)⟩ rfl rfl (Nat.le_of_ble_eq_true rfl) ⟨(Nat.le_of_ble_eq_true rfl), (Nat.le_of_ble_eq_true rfl)⟩ rfl rfl rfl rfl (by decide) dX8_init_41 rfl (fun _ => rfl) (fun _ => ?_)
  exact n_vret X (fun j => ([q7, q15, q23, q31] : List Nat).getD j 0) hr dX8_init_44 (Nat.le_of_ble_eq_true rfl) (Nat.le_of_ble_eq_true rfl) rfl

def pX11 (cA : Nat → ClassId) (h0 : Nat) (as : Nat → Nat) : va_W := [(h0, .inr (11, [.ref (as 0), .ref (as 1), .int 0])), (as 0, .inl (cA 1, 36, .inl (fun _ => 0))), (as 1, .inl (cA 0, 36, .inl (fun _ => 0)))]
set_option maxRecDepth 100000 in
set_option maxHeartbeats 8000000 in
theorem c_X11_init (l : Launch) (G : va_G) (cA : Nat → ClassId) (h0 : Nat) : IN l G cA yX11_init cX11_init 1 ({ frames := 1, cells := 2, slots := 72, locals := 60 }) [.ref h0] [(h0, .inr (11, [.null, .null, .int 0]))] (pX11 cA h0) := by
  refine n_of rfl (Nat.le_of_ble_eq_true rfl) ?_
  intro p e s m args below meth c X hr hnm
  refine n_aload_n X 0 (i0 := 0) dX11_init_0 rfl rfl ?_
  refine n_obj X nol_X11 dX11_init_1 (Nat.le_of_ble_eq_true rfl) (Nat.le_of_ble_eq_true rfl) ?_
  refine n_aload_n X 0 (i0 := 0) dX11_init_4 rfl rfl ?_
  refine n_bipush X (v := (36 : Int32)) dX11_init_5 (by decide) ?_
  refine n_newa X (N' := 36) (ty := .boolean) (a0 := (36, .inl (fun _ => 0))) 1 nac_boolean rfl rfl (fun C h => by cases h) (fun _ => rfl) (by decide) (by decide) (by decide) (Nat.le_of_ble_eq_true rfl) (Nat.le_of_ble_eq_true rfl) dX11_init_7 (fun q7 => ?_)
  refine n_putF X hnm (T := TX11) (v := .ref q7) (ws' := [(h0, .inr (11, [.ref q7, .null, .int 0])), (q7, .inl (cA 1, 36, .inl (fun _ => 0)))]) 0 uX11 tyX11 tyX11_ok nmX11 rfl rfl 0 (by decide) nfl_X11_9 rfl rfl rfl rfl rfl (Nat.le_of_ble_eq_true rfl) rfl dX11_init_9 ?_
  refine n_aload_n X 0 (i0 := 0) dX11_init_12 rfl rfl ?_
  refine n_bipush X (v := (36 : Int32)) dX11_init_13 (by decide) ?_
  refine n_newa X (N' := 36) (ty := .int) (a0 := (36, .inl (fun _ => 0))) 0 nac_int rfl rfl (fun C h => by cases h) (fun _ => rfl) (by decide) (by decide) (by decide) (Nat.le_of_ble_eq_true rfl) (Nat.le_of_ble_eq_true rfl) dX11_init_15 (fun q15 => ?_)
  refine n_putF X hnm (T := TX11) (v := .ref q15) (ws' := [(h0, .inr (11, [.ref q7, .ref q15, .int 0])), (q7, .inl (cA 1, 36, .inl (fun _ => 0))), (q15, .inl (cA 0, 36, .inl (fun _ => 0)))]) 0 uX11 tyX11 tyX11_ok nmX11 rfl rfl 1 (by decide) nfl_X11_15 rfl rfl rfl rfl rfl (Nat.le_of_ble_eq_true rfl) rfl dX11_init_17 ?_
  exact n_vret X (fun j => ([q7, q15] : List Nat).getD j 0) hr dX11_init_20 (Nat.le_of_ble_eq_true rfl) (Nat.le_of_ble_eq_true rfl) rfl

def pX1 (cA : Nat → ClassId) (h0 : Nat) (as : Nat → Nat) : va_W := [(h0, .inr (2, [.ref (as 0), .ref (as 1), .ref (as 2), .int 0, .int 0])), (as 0, .inl (cA 1, 6, .inl (fun _ => 0))), (as 1, .inl (cA 1, 36, .inl (fun _ => 0))), (as 2, .inl (cA 0, 6, .inl (fun _ => 0)))]
set_option maxRecDepth 100000 in
set_option maxHeartbeats 8000000 in
theorem c_X1_init (l : Launch) (G : va_G) (cA : Nat → ClassId) (h0 : Nat) : IN l G cA yX1_init cX1_init 1 ({ frames := 1, cells := 3, slots := 48, locals := 60 }) [.ref h0] [(h0, .inr (2, [.null, .null, .null, .int 0, .int 0]))] (pX1 cA h0) := by
  refine n_of rfl (Nat.le_of_ble_eq_true rfl) ?_
  intro p e s m args below meth c X hr hnm
  refine n_aload_n X 0 (i0 := 0) dX1_init_0 rfl rfl ?_
  refine n_obj X nol_X1 dX1_init_1 (Nat.le_of_ble_eq_true rfl) (Nat.le_of_ble_eq_true rfl) ?_
  refine n_aload_n X 0 (i0 := 0) dX1_init_4 rfl rfl ?_
  refine n_bipush X (v := (6 : Int32)) dX1_init_5 (by decide) ?_
  refine n_newa X (N' := 6) (ty := .boolean) (a0 := (6, .inl (fun _ => 0))) 1 nac_boolean rfl rfl (fun C h => by cases h) (fun _ => rfl) (by decide) (by decide) (by decide) (Nat.le_of_ble_eq_true rfl) (Nat.le_of_ble_eq_true rfl) dX1_init_7 (fun q7 => ?_)
  refine n_putF X hnm (T := TX1) (v := .ref q7) (ws' := [(h0, .inr (2, [.ref q7, .null, .null, .int 0, .int 0])), (q7, .inl (cA 1, 6, .inl (fun _ => 0)))]) 0 uX1 tyX1 tyX1_ok nmX1 rfl rfl 0 (by decide) nfl_X1_9 rfl rfl rfl rfl rfl (Nat.le_of_ble_eq_true rfl) rfl dX1_init_9 ?_
  refine n_aload_n X 0 (i0 := 0) dX1_init_12 rfl rfl ?_
  refine n_bipush X (v := (36 : Int32)) dX1_init_13 (by decide) ?_
  refine n_newa X (N' := 36) (ty := .boolean) (a0 := (36, .inl (fun _ => 0))) 1 nac_boolean rfl rfl (fun C h => by cases h) (fun _ => rfl) (by decide) (by decide) (by decide) (Nat.le_of_ble_eq_true rfl) (Nat.le_of_ble_eq_true rfl) dX1_init_15 (fun q15 => ?_)
  refine n_putF X hnm (T := TX1) (v := .ref q15) (ws' := [(h0, .inr (2, [.ref q7, .ref q15, .null, .int 0, .int 0])), (q7, .inl (cA 1, 6, .inl (fun _ => 0))), (q15, .inl (cA 1, 36, .inl (fun _ => 0)))]) 0 uX1 tyX1 tyX1_ok nmX1 rfl rfl 1 (by decide) nfl_X1_15 rfl rfl rfl rfl rfl (Nat.le_of_ble_eq_true rfl) rfl dX1_init_17 ?_
  refine n_aload_n X 0 (i0 := 0) dX1_init_20 rfl rfl ?_
  refine n_bipush X (v := (6 : Int32)) dX1_init_21 (by decide) ?_
  refine n_newa X (N' := 6) (ty := .int) (a0 := (6, .inl (fun _ => 0))) 0 nac_int rfl rfl (fun C h => by cases h) (fun _ => rfl) (by decide) (by decide) (by decide) (Nat.le_of_ble_eq_true rfl) (Nat.le_of_ble_eq_true rfl) dX1_init_23 (fun q23 => ?_)
  refine n_putF X hnm (T := TX1) (v := .ref q23) (ws' := [(h0, .inr (2, [.ref q7, .ref q15, .ref q23, .int 0, .int 0])), (q7, .inl (cA 1, 6, .inl (fun _ => 0))), (q15, .inl (cA 1, 36, .inl (fun _ => 0))), (q23, .inl (cA 0, 6, .inl (fun _ => 0)))]) 0 uX1 tyX1 tyX1_ok nmX1 rfl rfl 2 (by decide) nfl_X1_18 rfl rfl rfl rfl rfl (Nat.le_of_ble_eq_true rfl) rfl dX1_init_25 ?_
  exact n_vret X (fun j => ([q7, q15, q23] : List Nat).getD j 0) hr dX1_init_28 (Nat.le_of_ble_eq_true rfl) (Nat.le_of_ble_eq_true rfl) rfl

def pX10 (cA : Nat → ClassId) (h0 : Nat) (as : Nat → Nat) : va_W := [(h0, .inr (10, [.ref (as 0), .ref (as 1)])), (as 0, .inl (cA 0, 36, .inl (fun _ => 0))), (as 1, .inl (cA 1, 36, .inl (fun _ => 0)))]
set_option maxRecDepth 100000 in
set_option maxHeartbeats 8000000 in
theorem c_X10_init (l : Launch) (G : va_G) (cA : Nat → ClassId) (h0 : Nat) : IN l G cA yX10_init cX10_init 1 ({ frames := 1, cells := 2, slots := 72, locals := 60 }) [.ref h0] [(h0, .inr (10, [.null, .null]))] (pX10 cA h0) := by
  refine n_of rfl (Nat.le_of_ble_eq_true rfl) ?_
  intro p e s m args below meth c X hr hnm
  refine n_aload_n X 0 (i0 := 0) dX10_init_0 rfl rfl ?_
  refine n_obj X nol_X10 dX10_init_1 (Nat.le_of_ble_eq_true rfl) (Nat.le_of_ble_eq_true rfl) ?_
  refine n_aload_n X 0 (i0 := 0) dX10_init_4 rfl rfl ?_
  refine n_bipush X (v := (36 : Int32)) dX10_init_5 (by decide) ?_
  refine n_newa X (N' := 36) (ty := .int) (a0 := (36, .inl (fun _ => 0))) 0 nac_int rfl rfl (fun C h => by cases h) (fun _ => rfl) (by decide) (by decide) (by decide) (Nat.le_of_ble_eq_true rfl) (Nat.le_of_ble_eq_true rfl) dX10_init_7 (fun q7 => ?_)
  refine n_putF X hnm (T := TX10) (v := .ref q7) (ws' := [(h0, .inr (10, [.ref q7, .null])), (q7, .inl (cA 0, 36, .inl (fun _ => 0)))]) 0 uX10 tyX10 tyX10_ok nmX10 rfl rfl 0 (by decide) nfl_X10_9 rfl rfl rfl rfl rfl (Nat.le_of_ble_eq_true rfl) rfl dX10_init_9 ?_
  refine n_aload_n X 0 (i0 := 0) dX10_init_12 rfl rfl ?_
  refine n_bipush X (v := (36 : Int32)) dX10_init_13 (by decide) ?_
  refine n_newa X (N' := 36) (ty := .boolean) (a0 := (36, .inl (fun _ => 0))) 1 nac_boolean rfl rfl (fun C h => by cases h) (fun _ => rfl) (by decide) (by decide) (by decide) (Nat.le_of_ble_eq_true rfl) (Nat.le_of_ble_eq_true rfl) dX10_init_15 (fun q15 => ?_)
  refine n_putF X hnm (T := TX10) (v := .ref q15) (ws' := [(h0, .inr (10, [.ref q7, .ref q15])), (q7, .inl (cA 0, 36, .inl (fun _ => 0))), (q15, .inl (cA 1, 36, .inl (fun _ => 0)))]) 0 uX10 tyX10 tyX10_ok nmX10 rfl rfl 1 (by decide) nfl_X10_15 rfl rfl rfl rfl rfl (Nat.le_of_ble_eq_true rfl) rfl dX10_init_17 ?_
  exact n_vret X (fun j => ([q7, q15] : List Nat).getD j 0) hr dX10_init_20 (Nat.le_of_ble_eq_true rfl) (Nat.le_of_ble_eq_true rfl) rfl

def pX9 (cA : Nat → ClassId) (h0 : Nat) (as : Nat → Nat) : va_W := [(h0, .inr (9, [.ref (as 0), .ref (as 1), .ref (as 2), .ref (as 3)])), (as 0, .inl (cA 0, 36, .inl (fun _ => 0))), (as 1, .inl (cA 1, 36, .inl (fun _ => 0))), (as 2, .inl (cA 0, 64, .inl (fun _ => 0))), (as 3, .inl (cA 0, 64, .inl (fun _ => 0)))]
set_option maxRecDepth 100000 in
set_option maxHeartbeats 8000000 in
theorem c_X9_init (l : Launch) (G : va_G) (cA : Nat → ClassId) (h0 : Nat) : IN l G cA yX9_init cX9_init 1 ({ frames := 1, cells := 4, slots := 200, locals := 60 }) [.ref h0] [(h0, .inr (9, [.null, .null, .null, .null]))] (pX9 cA h0) := by
  refine n_of rfl (Nat.le_of_ble_eq_true rfl) ?_
  intro p e s m args below meth c X hr hnm
  refine n_aload_n X 0 (i0 := 0) dX9_init_0 rfl rfl ?_
  refine n_obj X nol_X9 dX9_init_1 (Nat.le_of_ble_eq_true rfl) (Nat.le_of_ble_eq_true rfl) ?_
  refine n_aload_n X 0 (i0 := 0) dX9_init_4 rfl rfl ?_
  refine n_bipush X (v := (36 : Int32)) dX9_init_5 (by decide) ?_
  refine n_newa X (N' := 36) (ty := .int) (a0 := (36, .inl (fun _ => 0))) 0 nac_int rfl rfl (fun C h => by cases h) (fun _ => rfl) (by decide) (by decide) (by decide) (Nat.le_of_ble_eq_true rfl) (Nat.le_of_ble_eq_true rfl) dX9_init_7 (fun q7 => ?_)
  refine n_putF X hnm (T := TX9) (v := .ref q7) (ws' := [(h0, .inr (9, [.ref q7, .null, .null, .null])), (q7, .inl (cA 0, 36, .inl (fun _ => 0)))]) 0 uX9 tyX9 tyX9_ok nmX9 rfl rfl 0 (by decide) nfl_X9_9 rfl rfl rfl rfl rfl (Nat.le_of_ble_eq_true rfl) rfl dX9_init_9 ?_
  refine n_aload_n X 0 (i0 := 0) dX9_init_12 rfl rfl ?_
  refine n_bipush X (v := (36 : Int32)) dX9_init_13 (by decide) ?_
  refine n_newa X (N' := 36) (ty := .boolean) (a0 := (36, .inl (fun _ => 0))) 1 nac_boolean rfl rfl (fun C h => by cases h) (fun _ => rfl) (by decide) (by decide) (by decide) (Nat.le_of_ble_eq_true rfl) (Nat.le_of_ble_eq_true rfl) dX9_init_15 (fun q15 => ?_)
  refine n_putF X hnm (T := TX9) (v := .ref q15) (ws' := [(h0, .inr (9, [.ref q7, .ref q15, .null, .null])), (q7, .inl (cA 0, 36, .inl (fun _ => 0))), (q15, .inl (cA 1, 36, .inl (fun _ => 0)))]) 0 uX9 tyX9 tyX9_ok nmX9 rfl rfl 1 (by decide) nfl_X9_15 rfl rfl rfl rfl rfl (Nat.le_of_ble_eq_true rfl) rfl dX9_init_17 ?_
  refine n_aload_n X 0 (i0 := 0) dX9_init_20 rfl rfl ?_
  refine n_bipush X (v := (64 : Int32)) dX9_init_21 (by decide) ?_
  refine n_newa X (N' := 64) (ty := .int) (a0 := (64, .inl (fun _ => 0))) 0 nac_int rfl rfl (fun C h => by cases h) (fun _ => rfl) (by decide) (by decide) (by decide) (Nat.le_of_ble_eq_true rfl) (Nat.le_of_ble_eq_true rfl) dX9_init_23 (fun q23 => ?_)
  refine n_putF X hnm (T := TX9) (v := .ref q23) (ws' := [(h0, .inr (9, [.ref q7, .ref q15, .ref q23, .null])), (q7, .inl (cA 0, 36, .inl (fun _ => 0))), (q15, .inl (cA 1, 36, .inl (fun _ => 0))), (q23, .inl (cA 0, 64, .inl (fun _ => 0)))]) 0 uX9 tyX9 tyX9_ok nmX9 rfl rfl 2 (by decide) nfl_X9_19 rfl rfl rfl rfl rfl (Nat.le_of_ble_eq_true rfl) rfl dX9_init_25 ?_
  refine n_aload_n X 0 (i0 := 0) dX9_init_28 rfl rfl ?_
  refine n_bipush X (v := (64 : Int32)) dX9_init_29 (by decide) ?_
  refine n_newa X (N' := 64) (ty := .int) (a0 := (64, .inl (fun _ => 0))) 0 nac_int rfl rfl (fun C h => by cases h) (fun _ => rfl) (by decide) (by decide) (by decide) (Nat.le_of_ble_eq_true rfl) (Nat.le_of_ble_eq_true rfl) dX9_init_31 (fun q31 => ?_)
  refine n_putF X hnm (T := TX9) (v := .ref q31) (ws' := [(h0, .inr (9, [.ref q7, .ref q15, .ref q23, .ref q31])), (q7, .inl (cA 0, 36, .inl (fun _ => 0))), (q15, .inl (cA 1, 36, .inl (fun _ => 0))), (q23, .inl (cA 0, 64, .inl (fun _ => 0))), (q31, .inl (cA 0, 64, .inl (fun _ => 0)))]) 0 uX9 tyX9 tyX9_ok nmX9 rfl rfl 3 (by decide) nfl_X9_22 rfl rfl rfl rfl rfl (Nat.le_of_ble_eq_true rfl) rfl dX9_init_33 ?_
  exact n_vret X (fun j => ([q7, q15, q23, q31] : List Nat).getD j 0) hr dX9_init_36 (Nat.le_of_ble_eq_true rfl) (Nat.le_of_ble_eq_true rfl) rfl

def pX2 (cA : Nat → ClassId) (h0 : Nat) (as : Nat → Nat) : va_W := [(h0, .inr (3, [.ref (as 0)])), (as 0, .inl (cA 0, 6, .inl (fun _ => 0)))]
set_option maxRecDepth 100000 in
set_option maxHeartbeats 8000000 in
theorem c_X2_init (l : Launch) (G : va_G) (cA : Nat → ClassId) (h0 : Nat) : IN l G cA yX2_init cX2_init 1 ({ frames := 1, cells := 1, slots := 6, locals := 60 }) [.ref h0] [(h0, .inr (3, [.null]))] (pX2 cA h0) := by
  refine n_of rfl (Nat.le_of_ble_eq_true rfl) ?_
  intro p e s m args below meth c X hr hnm
  refine n_aload_n X 0 (i0 := 0) dX2_init_0 rfl rfl ?_
  refine n_obj X nol_X2 dX2_init_1 (Nat.le_of_ble_eq_true rfl) (Nat.le_of_ble_eq_true rfl) ?_
  refine n_aload_n X 0 (i0 := 0) dX2_init_4 rfl rfl ?_
  refine n_bipush X (v := (6 : Int32)) dX2_init_5 (by decide) ?_
  refine n_newa X (N' := 6) (ty := .int) (a0 := (6, .inl (fun _ => 0))) 0 nac_int rfl rfl (fun C h => by cases h) (fun _ => rfl) (by decide) (by decide) (by decide) (Nat.le_of_ble_eq_true rfl) (Nat.le_of_ble_eq_true rfl) dX2_init_7 (fun q7 => ?_)
  refine n_putF X hnm (T := TX2) (v := .ref q7) (ws' := [(h0, .inr (3, [.ref q7])), (q7, .inl (cA 0, 6, .inl (fun _ => 0)))]) 0 uX2 tyX2 tyX2_ok nmX2 rfl rfl 0 (by decide) nfl_X2_9 rfl rfl rfl rfl rfl (Nat.le_of_ble_eq_true rfl) rfl dX2_init_9 ?_
  exact n_vret X (fun j => ([q7] : List Nat).getD j 0) hr dX2_init_12 (Nat.le_of_ble_eq_true rfl) (Nat.le_of_ble_eq_true rfl) rfl

def pX5 (cA : Nat → ClassId) (h0 : Nat) (as : Nat → Nat) : va_W := [(h0, .inr (5, [.ref (as 0), .ref (as 1)])), (as 0, .inl (cA 0, 31, .inl (fun _ => 0))), (as 1, .inl (cA 0, 31, .inl (fun _ => 0)))]
set_option maxRecDepth 100000 in
set_option maxHeartbeats 8000000 in
theorem c_X5_init (l : Launch) (G : va_G) (cA : Nat → ClassId) (h0 : Nat) : IN l G cA yX5_init cX5_init 1 ({ frames := 1, cells := 2, slots := 62, locals := 60 }) [.ref h0] [(h0, .inr (5, [.null, .null]))] (pX5 cA h0) := by
  refine n_of rfl (Nat.le_of_ble_eq_true rfl) ?_
  intro p e s m args below meth c X hr hnm
  refine n_aload_n X 0 (i0 := 0) dX5_init_0 rfl rfl ?_
  refine n_obj X nol_X5 dX5_init_1 (Nat.le_of_ble_eq_true rfl) (Nat.le_of_ble_eq_true rfl) ?_
  refine n_aload_n X 0 (i0 := 0) dX5_init_4 rfl rfl ?_
  refine n_bipush X (v := (31 : Int32)) dX5_init_5 (by decide) ?_
  refine n_newa X (N' := 31) (ty := .int) (a0 := (31, .inl (fun _ => 0))) 0 nac_int rfl rfl (fun C h => by cases h) (fun _ => rfl) (by decide) (by decide) (by decide) (Nat.le_of_ble_eq_true rfl) (Nat.le_of_ble_eq_true rfl) dX5_init_7 (fun q7 => ?_)
  refine n_putF X hnm (T := TX5) (v := .ref q7) (ws' := [(h0, .inr (5, [.ref q7, .null])), (q7, .inl (cA 0, 31, .inl (fun _ => 0)))]) 0 uX5 tyX5 tyX5_ok nmX5 rfl rfl 0 (by decide) nfl_X5_9 rfl rfl rfl rfl rfl (Nat.le_of_ble_eq_true rfl) rfl dX5_init_9 ?_
  refine n_aload_n X 0 (i0 := 0) dX5_init_12 rfl rfl ?_
  refine n_bipush X (v := (31 : Int32)) dX5_init_13 (by decide) ?_
  refine n_newa X (N' := 31) (ty := .int) (a0 := (31, .inl (fun _ => 0))) 0 nac_int rfl rfl (fun C h => by cases h) (fun _ => rfl) (by decide) (by decide) (by decide) (Nat.le_of_ble_eq_true rfl) (Nat.le_of_ble_eq_true rfl) dX5_init_15 (fun q15 => ?_)
  refine n_putF X hnm (T := TX5) (v := .ref q15) (ws' := [(h0, .inr (5, [.ref q7, .ref q15])), (q7, .inl (cA 0, 31, .inl (fun _ => 0))), (q15, .inl (cA 0, 31, .inl (fun _ => 0)))]) 0 uX5 tyX5 tyX5_ok nmX5 rfl rfl 1 (by decide) nfl_X5_15 rfl rfl rfl rfl rfl (Nat.le_of_ble_eq_true rfl) rfl dX5_init_17 ?_
  exact n_vret X (fun j => ([q7, q15] : List Nat).getD j 0) hr dX5_init_20 (Nat.le_of_ble_eq_true rfl) (Nat.le_of_ble_eq_true rfl) rfl

def pX7 (cA : Nat → ClassId) (h0 : Nat) (as : Nat → Nat) : va_W := [(h0, .inr (7, [.ref (as 0), .int 0])), (as 0, .inl (cA 2, 7, .inl (fun _ => 0)))]
set_option maxRecDepth 100000 in
set_option maxHeartbeats 8000000 in
theorem c_X7_init (l : Launch) (G : va_G) (cA : Nat → ClassId) (h0 : Nat) : IN l G cA yX7_init cX7_init 1 ({ frames := 1, cells := 1, slots := 7, locals := 60 }) [.ref h0] [(h0, .inr (7, [.null, .int 0]))] (pX7 cA h0) := by
  refine n_of rfl (Nat.le_of_ble_eq_true rfl) ?_
  intro p e s m args below meth c X hr hnm
  refine n_aload_n X 0 (i0 := 0) dX7_init_0 rfl rfl ?_
  refine n_obj X nol_X7 dX7_init_1 (Nat.le_of_ble_eq_true rfl) (Nat.le_of_ble_eq_true rfl) ?_
  refine n_aload_n X 0 (i0 := 0) dX7_init_4 rfl rfl ?_
  refine n_bipush X (v := (7 : Int32)) dX7_init_5 (by decide) ?_
  refine n_newa X (N' := 7) (ty := .char) (a0 := (7, .inl (fun _ => 0))) 2 nac_char rfl rfl (fun C h => by cases h) (fun _ => rfl) (by decide) (by decide) (by decide) (Nat.le_of_ble_eq_true rfl) (Nat.le_of_ble_eq_true rfl) dX7_init_7 (fun q7 => ?_)
  refine n_putF X hnm (T := TX7) (v := .ref q7) (ws' := [(h0, .inr (7, [.ref q7, .int 0])), (q7, .inl (cA 2, 7, .inl (fun _ => 0)))]) 0 uX7 tyX7 tyX7_ok nmX7 rfl rfl 0 (by decide) nfl_X7_11 rfl rfl rfl rfl rfl (Nat.le_of_ble_eq_true rfl) rfl dX7_init_9 ?_
  exact n_vret X (fun j => ([q7] : List Nat).getD j 0) hr dX7_init_12 (Nat.le_of_ble_eq_true rfl) (Nat.le_of_ble_eq_true rfl) rfl

def pX4 (cA : Nat → ClassId) (h0 : Nat) (as : Nat → Nat) : va_W := [(h0, .inr (4, [.ref (as 0), .ref (as 1), .ref (as 2), .int 0, .int 0, .int 0])), (as 0, .inl (cA 2, 60, .inl (fun _ => 0))), (as 1, .inl (cA 4, 10, .inr (.inr (.inr (.inr (fun _ => none)))))), (as 2, .inl (cA 0, 30, .inl (fun _ => 0)))]
set_option maxRecDepth 100000 in
set_option maxHeartbeats 8000000 in
theorem c_X4_init (l : Launch) (G : va_G) (cA : Nat → ClassId) (h0 : Nat) : IN l G cA yX4_init cX4_init 1 ({ frames := 1, cells := 3, slots := 100, locals := 60 }) [.ref h0] [(h0, .inr (4, [.null, .null, .null, .int 0, .int 0, .int 0]))] (pX4 cA h0) := by
  refine n_of rfl (Nat.le_of_ble_eq_true rfl) ?_
  intro p e s m args below meth c X hr hnm
  refine n_aload_n X 0 (i0 := 0) dX4_init_0 rfl rfl ?_
  refine n_obj X nol_X4 dX4_init_1 (Nat.le_of_ble_eq_true rfl) (Nat.le_of_ble_eq_true rfl) ?_
  refine n_aload_n X 0 (i0 := 0) dX4_init_4 rfl rfl ?_
  refine n_bipush X (v := (60 : Int32)) dX4_init_5 (by decide) ?_
  refine n_newa X (N' := 60) (ty := .char) (a0 := (60, .inl (fun _ => 0))) 2 nac_char rfl rfl (fun C h => by cases h) (fun _ => rfl) (by decide) (by decide) (by decide) (Nat.le_of_ble_eq_true rfl) (Nat.le_of_ble_eq_true rfl) dX4_init_7 (fun q7 => ?_)
  refine n_putF X hnm (T := TX4) (v := .ref q7) (ws' := [(h0, .inr (4, [.ref q7, .null, .null, .int 0, .int 0, .int 0])), (q7, .inl (cA 2, 60, .inl (fun _ => 0)))]) 0 uX4 tyX4 tyX4_ok nmX4 rfl rfl 0 (by decide) nfl_X4_11 rfl rfl rfl rfl rfl (Nat.le_of_ble_eq_true rfl) rfl dX4_init_9 ?_
  refine n_aload_n X 0 (i0 := 0) dX4_init_12 rfl rfl ?_
  refine n_bipush X (v := (10 : Int32)) dX4_init_13 (by decide) ?_
  refine n_newq X (N' := 10) 4 ncl_X4_15 X.2.2.1.2.2 rfl (by decide) (by decide) (by decide) (Nat.le_of_ble_eq_true rfl) (Nat.le_of_ble_eq_true rfl) dX4_init_15 (fun q15 => ?_)
  refine n_putF X hnm (T := TX4) (v := .ref q15) (ws' := [(h0, .inr (4, [.ref q7, .ref q15, .null, .int 0, .int 0, .int 0])), (q7, .inl (cA 2, 60, .inl (fun _ => 0))), (q15, .inl (cA 4, 10, .inr (.inr (.inr (.inr (fun _ => none))))))]) 0 uX4 tyX4 tyX4_ok nmX4 rfl rfl 1 (by decide) nfl_X4_17 rfl rfl rfl rfl rfl (Nat.le_of_ble_eq_true rfl) rfl dX4_init_18 ?_
  refine n_aload_n X 0 (i0 := 0) dX4_init_21 rfl rfl ?_
  refine n_bipush X (v := (30 : Int32)) dX4_init_22 (by decide) ?_
  refine n_newa X (N' := 30) (ty := .int) (a0 := (30, .inl (fun _ => 0))) 0 nac_int rfl rfl (fun C h => by cases h) (fun _ => rfl) (by decide) (by decide) (by decide) (Nat.le_of_ble_eq_true rfl) (Nat.le_of_ble_eq_true rfl) dX4_init_24 (fun q24 => ?_)
  refine n_putF X hnm (T := TX4) (v := .ref q24) (ws' := [(h0, .inr (4, [.ref q7, .ref q15, .ref q24, .int 0, .int 0, .int 0])), (q7, .inl (cA 2, 60, .inl (fun _ => 0))), (q15, .inl (cA 4, 10, .inr (.inr (.inr (.inr (fun _ => none)))))), (q24, .inl (cA 0, 30, .inl (fun _ => 0)))]) 0 uX4 tyX4 tyX4_ok nmX4 rfl rfl 2 (by decide) nfl_X4_21 rfl rfl rfl rfl rfl (Nat.le_of_ble_eq_true rfl) rfl dX4_init_26 ?_
  exact n_vret X (fun j => ([q7, q15, q24] : List Nat).getD j 0) hr dX4_init_29 (Nat.le_of_ble_eq_true rfl) (Nat.le_of_ble_eq_true rfl) rfl

def ringC (g : Nat → Nat) : Nat → Option Nat := (va_up (va_up (va_up (va_up (va_up (va_up (va_up (va_up (fun _ => none) (0 : Int32).toNatClampNeg (some (g 0))) (1 : Int32).toNatClampNeg (some (g 1))) (2 : Int32).toNatClampNeg (some (g 2))) (3 : Int32).toNatClampNeg (some (g 3))) (4 : Int32).toNatClampNeg (some (g 4))) (5 : Int32).toNatClampNeg (some (g 5))) (6 : Int32).toNatClampNeg (some (g 6))) (7 : Int32).toNatClampNeg (some (g 7)))
def nc (q : Nat) (f : Nat → Nat) : Nat → Nat := fun j => match j with
  | 0 => q
  | j + 1 => f j
def na (n : Nat) (f g : Nat → Nat) : Nat → Nat := fun j => cond (Nat.blt j n) (f j) (g (j - n))

def pX6 (cA : Nat → ClassId) (h0 : Nat) (as : Nat → Nat) : va_W := [(h0, .inr (6, [.ref (as 0), .int 0, .int 0])), (as 0, .inl (cA 3, 8, .inr (.inr (.inr (.inr (ringC (fun k => as (1 + 5 * k)))))))), (as 1, .inr (8, [.ref (as 2), .ref (as 3), .ref (as 4), .ref (as 5), .int 0, .int 0, .int 0, .int 0, .long 0])), (as 2, .inl (cA 0, 36, .inl f5)), (as 3, .inl (cA 0, 6, .inl (fun _ => 0))), (as 4, .inl (cA 0, 6, .inl (fun _ => 0))), (as 5, .inl (cA 0, 11, .inl (fun _ => 0))), (as 6, .inr (8, [.ref (as 7), .ref (as 8), .ref (as 9), .ref (as 10), .int 0, .int 0, .int 0, .int 0, .long 0])), (as 7, .inl (cA 0, 36, .inl f5)), (as 8, .inl (cA 0, 6, .inl (fun _ => 0))), (as 9, .inl (cA 0, 6, .inl (fun _ => 0))), (as 10, .inl (cA 0, 11, .inl (fun _ => 0))), (as 11, .inr (8, [.ref (as 12), .ref (as 13), .ref (as 14), .ref (as 15), .int 0, .int 0, .int 0, .int 0, .long 0])), (as 12, .inl (cA 0, 36, .inl f5)), (as 13, .inl (cA 0, 6, .inl (fun _ => 0))), (as 14, .inl (cA 0, 6, .inl (fun _ => 0))), (as 15, .inl (cA 0, 11, .inl (fun _ => 0))), (as 16, .inr (8, [.ref (as 17), .ref (as 18), .ref (as 19), .ref (as 20), .int 0, .int 0, .int 0, .int 0, .long 0])), (as 17, .inl (cA 0, 36, .inl f5)), (as 18, .inl (cA 0, 6, .inl (fun _ => 0))), (as 19, .inl (cA 0, 6, .inl (fun _ => 0))), (as 20, .inl (cA 0, 11, .inl (fun _ => 0))), (as 21, .inr (8, [.ref (as 22), .ref (as 23), .ref (as 24), .ref (as 25), .int 0, .int 0, .int 0, .int 0, .long 0])), (as 22, .inl (cA 0, 36, .inl f5)), (as 23, .inl (cA 0, 6, .inl (fun _ => 0))), (as 24, .inl (cA 0, 6, .inl (fun _ => 0))), (as 25, .inl (cA 0, 11, .inl (fun _ => 0))), (as 26, .inr (8, [.ref (as 27), .ref (as 28), .ref (as 29), .ref (as 30), .int 0, .int 0, .int 0, .int 0, .long 0])), (as 27, .inl (cA 0, 36, .inl f5)), (as 28, .inl (cA 0, 6, .inl (fun _ => 0))), (as 29, .inl (cA 0, 6, .inl (fun _ => 0))), (as 30, .inl (cA 0, 11, .inl (fun _ => 0))), (as 31, .inr (8, [.ref (as 32), .ref (as 33), .ref (as 34), .ref (as 35), .int 0, .int 0, .int 0, .int 0, .long 0])), (as 32, .inl (cA 0, 36, .inl f5)), (as 33, .inl (cA 0, 6, .inl (fun _ => 0))), (as 34, .inl (cA 0, 6, .inl (fun _ => 0))), (as 35, .inl (cA 0, 11, .inl (fun _ => 0))), (as 36, .inr (8, [.ref (as 37), .ref (as 38), .ref (as 39), .ref (as 40), .int 0, .int 0, .int 0, .int 0, .long 0])), (as 37, .inl (cA 0, 36, .inl f5)), (as 38, .inl (cA 0, 6, .inl (fun _ => 0))), (as 39, .inl (cA 0, 6, .inl (fun _ => 0))), (as 40, .inl (cA 0, 11, .inl (fun _ => 0)))]
set_option maxRecDepth 100000 in
set_option maxHeartbeats 8000000 in
theorem c_X6_init (l : Launch) (G : va_G) (cA : Nat → ClassId) (h0 : Nat) : IN l G cA yX6_init cX6_init 2 ({ frames := 2, cells := 41, slots := 552, locals := 100 }) [.ref h0] [(h0, .inr (6, [.null, .int 0, .int 0]))] (pX6 cA h0) := by
  refine n_of rfl (Nat.le_of_ble_eq_true rfl) ?_
  intro p e s m args below meth c X hr hnm
  refine n_aload_n X 0 (i0 := 0) dX6_init_0 rfl rfl ?_
  refine n_obj X nol_X6 dX6_init_1 (Nat.le_of_ble_eq_true rfl) (Nat.le_of_ble_eq_true rfl) ?_
  refine n_aload_n X 0 (i0 := 0) dX6_init_4 rfl rfl ?_
  refine n_bipush X (v := (8 : Int32)) dX6_init_5 (by decide) ?_
  refine n_newq X (N' := 8) 3 ncl_X6_9 X.2.2.1.2.1 rfl (by decide) (by decide) (by decide) (Nat.le_of_ble_eq_true rfl) (Nat.le_of_ble_eq_true rfl) dX6_init_7 (fun q7 => ?_)
  refine n_putF X hnm (T := TX6) (v := .ref q7) (ws' := [(h0, .inr (6, [.ref q7, .int 0, .int 0])), (q7, .inl (cA 3, 8, .inr (.inr (.inr (.inr (fun _ => none))))))]) 0 uX6 tyX6 tyX6_ok nmX6 rfl rfl 0 (by decide) nfl_X6_11 rfl rfl rfl rfl rfl (Nat.le_of_ble_eq_true rfl) rfl dX6_init_10 ?_
  refine n_iconst X (v := (0 : Int32)) dX6_init_13 (by decide) ?_
  refine n_istore_n X (i0 := 1) dX6_init_14 rfl (by decide) rfl ?_
  refine n_iload_n X 0 (i0 := 1) dX6_init_15 rfl rfl ?_
  refine n_bipush X (v := (8 : Int32)) dX6_init_16 (by decide) ?_
  refine n_icmp_ge X (tgt := 40) dX6_init_18 (by decide) (fun z => absurd z (by decide)) (fun _ => ?_)
  refine n_aload_n X 1 (i0 := 0) dX6_init_21 rfl rfl ?_
  refine n_get X (v := .ref q7) (T := TX6) 0 uX6 rfl rfl 0 (by decide) nfl_X6_11 rfl rfl dX6_init_22 ?_
  refine n_iload_n X 0 (i0 := 1) dX6_init_25 rfl rfl ?_
  refine n_new X (ci := 8) (C := RX8) (T := TX8) (fs := [.null, .null, .null, .null, .int 0, .int 0, .int 0, .int 0, .long 0]) uX8 tyX8 tyX8_ok ncl_X6_9 nin_8 nii_8 rfl (fun j hj => match j, hj with | 0, _ => rfl | 1, _ => rfl | 2, _ => rfl | 3, _ => rfl | 4, _ => rfl | 5, _ => rfl | 6, _ => rfl | 7, _ => rfl | 8, _ => rfl | j + 9, h => absurd h (by omega)) (Nat.le_of_ble_eq_true rfl) (Nat.le_of_ble_eq_true rfl) dX6_init_26 (fun q26_0 => ?_)
  refine n_dup X dX6_init_29 rfl ?_
  refine n_I X (w0 := [(h0, .inr (6, [.ref q7, .int 0, .int 0])), (q7, .inl (cA 3, 8, .inr (.inr (.inr (.inr (fun _ => none))))))]) (c_X8_init l G cA q26_0) nco_8 nii_8 nml_X6_17 nim_8 rfl nhd_8 ⟨(Nat.le_of_ble_eq_true rfl), (Nat.le_of_ble_eq_true rfl)⟩ rfl (Nat.le_of_ble_eq_true rfl) ⟨(Nat.le_of_ble_eq_true rfl), (Nat.le_of_ble_eq_true rfl)⟩ dX6_init_30 (fun a26_0 => ?_)
  refine n_astq X (r := (RX8, TX8, 9)) (ws' := ([(h0, .inr (6, [.ref q7, .int 0, .int 0])), (q7, .inl (cA 3, 8, .inr (.inr (.inr (.inr (va_up (fun _ => none) (0 : Int32).toNatClampNeg (some q26_0)))))))] ++ pX8 cA q26_0 a26_0)) 1 2 3 rfl rfl rfl rfl (inB_vp (by decide)) rfl dX6_init_33 ?_
  refine n_iinc X 0 (v := (1 : Int32)) dX6_init_34 rfl (by decide) (by decide) rfl ?_
  refine n_goto X (tgt := 15) dX6_init_37 (by decide) ?_
  refine n_iload_n X 0 (i0 := 1) dX6_init_15 rfl rfl ?_
  refine n_bipush X (v := (8 : Int32)) dX6_init_16 (by decide) ?_
  refine n_icmp_ge X (tgt := 40) dX6_init_18 (by decide) (fun z => absurd z (by decide)) (fun _ => ?_)
  refine n_aload_n X 1 (i0 := 0) dX6_init_21 rfl rfl ?_
  refine n_get X (v := .ref q7) (T := TX6) 0 uX6 rfl rfl 0 (by decide) nfl_X6_11 rfl rfl dX6_init_22 ?_
  refine n_iload_n X 0 (i0 := 1) dX6_init_25 rfl rfl ?_
  refine n_new X (ci := 8) (C := RX8) (T := TX8) (fs := [.null, .null, .null, .null, .int 0, .int 0, .int 0, .int 0, .long 0]) uX8 tyX8 tyX8_ok ncl_X6_9 nin_8 nii_8 rfl (fun j hj => match j, hj with | 0, _ => rfl | 1, _ => rfl | 2, _ => rfl | 3, _ => rfl | 4, _ => rfl | 5, _ => rfl | 6, _ => rfl | 7, _ => rfl | 8, _ => rfl | j + 9, h => absurd h (by omega)) (Nat.le_of_ble_eq_true rfl) (Nat.le_of_ble_eq_true rfl) dX6_init_26 (fun q26_1 => ?_)
  refine n_dup X dX6_init_29 rfl ?_
  refine n_I X (w0 := ([(h0, .inr (6, [.ref q7, .int 0, .int 0])), (q7, .inl (cA 3, 8, .inr (.inr (.inr (.inr (va_up (fun _ => none) (0 : Int32).toNatClampNeg (some q26_0)))))))] ++ pX8 cA q26_0 a26_0)) (c_X8_init l G cA q26_1) nco_8 nii_8 nml_X6_17 nim_8 rfl nhd_8 ⟨(Nat.le_of_ble_eq_true rfl), (Nat.le_of_ble_eq_true rfl)⟩ rfl (Nat.le_of_ble_eq_true rfl) ⟨(Nat.le_of_ble_eq_true rfl), (Nat.le_of_ble_eq_true rfl)⟩ dX6_init_30 (fun a26_1 => ?_)
  refine n_astq X (r := (RX8, TX8, 9)) (ws' := (([(h0, .inr (6, [.ref q7, .int 0, .int 0])), (q7, .inl (cA 3, 8, .inr (.inr (.inr (.inr (va_up (va_up (fun _ => none) (0 : Int32).toNatClampNeg (some q26_0)) (1 : Int32).toNatClampNeg (some q26_1)))))))] ++ pX8 cA q26_0 a26_0) ++ pX8 cA q26_1 a26_1)) 1 7 3 rfl rfl rfl rfl (inB_vp (by decide)) rfl dX6_init_33 ?_
  refine n_iinc X 0 (v := (2 : Int32)) dX6_init_34 rfl (by decide) (by decide) rfl ?_
  refine n_goto X (tgt := 15) dX6_init_37 (by decide) ?_
  refine n_iload_n X 0 (i0 := 1) dX6_init_15 rfl rfl ?_
  refine n_bipush X (v := (8 : Int32)) dX6_init_16 (by decide) ?_
  refine n_icmp_ge X (tgt := 40) dX6_init_18 (by decide) (fun z => absurd z (by decide)) (fun _ => ?_)
  refine n_aload_n X 1 (i0 := 0) dX6_init_21 rfl rfl ?_
  refine n_get X (v := .ref q7) (T := TX6) 0 uX6 rfl rfl 0 (by decide) nfl_X6_11 rfl rfl dX6_init_22 ?_
  refine n_iload_n X 0 (i0 := 1) dX6_init_25 rfl rfl ?_
  refine n_new X (ci := 8) (C := RX8) (T := TX8) (fs := [.null, .null, .null, .null, .int 0, .int 0, .int 0, .int 0, .long 0]) uX8 tyX8 tyX8_ok ncl_X6_9 nin_8 nii_8 rfl (fun j hj => match j, hj with | 0, _ => rfl | 1, _ => rfl | 2, _ => rfl | 3, _ => rfl | 4, _ => rfl | 5, _ => rfl | 6, _ => rfl | 7, _ => rfl | 8, _ => rfl | j + 9, h => absurd h (by omega)) (Nat.le_of_ble_eq_true rfl) (Nat.le_of_ble_eq_true rfl) dX6_init_26 (fun q26_2 => ?_)
  refine n_dup X dX6_init_29 rfl ?_
  refine n_I X (w0 := (([(h0, .inr (6, [.ref q7, .int 0, .int 0])), (q7, .inl (cA 3, 8, .inr (.inr (.inr (.inr (va_up (va_up (fun _ => none) (0 : Int32).toNatClampNeg (some q26_0)) (1 : Int32).toNatClampNeg (some q26_1)))))))] ++ pX8 cA q26_0 a26_0) ++ pX8 cA q26_1 a26_1)) (c_X8_init l G cA q26_2) nco_8 nii_8 nml_X6_17 nim_8 rfl nhd_8 ⟨(Nat.le_of_ble_eq_true rfl), (Nat.le_of_ble_eq_true rfl)⟩ rfl (Nat.le_of_ble_eq_true rfl) ⟨(Nat.le_of_ble_eq_true rfl), (Nat.le_of_ble_eq_true rfl)⟩ dX6_init_30 (fun a26_2 => ?_)
  refine n_astq X (r := (RX8, TX8, 9)) (ws' := ((([(h0, .inr (6, [.ref q7, .int 0, .int 0])), (q7, .inl (cA 3, 8, .inr (.inr (.inr (.inr (va_up (va_up (va_up (fun _ => none) (0 : Int32).toNatClampNeg (some q26_0)) (1 : Int32).toNatClampNeg (some q26_1)) (2 : Int32).toNatClampNeg (some q26_2)))))))] ++ pX8 cA q26_0 a26_0) ++ pX8 cA q26_1 a26_1) ++ pX8 cA q26_2 a26_2)) 1 12 3 rfl rfl rfl rfl (inB_vp (by decide)) rfl dX6_init_33 ?_
  refine n_iinc X 0 (v := (3 : Int32)) dX6_init_34 rfl (by decide) (by decide) rfl ?_
  refine n_goto X (tgt := 15) dX6_init_37 (by decide) ?_
  refine n_iload_n X 0 (i0 := 1) dX6_init_15 rfl rfl ?_
  refine n_bipush X (v := (8 : Int32)) dX6_init_16 (by decide) ?_
  refine n_icmp_ge X (tgt := 40) dX6_init_18 (by decide) (fun z => absurd z (by decide)) (fun _ => ?_)
  refine n_aload_n X 1 (i0 := 0) dX6_init_21 rfl rfl ?_
  refine n_get X (v := .ref q7) (T := TX6) 0 uX6 rfl rfl 0 (by decide) nfl_X6_11 rfl rfl dX6_init_22 ?_
  refine n_iload_n X 0 (i0 := 1) dX6_init_25 rfl rfl ?_
  refine n_new X (ci := 8) (C := RX8) (T := TX8) (fs := [.null, .null, .null, .null, .int 0, .int 0, .int 0, .int 0, .long 0]) uX8 tyX8 tyX8_ok ncl_X6_9 nin_8 nii_8 rfl (fun j hj => match j, hj with | 0, _ => rfl | 1, _ => rfl | 2, _ => rfl | 3, _ => rfl | 4, _ => rfl | 5, _ => rfl | 6, _ => rfl | 7, _ => rfl | 8, _ => rfl | j + 9, h => absurd h (by omega)) (Nat.le_of_ble_eq_true rfl) (Nat.le_of_ble_eq_true rfl) dX6_init_26 (fun q26_3 => ?_)
  refine n_dup X dX6_init_29 rfl ?_
  refine n_I X (w0 := ((([(h0, .inr (6, [.ref q7, .int 0, .int 0])), (q7, .inl (cA 3, 8, .inr (.inr (.inr (.inr (va_up (va_up (va_up (fun _ => none) (0 : Int32).toNatClampNeg (some q26_0)) (1 : Int32).toNatClampNeg (some q26_1)) (2 : Int32).toNatClampNeg (some q26_2)))))))] ++ pX8 cA q26_0 a26_0) ++ pX8 cA q26_1 a26_1) ++ pX8 cA q26_2 a26_2)) (c_X8_init l G cA q26_3) nco_8 nii_8 nml_X6_17 nim_8 rfl nhd_8 ⟨(Nat.le_of_ble_eq_true rfl), (Nat.le_of_ble_eq_true rfl)⟩ rfl (Nat.le_of_ble_eq_true rfl) ⟨(Nat.le_of_ble_eq_true rfl), (Nat.le_of_ble_eq_true rfl)⟩ dX6_init_30 (fun a26_3 => ?_)
  refine n_astq X (r := (RX8, TX8, 9)) (ws' := (((([(h0, .inr (6, [.ref q7, .int 0, .int 0])), (q7, .inl (cA 3, 8, .inr (.inr (.inr (.inr (va_up (va_up (va_up (va_up (fun _ => none) (0 : Int32).toNatClampNeg (some q26_0)) (1 : Int32).toNatClampNeg (some q26_1)) (2 : Int32).toNatClampNeg (some q26_2)) (3 : Int32).toNatClampNeg (some q26_3)))))))] ++ pX8 cA q26_0 a26_0) ++ pX8 cA q26_1 a26_1) ++ pX8 cA q26_2 a26_2) ++ pX8 cA q26_3 a26_3)) 1 17 3 rfl rfl rfl rfl (inB_vp (by decide)) rfl dX6_init_33 ?_
  refine n_iinc X 0 (v := (4 : Int32)) dX6_init_34 rfl (by decide) (by decide) rfl ?_
  refine n_goto X (tgt := 15) dX6_init_37 (by decide) ?_
  refine n_iload_n X 0 (i0 := 1) dX6_init_15 rfl rfl ?_
  refine n_bipush X (v := (8 : Int32)) dX6_init_16 (by decide) ?_
  refine n_icmp_ge X (tgt := 40) dX6_init_18 (by decide) (fun z => absurd z (by decide)) (fun _ => ?_)
  refine n_aload_n X 1 (i0 := 0) dX6_init_21 rfl rfl ?_
  refine n_get X (v := .ref q7) (T := TX6) 0 uX6 rfl rfl 0 (by decide) nfl_X6_11 rfl rfl dX6_init_22 ?_
  refine n_iload_n X 0 (i0 := 1) dX6_init_25 rfl rfl ?_
  refine n_new X (ci := 8) (C := RX8) (T := TX8) (fs := [.null, .null, .null, .null, .int 0, .int 0, .int 0, .int 0, .long 0]) uX8 tyX8 tyX8_ok ncl_X6_9 nin_8 nii_8 rfl (fun j hj => match j, hj with | 0, _ => rfl | 1, _ => rfl | 2, _ => rfl | 3, _ => rfl | 4, _ => rfl | 5, _ => rfl | 6, _ => rfl | 7, _ => rfl | 8, _ => rfl | j + 9, h => absurd h (by omega)) (Nat.le_of_ble_eq_true rfl) (Nat.le_of_ble_eq_true rfl) dX6_init_26 (fun q26_4 => ?_)
  refine n_dup X dX6_init_29 rfl ?_
  refine n_I X (w0 := (((([(h0, .inr (6, [.ref q7, .int 0, .int 0])), (q7, .inl (cA 3, 8, .inr (.inr (.inr (.inr (va_up (va_up (va_up (va_up (fun _ => none) (0 : Int32).toNatClampNeg (some q26_0)) (1 : Int32).toNatClampNeg (some q26_1)) (2 : Int32).toNatClampNeg (some q26_2)) (3 : Int32).toNatClampNeg (some q26_3)))))))] ++ pX8 cA q26_0 a26_0) ++ pX8 cA q26_1 a26_1) ++ pX8 cA q26_2 a26_2) ++ pX8 cA q26_3 a26_3)) (c_X8_init l G cA q26_4) nco_8 nii_8 nml_X6_17 nim_8 rfl nhd_8 ⟨(Nat.le_of_ble_eq_true rfl), (Nat.le_of_ble_eq_true rfl)⟩ rfl (Nat.le_of_ble_eq_true rfl) ⟨(Nat.le_of_ble_eq_true rfl), (Nat.le_of_ble_eq_true rfl)⟩ dX6_init_30 (fun a26_4 => ?_)
  refine n_astq X (r := (RX8, TX8, 9)) (ws' := ((((([(h0, .inr (6, [.ref q7, .int 0, .int 0])), (q7, .inl (cA 3, 8, .inr (.inr (.inr (.inr (va_up (va_up (va_up (va_up (va_up (fun _ => none) (0 : Int32).toNatClampNeg (some q26_0)) (1 : Int32).toNatClampNeg (some q26_1)) (2 : Int32).toNatClampNeg (some q26_2)) (3 : Int32).toNatClampNeg (some q26_3)) (4 : Int32).toNatClampNeg (some q26_4)))))))] ++ pX8 cA q26_0 a26_0) ++ pX8 cA q26_1 a26_1) ++ pX8 cA q26_2 a26_2) ++ pX8 cA q26_3 a26_3) ++ pX8 cA q26_4 a26_4)) 1 22 3 rfl rfl rfl rfl (inB_vp (by decide)) rfl dX6_init_33 ?_
  refine n_iinc X 0 (v := (5 : Int32)) dX6_init_34 rfl (by decide) (by decide) rfl ?_
  refine n_goto X (tgt := 15) dX6_init_37 (by decide) ?_
  refine n_iload_n X 0 (i0 := 1) dX6_init_15 rfl rfl ?_
  refine n_bipush X (v := (8 : Int32)) dX6_init_16 (by decide) ?_
  refine n_icmp_ge X (tgt := 40) dX6_init_18 (by decide) (fun z => absurd z (by decide)) (fun _ => ?_)
  refine n_aload_n X 1 (i0 := 0) dX6_init_21 rfl rfl ?_
  refine n_get X (v := .ref q7) (T := TX6) 0 uX6 rfl rfl 0 (by decide) nfl_X6_11 rfl rfl dX6_init_22 ?_
  refine n_iload_n X 0 (i0 := 1) dX6_init_25 rfl rfl ?_
  refine n_new X (ci := 8) (C := RX8) (T := TX8) (fs := [.null, .null, .null, .null, .int 0, .int 0, .int 0, .int 0, .long 0]) uX8 tyX8 tyX8_ok ncl_X6_9 nin_8 nii_8 rfl (fun j hj => match j, hj with | 0, _ => rfl | 1, _ => rfl | 2, _ => rfl | 3, _ => rfl | 4, _ => rfl | 5, _ => rfl | 6, _ => rfl | 7, _ => rfl | 8, _ => rfl | j + 9, h => absurd h (by omega)) (Nat.le_of_ble_eq_true rfl) (Nat.le_of_ble_eq_true rfl) dX6_init_26 (fun q26_5 => ?_)
  refine n_dup X dX6_init_29 rfl ?_
  refine n_I X (w0 := ((((([(h0, .inr (6, [.ref q7, .int 0, .int 0])), (q7, .inl (cA 3, 8, .inr (.inr (.inr (.inr (va_up (va_up (va_up (va_up (va_up (fun _ => none) (0 : Int32).toNatClampNeg (some q26_0)) (1 : Int32).toNatClampNeg (some q26_1)) (2 : Int32).toNatClampNeg (some q26_2)) (3 : Int32).toNatClampNeg (some q26_3)) (4 : Int32).toNatClampNeg (some q26_4)))))))] ++ pX8 cA q26_0 a26_0) ++ pX8 cA q26_1 a26_1) ++ pX8 cA q26_2 a26_2) ++ pX8 cA q26_3 a26_3) ++ pX8 cA q26_4 a26_4)) (c_X8_init l G cA q26_5) nco_8 nii_8 nml_X6_17 nim_8 rfl nhd_8 ⟨(Nat.le_of_ble_eq_true rfl), (Nat.le_of_ble_eq_true rfl)⟩ rfl (Nat.le_of_ble_eq_true rfl) ⟨(Nat.le_of_ble_eq_true rfl), (Nat.le_of_ble_eq_true rfl)⟩ dX6_init_30 (fun a26_5 => ?_)
  refine n_astq X (r := (RX8, TX8, 9)) (ws' := (((((([(h0, .inr (6, [.ref q7, .int 0, .int 0])), (q7, .inl (cA 3, 8, .inr (.inr (.inr (.inr (va_up (va_up (va_up (va_up (va_up (va_up (fun _ => none) (0 : Int32).toNatClampNeg (some q26_0)) (1 : Int32).toNatClampNeg (some q26_1)) (2 : Int32).toNatClampNeg (some q26_2)) (3 : Int32).toNatClampNeg (some q26_3)) (4 : Int32).toNatClampNeg (some q26_4)) (5 : Int32).toNatClampNeg (some q26_5)))))))] ++ pX8 cA q26_0 a26_0) ++ pX8 cA q26_1 a26_1) ++ pX8 cA q26_2 a26_2) ++ pX8 cA q26_3 a26_3) ++ pX8 cA q26_4 a26_4) ++ pX8 cA q26_5 a26_5)) 1 27 3 rfl rfl rfl rfl (inB_vp (by decide)) rfl dX6_init_33 ?_
  refine n_iinc X 0 (v := (6 : Int32)) dX6_init_34 rfl (by decide) (by decide) rfl ?_
  refine n_goto X (tgt := 15) dX6_init_37 (by decide) ?_
  refine n_iload_n X 0 (i0 := 1) dX6_init_15 rfl rfl ?_
  refine n_bipush X (v := (8 : Int32)) dX6_init_16 (by decide) ?_
  refine n_icmp_ge X (tgt := 40) dX6_init_18 (by decide) (fun z => absurd z (by decide)) (fun _ => ?_)
  refine n_aload_n X 1 (i0 := 0) dX6_init_21 rfl rfl ?_
  refine n_get X (v := .ref q7) (T := TX6) 0 uX6 rfl rfl 0 (by decide) nfl_X6_11 rfl rfl dX6_init_22 ?_
  refine n_iload_n X 0 (i0 := 1) dX6_init_25 rfl rfl ?_
  refine n_new X (ci := 8) (C := RX8) (T := TX8) (fs := [.null, .null, .null, .null, .int 0, .int 0, .int 0, .int 0, .long 0]) uX8 tyX8 tyX8_ok ncl_X6_9 nin_8 nii_8 rfl (fun j hj => match j, hj with | 0, _ => rfl | 1, _ => rfl | 2, _ => rfl | 3, _ => rfl | 4, _ => rfl | 5, _ => rfl | 6, _ => rfl | 7, _ => rfl | 8, _ => rfl | j + 9, h => absurd h (by omega)) (Nat.le_of_ble_eq_true rfl) (Nat.le_of_ble_eq_true rfl) dX6_init_26 (fun q26_6 => ?_)
  refine n_dup X dX6_init_29 rfl ?_
  refine n_I X (w0 := (((((([(h0, .inr (6, [.ref q7, .int 0, .int 0])), (q7, .inl (cA 3, 8, .inr (.inr (.inr (.inr (va_up (va_up (va_up (va_up (va_up (va_up (fun _ => none) (0 : Int32).toNatClampNeg (some q26_0)) (1 : Int32).toNatClampNeg (some q26_1)) (2 : Int32).toNatClampNeg (some q26_2)) (3 : Int32).toNatClampNeg (some q26_3)) (4 : Int32).toNatClampNeg (some q26_4)) (5 : Int32).toNatClampNeg (some q26_5)))))))] ++ pX8 cA q26_0 a26_0) ++ pX8 cA q26_1 a26_1) ++ pX8 cA q26_2 a26_2) ++ pX8 cA q26_3 a26_3) ++ pX8 cA q26_4 a26_4) ++ pX8 cA q26_5 a26_5)) (c_X8_init l G cA q26_6) nco_8 nii_8 nml_X6_17 nim_8 rfl nhd_8 ⟨(Nat.le_of_ble_eq_true rfl), (Nat.le_of_ble_eq_true rfl)⟩ rfl (Nat.le_of_ble_eq_true rfl) ⟨(Nat.le_of_ble_eq_true rfl), (Nat.le_of_ble_eq_true rfl)⟩ dX6_init_30 (fun a26_6 => ?_)
  refine n_astq X (r := (RX8, TX8, 9)) (ws' := ((((((([(h0, .inr (6, [.ref q7, .int 0, .int 0])), (q7, .inl (cA 3, 8, .inr (.inr (.inr (.inr (va_up (va_up (va_up (va_up (va_up (va_up (va_up (fun _ => none) (0 : Int32).toNatClampNeg (some q26_0)) (1 : Int32).toNatClampNeg (some q26_1)) (2 : Int32).toNatClampNeg (some q26_2)) (3 : Int32).toNatClampNeg (some q26_3)) (4 : Int32).toNatClampNeg (some q26_4)) (5 : Int32).toNatClampNeg (some q26_5)) (6 : Int32).toNatClampNeg (some q26_6)))))))] ++ pX8 cA q26_0 a26_0) ++ pX8 cA q26_1 a26_1) ++ pX8 cA q26_2 a26_2) ++ pX8 cA q26_3 a26_3) ++ pX8 cA q26_4 a26_4) ++ pX8 cA q26_5 a26_5) ++ pX8 cA q26_6 a26_6)) 1 32 3 rfl rfl rfl rfl (inB_vp (by decide)) rfl dX6_init_33 ?_
  refine n_iinc X 0 (v := (7 : Int32)) dX6_init_34 rfl (by decide) (by decide) rfl ?_
  refine n_goto X (tgt := 15) dX6_init_37 (by decide) ?_
  refine n_iload_n X 0 (i0 := 1) dX6_init_15 rfl rfl ?_
  refine n_bipush X (v := (8 : Int32)) dX6_init_16 (by decide) ?_
  refine n_icmp_ge X (tgt := 40) dX6_init_18 (by decide) (fun z => absurd z (by decide)) (fun _ => ?_)
  refine n_aload_n X 1 (i0 := 0) dX6_init_21 rfl rfl ?_
  refine n_get X (v := .ref q7) (T := TX6) 0 uX6 rfl rfl 0 (by decide) nfl_X6_11 rfl rfl dX6_init_22 ?_
  refine n_iload_n X 0 (i0 := 1) dX6_init_25 rfl rfl ?_
  refine n_new X (ci := 8) (C := RX8) (T := TX8) (fs := [.null, .null, .null, .null, .int 0, .int 0, .int 0, .int 0, .long 0]) uX8 tyX8 tyX8_ok ncl_X6_9 nin_8 nii_8 rfl (fun j hj => match j, hj with | 0, _ => rfl | 1, _ => rfl | 2, _ => rfl | 3, _ => rfl | 4, _ => rfl | 5, _ => rfl | 6, _ => rfl | 7, _ => rfl | 8, _ => rfl | j + 9, h => absurd h (by omega)) (Nat.le_of_ble_eq_true rfl) (Nat.le_of_ble_eq_true rfl) dX6_init_26 (fun q26_7 => ?_)
  refine n_dup X dX6_init_29 rfl ?_
  refine n_I X (w0 := ((((((([(h0, .inr (6, [.ref q7, .int 0, .int 0])), (q7, .inl (cA 3, 8, .inr (.inr (.inr (.inr (va_up (va_up (va_up (va_up (va_up (va_up (va_up (fun _ => none) (0 : Int32).toNatClampNeg (some q26_0)) (1 : Int32).toNatClampNeg (some q26_1)) (2 : Int32).toNatClampNeg (some q26_2)) (3 : Int32).toNatClampNeg (some q26_3)) (4 : Int32).toNatClampNeg (some q26_4)) (5 : Int32).toNatClampNeg (some q26_5)) (6 : Int32).toNatClampNeg (some q26_6)))))))] ++ pX8 cA q26_0 a26_0) ++ pX8 cA q26_1 a26_1) ++ pX8 cA q26_2 a26_2) ++ pX8 cA q26_3 a26_3) ++ pX8 cA q26_4 a26_4) ++ pX8 cA q26_5 a26_5) ++ pX8 cA q26_6 a26_6)) (c_X8_init l G cA q26_7) nco_8 nii_8 nml_X6_17 nim_8 rfl nhd_8 ⟨(Nat.le_of_ble_eq_true rfl), (Nat.le_of_ble_eq_true rfl)⟩ rfl (Nat.le_of_ble_eq_true rfl) ⟨(Nat.le_of_ble_eq_true rfl), (Nat.le_of_ble_eq_true rfl)⟩ dX6_init_30 (fun a26_7 => ?_)
  refine n_astq X (r := (RX8, TX8, 9)) (ws' := (((((((([(h0, .inr (6, [.ref q7, .int 0, .int 0])), (q7, .inl (cA 3, 8, .inr (.inr (.inr (.inr (va_up (va_up (va_up (va_up (va_up (va_up (va_up (va_up (fun _ => none) (0 : Int32).toNatClampNeg (some q26_0)) (1 : Int32).toNatClampNeg (some q26_1)) (2 : Int32).toNatClampNeg (some q26_2)) (3 : Int32).toNatClampNeg (some q26_3)) (4 : Int32).toNatClampNeg (some q26_4)) (5 : Int32).toNatClampNeg (some q26_5)) (6 : Int32).toNatClampNeg (some q26_6)) (7 : Int32).toNatClampNeg (some q26_7)))))))] ++ pX8 cA q26_0 a26_0) ++ pX8 cA q26_1 a26_1) ++ pX8 cA q26_2 a26_2) ++ pX8 cA q26_3 a26_3) ++ pX8 cA q26_4 a26_4) ++ pX8 cA q26_5 a26_5) ++ pX8 cA q26_6 a26_6) ++ pX8 cA q26_7 a26_7)) 1 37 3 rfl rfl rfl rfl (inB_vp (by decide)) rfl dX6_init_33 ?_
  refine n_iinc X 0 (v := (8 : Int32)) dX6_init_34 rfl (by decide) (by decide) rfl ?_
  refine n_goto X (tgt := 15) dX6_init_37 (by decide) ?_
  refine n_iload_n X 0 (i0 := 1) dX6_init_15 rfl rfl ?_
  refine n_bipush X (v := (8 : Int32)) dX6_init_16 (by decide) ?_
  refine n_icmp_ge X (tgt := 40) dX6_init_18 (by decide) (fun _ => ?_) (fun z => absurd z (by decide))
  exact n_vret X (nc q7 (na 5 (nc q26_0 a26_0) (na 5 (nc q26_1 a26_1) (na 5 (nc q26_2 a26_2) (na 5 (nc q26_3 a26_3) (na 5 (nc q26_4 a26_4) (na 5 (nc q26_5 a26_5) (na 5 (nc q26_6 a26_6) (na 5 (nc q26_7 a26_7) (fun _ => 0)))))))))) hr dX6_init_40 (Nat.le_of_ble_eq_true rfl) (Nat.le_of_ble_eq_true rfl) rfl

