theorem fl_X10_15 : Cond.fieldLink RX10 15 "StoneQuarry$Tunnels" "settled" "[Z" ∈ UT := ut 225 (by decide +kernel) (by decide +kernel)
theorem wg_67 (E : EE) (D : DD) : (wd E D)[67]? = some (E.1 67, .inl (E.2 1, 36, .inl (D.2.2.1 56))) := rfl
def b_X10_nearest_0  (D : DD) : Option ((Nat × List Int32 × DD) ⊕ RT) := some (.inl (1, [(-1 : Int32), (1000000 : Int32), (0 : Int32)], D))
def b_X10_nearest_1 (x1 : Int32) (x2 : Int32) (x3 : Int32) (D : DD) : Option ((Nat × List Int32 × DD) ⊕ RT) := (if (36 : Int32) ≤ x3 then some (.inr (0, some (.int x1), D)) else (if inB x3 36 = true then (if ((D.2.2.1 56) x3.toNatClampNeg) = 0 then (if inB x3 36 = true then (if x2 ≤ ((D.2.2.1 55) x3.toNatClampNeg) then some (.inl (1, [x1, x2, (x3 + (1 : Int32))], D)) else (if inB x3 36 = true then some (.inl (1, [x3, ((D.2.2.1 55) x3.toNatClampNeg), (x3 + (1 : Int32))], D)) else none)) else none) else some (.inl (1, [x1, x2, (x3 + (1 : Int32))], D))) else none))
def T_X10_nearest (k : Nat) (ls : List Int32) (D : DD) : Option ((Nat × List Int32 × DD) ⊕ RT) := match k, ls with
  | 0, [] => b_X10_nearest_0  D
  | 1, [x1, x2, x3] => b_X10_nearest_1 x1 x2 x3 D
  | _, _ => none
def S_X10_nearest  (D : DD) : Option RT := run T_X10_nearest FUEL 0 [] D
def hg_X10_nearest (p : Program) (l : Launch) (e : Env) (s : State) (m : MethodId) (args : Array Value) (below : List Frame) (meth : Method) (c : Code) (G : va_G) (E : EE) (r : RT) (k : Nat) (ls : List Int32) (D : DD) : Prop := match k, ls with
  | 0, [] => GW p l e (rmm 0) s m args below meth c G E 4 (MQ below (QR G E s.heap.size r) args s 0 0 (fr E s.heap.size)) 0 0 D 0 [(0, .ref (E.1 65))] []
  | 1, [x1, x2, x3] => GW p l e (rmm 0) s m args below meth c G E 4 (MQ below (QR G E s.heap.size r) args s 0 0 (fr E s.heap.size)) 0 0 D 7 [(0, .ref (E.1 65)), (1, .int x1), (2, .int x2), (3, .int x3)] []
  | _, _ => True
set_option maxRecDepth 100000 in
set_option maxHeartbeats 4000000 in
theorem bl_X10_nearest_0 {p : Program} {l : Launch} {e : Env} {s : State} {m : MethodId} {args : Array Value} {below : List Frame} {meth : Method} {c : Code} {G : va_G} {E : EE} {r : RT} (X : CX p s m args meth c cX10_nearest RX10 4 G E) (hr : meth.sig.returnType = (some .int))  (D : DD) (o : (Nat × List Int32 × DD) ⊕ RT) (h : b_X10_nearest_0  D = some o) (h1 : ∀ x, o = .inl x → hg_X10_nearest p l e s m args below meth c G E r x.1 x.2.1 x.2.2) (h2 : ∀ x, o = .inr x → x = r) : GW p l e (rmm 0) s m args below meth c G E 4 (MQ below (QR G E s.heap.size r) args s 0 0 (fr E s.heap.size)) 0 0 D 0 [(0, .ref (E.1 65))] [] := by
  unfold b_X10_nearest_0 at h
  refine g_iconst X (v := (-1 : Int32)) dX10_nearest_0 (by decide) ?_
  refine g_istore_n X (i0 := 1) (lv' := [(1, .int (-1 : Int32)), (0, .ref (E.1 65))]) dX10_nearest_1 rfl (by decide) rfl ?_
  refine g_ldc X (v := (1000000 : Int32)) wk_X10_48 dX10_nearest_2 ?_
  refine g_istore_n X (i0 := 2) (lv' := [(2, .int (1000000 : Int32)), (1, .int (-1 : Int32)), (0, .ref (E.1 65))]) dX10_nearest_4 rfl (by decide) rfl ?_
  refine g_iconst X (v := (0 : Int32)) dX10_nearest_5 (by decide) ?_
  refine g_istore_n X (i0 := 3) (lv' := [(3, .int (0 : Int32)), (2, .int (1000000 : Int32)), (1, .int (-1 : Int32)), (0, .ref (E.1 65))]) dX10_nearest_6 rfl (by decide) rfl ?_
  refine g_sub (lv' := [(0, .ref (E.1 65)), (1, .int (-1 : Int32)), (2, .int (1000000 : Int32)), (3, .int (0 : Int32))]) [3, 2, 1, 0] rfl ?_
  exact h1 _ (Option.some.inj h).symm
set_option maxRecDepth 100000 in
set_option maxHeartbeats 4000000 in
theorem bl_X10_nearest_1 {p : Program} {l : Launch} {e : Env} {s : State} {m : MethodId} {args : Array Value} {below : List Frame} {meth : Method} {c : Code} {G : va_G} {E : EE} {r : RT} (X : CX p s m args meth c cX10_nearest RX10 4 G E) (hr : meth.sig.returnType = (some .int)) (x1 : Int32) (x2 : Int32) (x3 : Int32) (D : DD) (o : (Nat × List Int32 × DD) ⊕ RT) (h : b_X10_nearest_1 x1 x2 x3 D = some o) (h1 : ∀ x, o = .inl x → hg_X10_nearest p l e s m args below meth c G E r x.1 x.2.1 x.2.2) (h2 : ∀ x, o = .inr x → x = r) : GW p l e (rmm 0) s m args below meth c G E 4 (MQ below (QR G E s.heap.size r) args s 0 0 (fr E s.heap.size)) 0 0 D 7 [(0, .ref (E.1 65)), (1, .int x1), (2, .int x2), (3, .int x3)] [] := by
  unfold b_X10_nearest_1 at h
  refine g_iload_n X 3 (i0 := 3) dX10_nearest_7 rfl rfl ?_
  refine g_bipush X (v := (36 : Int32)) dX10_nearest_8 (by decide) ?_
  refine g_icmp_ge X (tgt := 47) dX10_nearest_10 (by decide) (fun c6 => ?_) (fun c6 => ?_)
  · have h := (ite_s h).1 c6
    refine g_iload_n X 1 (i0 := 1) dX10_nearest_47 rfl rfl ?_
    exact g_iret X hr rfl dX10_nearest_48 (h2 _ (Option.some.inj h).symm)
  · have h := (ite_s h).2 c6
    refine g_aload_n X 0 (i0 := 0) dX10_nearest_13 rfl rfl ?_
    refine g_get X (D := D) (v := .ref (E.1 67)) (T := TX10) 65 uX10 (wg_65 E _) rfl 1 (by decide) fl_X10_15 rfl rfl dX10_nearest_14 ?_
    refine g_iload_n X 3 (i0 := 3) dX10_nearest_17 rfl rfl ?_
    obtain ⟨b1, h⟩ := chk_s h
    refine g_zald X (D := D) (f := (D.2.2.1 56)) (i := x3) 67 (wg_67 E _) (inB_vp b1) dX10_nearest_18 ?_
    refine g_if_ne X (tgt := 41) dX10_nearest_19 (by decide) (fun c5 => ?_) (fun c5 => ?_)
    · have h := (ite_s h).2 c5
      refine g_iinc X 3 (v := (x3 + (1 : Int32))) (lv' := [(3, .int (x3 + (1 : Int32))), (0, .ref (E.1 65)), (1, .int x1), (2, .int x2)]) dX10_nearest_41 rfl rfl (by decide) rfl ?_
      refine g_goto X (tgt := 7) dX10_nearest_44 (by decide) ?_
      refine g_sub (lv' := [(0, .ref (E.1 65)), (1, .int x1), (2, .int x2), (3, .int (x3 + (1 : Int32)))]) [1, 2, 3, 0] rfl ?_
      exact h1 _ (Option.some.inj h).symm
    · have h := (ite_s h).1 c5
      refine g_aload_n X 0 (i0 := 0) dX10_nearest_22 rfl rfl ?_
      refine g_get X (D := D) (v := .ref (E.1 66)) (T := TX10) 65 uX10 (wg_65 E _) rfl 0 (by decide) fl_X10_9 rfl rfl dX10_nearest_23 ?_
      refine g_iload_n X 3 (i0 := 3) dX10_nearest_26 rfl rfl ?_
      obtain ⟨b2, h⟩ := chk_s h
      refine g_iald X (D := D) (f := (D.2.2.1 55)) (i := x3) 66 (wg_66 E _) (inB_vp b2) dX10_nearest_27 ?_
      refine g_iload_n X 2 (i0 := 2) dX10_nearest_28 rfl rfl ?_
      refine g_icmp_ge X (tgt := 41) dX10_nearest_29 (by decide) (fun c4 => ?_) (fun c4 => ?_)
      · have h := (ite_s h).1 c4
        refine g_iinc X 3 (v := (x3 + (1 : Int32))) (lv' := [(3, .int (x3 + (1 : Int32))), (0, .ref (E.1 65)), (1, .int x1), (2, .int x2)]) dX10_nearest_41 rfl rfl (by decide) rfl ?_
        refine g_goto X (tgt := 7) dX10_nearest_44 (by decide) ?_
        refine g_sub (lv' := [(0, .ref (E.1 65)), (1, .int x1), (2, .int x2), (3, .int (x3 + (1 : Int32)))]) [1, 2, 3, 0] rfl ?_
        exact h1 _ (Option.some.inj h).symm
      · have h := (ite_s h).2 c4
        refine g_iload_n X 3 (i0 := 3) dX10_nearest_32 rfl rfl ?_
        refine g_istore_n X (i0 := 1) (lv' := [(1, .int x3), (0, .ref (E.1 65)), (2, .int x2), (3, .int x3)]) dX10_nearest_33 rfl (by decide) rfl ?_
        refine g_aload_n X 1 (i0 := 0) dX10_nearest_34 rfl rfl ?_
        refine g_get X (D := D) (v := .ref (E.1 66)) (T := TX10) 65 uX10 (wg_65 E _) rfl 0 (by decide) fl_X10_9 rfl rfl dX10_nearest_35 ?_
        refine g_iload_n X 3 (i0 := 3) dX10_nearest_38 rfl rfl ?_
        obtain ⟨b3, h⟩ := chk_s h
        refine g_iald X (D := D) (f := (D.2.2.1 55)) (i := x3) 66 (wg_66 E _) (inB_vp b3) dX10_nearest_39 ?_
        refine g_istore_n X (i0 := 2) (lv' := [(2, .int ((D.2.2.1 55) x3.toNatClampNeg)), (1, .int x3), (0, .ref (E.1 65)), (3, .int x3)]) dX10_nearest_40 rfl (by decide) rfl ?_
        refine g_iinc X 3 (v := (x3 + (1 : Int32))) (lv' := [(3, .int (x3 + (1 : Int32))), (2, .int ((D.2.2.1 55) x3.toNatClampNeg)), (1, .int x3), (0, .ref (E.1 65))]) dX10_nearest_41 rfl rfl (by decide) rfl ?_
        refine g_goto X (tgt := 7) dX10_nearest_44 (by decide) ?_
        refine g_sub (lv' := [(0, .ref (E.1 65)), (1, .int x3), (2, .int ((D.2.2.1 55) x3.toNatClampNeg)), (3, .int (x3 + (1 : Int32)))]) [3, 2, 1, 0] rfl ?_
        exact h1 _ (Option.some.inj h).symm
set_option maxRecDepth 100000 in
set_option maxHeartbeats 4000000 in
theorem c_X10_nearest (l : Launch) (G : va_G) (E : EE)  (D : DD) (r : RT) (h : S_X10_nearest  D = some r) : MM l G E yX10_nearest cX10_nearest 4 (some .int) (rmm 0) [.ref (E.1 65)] D r := by
  unfold S_X10_nearest at h
  refine m_of rfl (Nat.le_of_ble_eq_true rfl) ?_
  intro p e s m args below meth c X hr
  exact run_G (T := T_X10_nearest) (HG := hg_X10_nearest p l e s m args below meth c G E r) (by
    intro k ls D o hT h1 h2
    unfold T_X10_nearest at hT
    split at hT
    · exact bl_X10_nearest_0 X hr  D o hT h1 h2
    · exact bl_X10_nearest_1 X hr _ _ _ D o hT h1 h2
    · cases hT) FUEL 0 [] D h
def b_X10_start_0  (D : DD) : Option ((Nat × List Int32 × DD) ⊕ RT) := some (.inl (1, [(0 : Int32)], D))
def b_X10_start_1 (x2 : Int32) (D : DD) : Option ((Nat × List Int32 × DD) ⊕ RT) := (if (36 : Int32) ≤ x2 then some (.inr (0, none, D)) else (if (x2 - x2 / (6 : Int32) * (6 : Int32)) = 0 then (cI (S_X8_hardnessAt x2 D) (fun r4 D3 => (if inB x2 36 = true then some (.inl (1, [(x2 + (1 : Int32))], (setA D3 55 (upd (D3.2.2.1 55) x2.toNatClampNeg r4)))) else none))) else (if inB x2 36 = true then some (.inl (1, [(x2 + (1 : Int32))], (setA D 55 (upd (D.2.2.1 55) x2.toNatClampNeg (1000000 : Int32))))) else none)))
def T_X10_start (k : Nat) (ls : List Int32) (D : DD) : Option ((Nat × List Int32 × DD) ⊕ RT) := match k, ls with
  | 0, [] => b_X10_start_0  D
  | 1, [x2] => b_X10_start_1 x2 D
  | _, _ => none
def S_X10_start  (D : DD) : Option RT := run T_X10_start FUEL 0 [] D
def hg_X10_start (p : Program) (l : Launch) (e : Env) (s : State) (m : MethodId) (args : Array Value) (below : List Frame) (meth : Method) (c : Code) (G : va_G) (E : EE) (r : RT) (k : Nat) (ls : List Int32) (D : DD) : Prop := match k, ls with
  | 0, [] => GW p l e (rmm 2) s m args below meth c G E 3 (MQ below (QR G E s.heap.size r) args s 0 0 (fr E s.heap.size)) 0 0 D 0 [(0, .ref (E.1 65)), (1, .ref (E.1 1))] []
  | 1, [x2] => GW p l e (rmm 2) s m args below meth c G E 3 (MQ below (QR G E s.heap.size r) args s 0 0 (fr E s.heap.size)) 0 0 D 2 [(0, .ref (E.1 65)), (1, .ref (E.1 1)), (2, .int x2)] []
  | _, _ => True
set_option maxRecDepth 100000 in
set_option maxHeartbeats 4000000 in
theorem bl_X10_start_0 {p : Program} {l : Launch} {e : Env} {s : State} {m : MethodId} {args : Array Value} {below : List Frame} {meth : Method} {c : Code} {G : va_G} {E : EE} {r : RT} (X : CX p s m args meth c cX10_start RX10 3 G E) (hr : meth.sig.returnType = none)  (D : DD) (o : (Nat × List Int32 × DD) ⊕ RT) (h : b_X10_start_0  D = some o) (h1 : ∀ x, o = .inl x → hg_X10_start p l e s m args below meth c G E r x.1 x.2.1 x.2.2) (h2 : ∀ x, o = .inr x → x = r) : GW p l e (rmm 2) s m args below meth c G E 3 (MQ below (QR G E s.heap.size r) args s 0 0 (fr E s.heap.size)) 0 0 D 0 [(0, .ref (E.1 65)), (1, .ref (E.1 1))] [] := by
  unfold b_X10_start_0 at h
  refine g_iconst X (v := (0 : Int32)) dX10_start_0 (by decide) ?_
  refine g_istore_n X (i0 := 2) (lv' := [(2, .int (0 : Int32)), (0, .ref (E.1 65)), (1, .ref (E.1 1))]) dX10_start_1 rfl (by decide) rfl ?_
  refine g_sub (lv' := [(0, .ref (E.1 65)), (1, .ref (E.1 1)), (2, .int (0 : Int32))]) [1, 2, 0] rfl ?_
  exact h1 _ (Option.some.inj h).symm
set_option maxRecDepth 100000 in
set_option maxHeartbeats 4000000 in
theorem bl_X10_start_1 {p : Program} {l : Launch} {e : Env} {s : State} {m : MethodId} {args : Array Value} {below : List Frame} {meth : Method} {c : Code} {G : va_G} {E : EE} {r : RT} (X : CX p s m args meth c cX10_start RX10 3 G E) (hr : meth.sig.returnType = none) (x2 : Int32) (D : DD) (o : (Nat × List Int32 × DD) ⊕ RT) (h : b_X10_start_1 x2 D = some o) (h1 : ∀ x, o = .inl x → hg_X10_start p l e s m args below meth c G E r x.1 x.2.1 x.2.2) (h2 : ∀ x, o = .inr x → x = r) : GW p l e (rmm 2) s m args below meth c G E 3 (MQ below (QR G E s.heap.size r) args s 0 0 (fr E s.heap.size)) 0 0 D 2 [(0, .ref (E.1 65)), (1, .ref (E.1 1)), (2, .int x2)] [] := by
  unfold b_X10_start_1 at h
  refine g_iload_n X 2 (i0 := 2) dX10_start_2 rfl rfl ?_
  refine g_bipush X (v := (36 : Int32)) dX10_start_3 (by decide) ?_
  refine g_icmp_ge X (tgt := 37) dX10_start_5 (by decide) (fun c7 => ?_) (fun c7 => ?_)
  · have h := (ite_s h).1 c7
    exact g_vret X hr dX10_start_37 (h2 _ (Option.some.inj h).symm)
  · have h := (ite_s h).2 c7
    refine g_aload_n X 0 (i0 := 0) dX10_start_8 rfl rfl ?_
    refine g_get X (D := D) (v := .ref (E.1 66)) (T := TX10) 65 uX10 (wg_65 E _) rfl 0 (by decide) fl_X10_9 rfl rfl dX10_start_9 ?_
    refine g_iload_n X 2 (i0 := 2) dX10_start_12 rfl rfl ?_
    refine g_iload_n X 2 (i0 := 2) dX10_start_13 rfl rfl ?_
    refine g_bipush X (v := (6 : Int32)) dX10_start_14 (by decide) ?_
    refine g_irem X (by decide) dX10_start_16 ?_
    refine g_if_ne X (tgt := 28) dX10_start_17 (by decide) (fun c6 => ?_) (fun c6 => ?_)
    · have h := (ite_s h).2 c6
      refine g_ldc X (v := (1000000 : Int32)) wk_X10_48 dX10_start_28 ?_
      obtain ⟨b1, h⟩ := chk_s h
      refine g_iast X (D := D) (f := (D.2.2.1 55)) (i := x2) (x := (1000000 : Int32)) (D' := (setA D 55 (upd (D.2.2.1 55) x2.toNatClampNeg (1000000 : Int32)))) 66 (wg_66 E _) (inB_vp b1) (ws_A_55 E _ _) dX10_start_30 ?_
      refine g_iinc X 2 (v := (x2 + (1 : Int32))) (lv' := [(2, .int (x2 + (1 : Int32))), (0, .ref (E.1 65)), (1, .ref (E.1 1))]) dX10_start_31 rfl rfl (by decide) rfl ?_
      refine g_goto X (tgt := 2) dX10_start_34 (by decide) ?_
      refine g_sub (lv' := [(0, .ref (E.1 65)), (1, .ref (E.1 1)), (2, .int (x2 + (1 : Int32)))]) [1, 2, 0] rfl ?_
      exact h1 _ (Option.some.inj h).symm
    · have h := (ite_s h).1 c6
      refine g_aload_n X 1 (i0 := 1) dX10_start_20 rfl rfl ?_
      refine g_iload_n X 2 (i0 := 2) dX10_start_21 rfl rfl ?_
      obtain ⟨r4, D3, e2, h⟩ := cI_s h
      refine g_V X (As := [.int x2]) (rest := [.int x2, .ref (E.1 66)]) (c_X8_hardnessAt l G E x2 _ _ e2) 1 (wg_1 E _) rfl rfl kv_X10_42 ⟨rfl, rfl⟩ ⟨rfl, hd_X8_hardnessAt⟩ (⟨Nat.le_of_ble_eq_true rfl, Nat.le_of_ble_eq_true rfl⟩) rfl rfl (Nat.le_of_ble_eq_true rfl) dX10_start_22 ?_
      refine g_goto X (tgt := 30) dX10_start_25 (by decide) ?_
      obtain ⟨b5, h⟩ := chk_s h
      refine g_iast X (D := D3) (f := (D3.2.2.1 55)) (i := x2) (x := r4) (D' := (setA D3 55 (upd (D3.2.2.1 55) x2.toNatClampNeg r4))) 66 (wg_66 E _) (inB_vp b5) (ws_A_55 E _ _) dX10_start_30 ?_
      refine g_iinc X 2 (v := (x2 + (1 : Int32))) (lv' := [(2, .int (x2 + (1 : Int32))), (0, .ref (E.1 65)), (1, .ref (E.1 1))]) dX10_start_31 rfl rfl (by decide) rfl ?_
      refine g_goto X (tgt := 2) dX10_start_34 (by decide) ?_
      refine g_sub (lv' := [(0, .ref (E.1 65)), (1, .ref (E.1 1)), (2, .int (x2 + (1 : Int32)))]) [1, 2, 0] rfl ?_
      exact h1 _ (Option.some.inj h).symm
set_option maxRecDepth 100000 in
set_option maxHeartbeats 4000000 in
theorem c_X10_start (l : Launch) (G : va_G) (E : EE)  (D : DD) (r : RT) (h : S_X10_start  D = some r) : MM l G E yX10_start cX10_start 3 none (rmm 2) [.ref (E.1 65), .ref (E.1 1)] D r := by
  unfold S_X10_start at h
  refine m_of rfl (Nat.le_of_ble_eq_true rfl) ?_
  intro p e s m args below meth c X hr
  exact run_G (T := T_X10_start) (HG := hg_X10_start p l e s m args below meth c G E r) (by
    intro k ls D o hT h1 h2
    unfold T_X10_start at hT
    split at hT
    · exact bl_X10_start_0 X hr  D o hT h1 h2
    · exact bl_X10_start_1 X hr _ D o hT h1 h2
    · cases hT) FUEL 0 [] D h
theorem ws_A_56 (E : EE) (D : DD) (f : Nat → Int32) : (wd E D).set 67 (E.1 67, .inl (E.2 1, 36, .inl f)) = wd E (setA D 56 f) := rfl
def b_X12_clear_tunnels_settled_0  (D : DD) : Option ((Nat × List Int32 × DD) ⊕ RT) := some (.inl (1, [(0 : Int32)], D))
def b_X12_clear_tunnels_settled_1 (x1 : Int32) (D : DD) : Option ((Nat × List Int32 × DD) ⊕ RT) := (if (36 : Int32) ≤ x1 then some (.inr (0, none, D)) else (if inB x1 36 = true then some (.inl (1, [(x1 + (1 : Int32))], (setA D 56 (upd (D.2.2.1 56) x1.toNatClampNeg (vp_nar .boolean (0 : Int32)))))) else none))
def T_X12_clear_tunnels_settled (k : Nat) (ls : List Int32) (D : DD) : Option ((Nat × List Int32 × DD) ⊕ RT) := match k, ls with
  | 0, [] => b_X12_clear_tunnels_settled_0  D
  | 1, [x1] => b_X12_clear_tunnels_settled_1 x1 D
  | _, _ => none
def S_X12_clear_tunnels_settled  (D : DD) : Option RT := run T_X12_clear_tunnels_settled FUEL 0 [] D
def hg_X12_clear_tunnels_settled (p : Program) (l : Launch) (e : Env) (s : State) (m : MethodId) (args : Array Value) (below : List Frame) (meth : Method) (c : Code) (G : va_G) (E : EE) (r : RT) (k : Nat) (ls : List Int32) (D : DD) : Prop := match k, ls with
  | 0, [] => GW p l e (rmm 0) s m args below meth c G E 2 (MQ below (QR G E s.heap.size r) args s 0 0 (fr E s.heap.size)) 0 0 D 0 [(0, .ref (E.1 67))] []
  | 1, [x1] => GW p l e (rmm 0) s m args below meth c G E 2 (MQ below (QR G E s.heap.size r) args s 0 0 (fr E s.heap.size)) 0 0 D 2 [(0, .ref (E.1 67)), (1, .int x1)] []
  | _, _ => True
set_option maxRecDepth 100000 in
set_option maxHeartbeats 4000000 in
theorem bl_X12_clear_tunnels_settled_0 {p : Program} {l : Launch} {e : Env} {s : State} {m : MethodId} {args : Array Value} {below : List Frame} {meth : Method} {c : Code} {G : va_G} {E : EE} {r : RT} (X : CX p s m args meth c cX12_clear RX12 2 G E) (hr : meth.sig.returnType = none)  (D : DD) (o : (Nat × List Int32 × DD) ⊕ RT) (h : b_X12_clear_tunnels_settled_0  D = some o) (h1 : ∀ x, o = .inl x → hg_X12_clear_tunnels_settled p l e s m args below meth c G E r x.1 x.2.1 x.2.2) (h2 : ∀ x, o = .inr x → x = r) : GW p l e (rmm 0) s m args below meth c G E 2 (MQ below (QR G E s.heap.size r) args s 0 0 (fr E s.heap.size)) 0 0 D 0 [(0, .ref (E.1 67))] [] := by
  unfold b_X12_clear_tunnels_settled_0 at h
  refine g_iconst X (v := (0 : Int32)) dX12_clear_0 (by decide) ?_
  refine g_istore_n X (i0 := 1) (lv' := [(1, .int (0 : Int32)), (0, .ref (E.1 67))]) dX12_clear_1 rfl (by decide) rfl ?_
  refine g_sub (lv' := [(0, .ref (E.1 67)), (1, .int (0 : Int32))]) [1, 0] rfl ?_
  exact h1 _ (Option.some.inj h).symm
set_option maxRecDepth 100000 in
set_option maxHeartbeats 4000000 in
theorem bl_X12_clear_tunnels_settled_1 {p : Program} {l : Launch} {e : Env} {s : State} {m : MethodId} {args : Array Value} {below : List Frame} {meth : Method} {c : Code} {G : va_G} {E : EE} {r : RT} (X : CX p s m args meth c cX12_clear RX12 2 G E) (hr : meth.sig.returnType = none) (x1 : Int32) (D : DD) (o : (Nat × List Int32 × DD) ⊕ RT) (h : b_X12_clear_tunnels_settled_1 x1 D = some o) (h1 : ∀ x, o = .inl x → hg_X12_clear_tunnels_settled p l e s m args below meth c G E r x.1 x.2.1 x.2.2) (h2 : ∀ x, o = .inr x → x = r) : GW p l e (rmm 0) s m args below meth c G E 2 (MQ below (QR G E s.heap.size r) args s 0 0 (fr E s.heap.size)) 0 0 D 2 [(0, .ref (E.1 67)), (1, .int x1)] [] := by
  unfold b_X12_clear_tunnels_settled_1 at h
  refine g_iload_n X 1 (i0 := 1) dX12_clear_2 rfl rfl ?_
  refine g_aload_n X 0 (i0 := 0) dX12_clear_3 rfl rfl ?_
  refine g_alen X (D := D) (v := (36 : Int32)) (t0 := 1) 67 (wg_67 E _) rfl rfl dX12_clear_4 ?_
  refine g_icmp_ge X (tgt := 18) dX12_clear_5 (by decide) (fun c2 => ?_) (fun c2 => ?_)
  · have h := (ite_s h).1 c2
    exact g_vret X hr dX12_clear_18 (h2 _ (Option.some.inj h).symm)
  · have h := (ite_s h).2 c2
    refine g_aload_n X 0 (i0 := 0) dX12_clear_8 rfl rfl ?_
    refine g_iload_n X 1 (i0 := 1) dX12_clear_9 rfl rfl ?_
    refine g_iconst X (v := (0 : Int32)) dX12_clear_10 (by decide) ?_
    obtain ⟨b1, h⟩ := chk_s h
    refine g_zast X (D := D) (f := (D.2.2.1 56)) (i := x1) (x := (0 : Int32)) (D' := (setA D 56 (upd (D.2.2.1 56) x1.toNatClampNeg (vp_nar .boolean (0 : Int32))))) 67 (wg_67 E _) (inB_vp b1) (ws_A_56 E _ _) dX12_clear_11 ?_
    refine g_iinc X 1 (v := (x1 + (1 : Int32))) (lv' := [(1, .int (x1 + (1 : Int32))), (0, .ref (E.1 67))]) dX12_clear_12 rfl rfl (by decide) rfl ?_
    refine g_goto X (tgt := 2) dX12_clear_15 (by decide) ?_
    refine g_sub (lv' := [(0, .ref (E.1 67)), (1, .int (x1 + (1 : Int32)))]) [1, 0] rfl ?_
    exact h1 _ (Option.some.inj h).symm
set_option maxRecDepth 100000 in
set_option maxHeartbeats 4000000 in
theorem c_X12_clear_tunnels_settled (l : Launch) (G : va_G) (E : EE)  (D : DD) (r : RT) (h : S_X12_clear_tunnels_settled  D = some r) : MM l G E yX12_clear cX12_clear 2 none (rmm 0) [.ref (E.1 67)] D r := by
  unfold S_X12_clear_tunnels_settled at h
  refine m_of rfl (Nat.le_of_ble_eq_true rfl) ?_
  intro p e s m args below meth c X hr
  exact run_G (T := T_X12_clear_tunnels_settled) (HG := hg_X12_clear_tunnels_settled p l e s m args below meth c G E r) (by
    intro k ls D o hT h1 h2
    unfold T_X12_clear_tunnels_settled at hT
    split at hT
    · exact bl_X12_clear_tunnels_settled_0 X hr  D o hT h1 h2
    · exact bl_X12_clear_tunnels_settled_1 X hr _ D o hT h1 h2
    · cases hT) FUEL 0 [] D h
theorem hd_X10_goOn : yX10_goOn.cls ≠ "java/lang/invoke/MethodHandle" ∧ yX10_goOn.cls ≠ "java/lang/invoke/VarHandle" ∧ (parseMethodDescriptor yX10_goOn.desc).map (fun d => d.parameters.length) = some 2 := by decide +kernel
theorem hd_X10_leastAtEnd : yX10_leastAtEnd.cls ≠ "java/lang/invoke/MethodHandle" ∧ yX10_leastAtEnd.cls ≠ "java/lang/invoke/VarHandle" ∧ (parseMethodDescriptor yX10_leastAtEnd.desc).map (fun d => d.parameters.length) = some 0 := by decide +kernel
theorem hd_X10_nearest : yX10_nearest.cls ≠ "java/lang/invoke/MethodHandle" ∧ yX10_nearest.cls ≠ "java/lang/invoke/VarHandle" ∧ (parseMethodDescriptor yX10_nearest.desc).map (fun d => d.parameters.length) = some 0 := by decide +kernel
theorem hd_X10_start : yX10_start.cls ≠ "java/lang/invoke/MethodHandle" ∧ yX10_start.cls ≠ "java/lang/invoke/VarHandle" ∧ (parseMethodDescriptor yX10_start.desc).map (fun d => d.parameters.length) = some 1 := by decide +kernel
theorem kn_X10_23 : Cond.methodLinkNest RX10 23 yX12_clear "StoneQuarry" ∈ NEST := nst 393 (by decide +kernel) rfl
theorem wc_X10_start : Cond.code yX10_start cX10_start 3 none ∈ UT := ut 384 (by decide +kernel) (by decide +kernel)
theorem we_X10_start : Cond.selects RX10 yX10_start yX10_start ∈ UT := ut 0 (by decide +kernel) (by decide +kernel)
theorem wi_RX10 : Cond.initialized RX10 ∈ UT := ut 81 (by decide +kernel) (by decide +kernel)
theorem wm_X10_start : Cond.instanceMethod yX10_start ∈ UT := ut 383 (by decide +kernel) (by decide +kernel)
theorem kv_X10_19 : GoodIn UT (wsV RX10 19 RX10 yX10_start (Cond.code yX10_start cX10_start 3 none :: UT)) := gu_V (ut 381 (by decide +kernel) (by decide +kernel)) wm_X10_start we_X10_start wi_RX10 wc_X10_start
theorem wc_X10_nearest : Cond.code yX10_nearest cX10_nearest 4 (some .int) ∈ UT := ut 399 (by decide +kernel) (by decide +kernel)
theorem we_X10_nearest : Cond.selects RX10 yX10_nearest yX10_nearest ∈ UT := ut 1 (by decide +kernel) (by decide +kernel)
theorem wm_X10_nearest : Cond.instanceMethod yX10_nearest ∈ UT := ut 398 (by decide +kernel) (by decide +kernel)
theorem kv_X10_27 : GoodIn UT (wsV RX10 27 RX10 yX10_nearest (Cond.code yX10_nearest cX10_nearest 4 (some .int) :: UT)) := gu_V (ut 396 (by decide +kernel) (by decide +kernel)) wm_X10_nearest we_X10_nearest wi_RX10 wc_X10_nearest
theorem wc_X10_goOn : Cond.code yX10_goOn cX10_goOn 6 (some .boolean) ∈ UT := ut 404 (by decide +kernel) (by decide +kernel)
theorem we_X10_goOn : Cond.selects RX10 yX10_goOn yX10_goOn ∈ UT := ut 2 (by decide +kernel) (by decide +kernel)
theorem wm_X10_goOn : Cond.instanceMethod yX10_goOn ∈ UT := ut 403 (by decide +kernel) (by decide +kernel)
theorem kv_X10_35 : GoodIn UT (wsV RX10 35 RX10 yX10_goOn (Cond.code yX10_goOn cX10_goOn 6 (some .boolean) :: UT)) := gu_V (ut 401 (by decide +kernel) (by decide +kernel)) wm_X10_goOn we_X10_goOn wi_RX10 wc_X10_goOn
theorem wc_X10_leastAtEnd : Cond.code yX10_leastAtEnd cX10_leastAtEnd 3 (some .int) ∈ UT := ut 414 (by decide +kernel) (by decide +kernel)
theorem we_X10_leastAtEnd : Cond.selects RX10 yX10_leastAtEnd yX10_leastAtEnd ∈ UT := ut 3 (by decide +kernel) (by decide +kernel)
theorem wm_X10_leastAtEnd : Cond.instanceMethod yX10_leastAtEnd ∈ UT := ut 413 (by decide +kernel) (by decide +kernel)
theorem kv_X10_39 : GoodIn UT (wsV RX10 39 RX10 yX10_leastAtEnd (Cond.code yX10_leastAtEnd cX10_leastAtEnd 3 (some .int) :: UT)) := gu_V (ut 411 (by decide +kernel) (by decide +kernel)) wm_X10_leastAtEnd we_X10_leastAtEnd wi_RX10 wc_X10_leastAtEnd
def b_X10_costByNearest_0  (D : DD) : Option ((Nat × List Int32 × DD) ⊕ RT) := (cV (S_X10_start D) (fun D2 => (cV (S_X12_clear_tunnels_settled D2) (fun D4 => some (.inl (1, [(0 : Int32)], D4))))))
def b_X10_costByNearest_1 (x2 : Int32) (D : DD) : Option ((Nat × List Int32 × DD) ⊕ RT) := (if (36 : Int32) ≤ x2 then (cI (S_X10_leastAtEnd D) (fun r7 D6 => some (.inr (0, some (.int r7), D6)))) else (cI (S_X10_nearest D) (fun r10 D9 => (cI (S_X12_isCell r10 D9) (fun r13 D12 => (if r13 = 0 then (cI (S_X10_leastAtEnd D12) (fun r22 D21 => some (.inr (0, some (.int r22), D21)))) else (if (r10 - r10 / (6 : Int32) * (6 : Int32)) = (5 : Int32) then (if inB r10 36 = true then some (.inr (0, some (.int ((D12.2.2.1 55) r10.toNatClampNeg)), D12)) else none) else (if inB r10 36 = true then (cI (S_X10_goOn r10 (setA D12 56 (upd (D12.2.2.1 56) r10.toNatClampNeg (vp_nar .boolean (1 : Int32))))) (fun r17 D16 => some (.inl (1, [(x2 + (1 : Int32))], D16)))) else none))))))))
def T_X10_costByNearest (k : Nat) (ls : List Int32) (D : DD) : Option ((Nat × List Int32 × DD) ⊕ RT) := match k, ls with
  | 0, [] => b_X10_costByNearest_0  D
  | 1, [x2] => b_X10_costByNearest_1 x2 D
  | _, _ => none
def S_X10_costByNearest  (D : DD) : Option RT := run T_X10_costByNearest FUEL 0 [] D
def hg_X10_costByNearest (p : Program) (l : Launch) (e : Env) (s : State) (m : MethodId) (args : Array Value) (below : List Frame) (meth : Method) (c : Code) (G : va_G) (E : EE) (r : RT) (k : Nat) (ls : List Int32) (D : DD) : Prop := match k, ls with
  | 0, [] => GW p l e (rmm 3) s m args below meth c G E 4 (MQ below (QR G E s.heap.size r) args s 0 0 (fr E s.heap.size)) 0 0 D 0 [(0, .ref (E.1 65)), (1, .ref (E.1 1))] []
  | 1, [x2] => GW p l e (rmm 3) s m args below meth c G E 4 (MQ below (QR G E s.heap.size r) args s 0 0 (fr E s.heap.size)) 0 0 D 14 [(0, .ref (E.1 65)), (1, .ref (E.1 1)), (2, .int x2)] []
  | _, _ => True
set_option maxRecDepth 100000 in
set_option maxHeartbeats 4000000 in
theorem bl_X10_costByNearest_0 {p : Program} {l : Launch} {e : Env} {s : State} {m : MethodId} {args : Array Value} {below : List Frame} {meth : Method} {c : Code} {G : va_G} {E : EE} {r : RT} (X : CX p s m args meth c cX10_costByNearest RX10 4 G E) (hr : meth.sig.returnType = (some .int))  (D : DD) (o : (Nat × List Int32 × DD) ⊕ RT) (h : b_X10_costByNearest_0  D = some o) (h1 : ∀ x, o = .inl x → hg_X10_costByNearest p l e s m args below meth c G E r x.1 x.2.1 x.2.2) (h2 : ∀ x, o = .inr x → x = r) : GW p l e (rmm 3) s m args below meth c G E 4 (MQ below (QR G E s.heap.size r) args s 0 0 (fr E s.heap.size)) 0 0 D 0 [(0, .ref (E.1 65)), (1, .ref (E.1 1))] [] := by
  unfold b_X10_costByNearest_0 at h
  refine g_aload_n X 0 (i0 := 0) dX10_costByNearest_0 rfl rfl ?_
  refine g_aload_n X 1 (i0 := 1) dX10_costByNearest_1 rfl rfl ?_
  obtain ⟨D2, e1, h⟩ := cV_s h
  refine g_V X (As := [.ref (E.1 1)]) (rest := []) (c_X10_start l G E  _ _ e1) 65 (wg_65 E _) rfl rfl kv_X10_19 ⟨rfl, rfl⟩ ⟨rfl, hd_X10_start⟩ (⟨Nat.le_of_ble_eq_true rfl, Nat.le_of_ble_eq_true rfl⟩) rfl rfl (Nat.le_of_ble_eq_true rfl) dX10_costByNearest_2 ?_
  refine g_aload_n X 0 (i0 := 0) dX10_costByNearest_5 rfl rfl ?_
  refine g_get X (D := D2) (v := .ref (E.1 67)) (T := TX10) 65 uX10 (wg_65 E _) rfl 1 (by decide) fl_X10_15 rfl rfl dX10_costByNearest_6 ?_
  obtain ⟨D4, e3, h⟩ := cV_s h
  refine g_SN X (As := [.ref (E.1 67)]) (rest := []) (c_X12_clear_tunnels_settled l G E  _ _ e3) wc_X12_clear kn_X10_23 wi_RX12 wt_X12_clear ⟨rfl, rfl⟩ hd_X12_clear (⟨Nat.le_of_ble_eq_true rfl, Nat.le_of_ble_eq_true rfl⟩) rfl rfl (Nat.le_of_ble_eq_true rfl) dX10_costByNearest_9 ?_
  refine g_iconst X (v := (0 : Int32)) dX10_costByNearest_12 (by decide) ?_
  refine g_istore_n X (i0 := 2) (lv' := [(2, .int (0 : Int32)), (0, .ref (E.1 65)), (1, .ref (E.1 1))]) dX10_costByNearest_13 rfl (by decide) rfl ?_
  refine g_sub (lv' := [(0, .ref (E.1 65)), (1, .ref (E.1 1)), (2, .int (0 : Int32))]) [1, 2, 0] rfl ?_
  exact h1 _ (Option.some.inj h).symm
set_option maxRecDepth 100000 in
set_option maxHeartbeats 4000000 in
theorem bl_X10_costByNearest_1 {p : Program} {l : Launch} {e : Env} {s : State} {m : MethodId} {args : Array Value} {below : List Frame} {meth : Method} {c : Code} {G : va_G} {E : EE} {r : RT} (X : CX p s m args meth c cX10_costByNearest RX10 4 G E) (hr : meth.sig.returnType = (some .int)) (x2 : Int32) (D : DD) (o : (Nat × List Int32 × DD) ⊕ RT) (h : b_X10_costByNearest_1 x2 D = some o) (h1 : ∀ x, o = .inl x → hg_X10_costByNearest p l e s m args below meth c G E r x.1 x.2.1 x.2.2) (h2 : ∀ x, o = .inr x → x = r) : GW p l e (rmm 3) s m args below meth c G E 4 (MQ below (QR G E s.heap.size r) args s 0 0 (fr E s.heap.size)) 0 0 D 14 [(0, .ref (E.1 65)), (1, .ref (E.1 1)), (2, .int x2)] [] := by
  unfold b_X10_costByNearest_1 at h
  refine g_iload_n X 2 (i0 := 2) dX10_costByNearest_14 rfl rfl ?_
  refine g_bipush X (v := (36 : Int32)) dX10_costByNearest_15 (by decide) ?_
  refine g_icmp_ge X (tgt := 70) dX10_costByNearest_17 (by decide) (fun c24 => ?_) (fun c24 => ?_)
  · have h := (ite_s h).1 c24
    refine g_aload_n X 0 (i0 := 0) dX10_costByNearest_70 rfl rfl ?_
    obtain ⟨r7, D6, e5, h⟩ := cI_s h
    refine g_V X (As := []) (rest := []) (c_X10_leastAtEnd l G E  _ _ e5) 65 (wg_65 E _) rfl rfl kv_X10_39 ⟨rfl, rfl⟩ ⟨rfl, hd_X10_leastAtEnd⟩ (⟨Nat.le_of_ble_eq_true rfl, Nat.le_of_ble_eq_true rfl⟩) rfl rfl (Nat.le_of_ble_eq_true rfl) dX10_costByNearest_71 ?_
    exact g_iret X hr rfl dX10_costByNearest_74 (h2 _ (Option.some.inj h).symm)
  · have h := (ite_s h).2 c24
    refine g_aload_n X 0 (i0 := 0) dX10_costByNearest_20 rfl rfl ?_
    obtain ⟨r10, D9, e8, h⟩ := cI_s h
    refine g_V X (As := []) (rest := []) (c_X10_nearest l G E  _ _ e8) 65 (wg_65 E _) rfl rfl kv_X10_27 ⟨rfl, rfl⟩ ⟨rfl, hd_X10_nearest⟩ (⟨Nat.le_of_ble_eq_true rfl, Nat.le_of_ble_eq_true rfl⟩) rfl rfl (Nat.le_of_ble_eq_true rfl) dX10_costByNearest_21 ?_
    refine g_istore_n X (i0 := 3) (lv' := [(3, .int r10), (0, .ref (E.1 65)), (1, .ref (E.1 1)), (2, .int x2)]) dX10_costByNearest_24 rfl (by decide) rfl ?_
    refine g_iload_n X 0 (i0 := 3) dX10_costByNearest_25 rfl rfl ?_
    obtain ⟨r13, D12, e11, h⟩ := cI_s h
    refine g_SN X (As := [.int r10]) (rest := []) (c_X12_isCell l G E r10 _ _ e11) wc_X12_isCell kn_X10_31 wi_RX12 wt_X12_isCell ⟨rfl, rfl⟩ hd_X12_isCell (⟨Nat.le_of_ble_eq_true rfl, Nat.le_of_ble_eq_true rfl⟩) rfl rfl (Nat.le_of_ble_eq_true rfl) dX10_costByNearest_26 ?_
    refine g_if_ne X (tgt := 35) dX10_costByNearest_29 (by decide) (fun c23 => ?_) (fun c23 => ?_)
    · have h := (ite_s h).2 c23
      refine g_iload_n X 0 (i0 := 3) dX10_costByNearest_35 rfl rfl ?_
      refine g_bipush X (v := (6 : Int32)) dX10_costByNearest_36 (by decide) ?_
      refine g_irem X (by decide) dX10_costByNearest_38 ?_
      refine g_iconst X (v := (5 : Int32)) dX10_costByNearest_39 (by decide) ?_
      refine g_icmp_ne X (tgt := 50) dX10_costByNearest_40 (by decide) (fun c19 => ?_) (fun c19 => ?_)
      · have h := (ite_s h).2 c19
        refine g_aload_n X 1 (i0 := 0) dX10_costByNearest_50 rfl rfl ?_
        refine g_get X (D := D12) (v := .ref (E.1 67)) (T := TX10) 65 uX10 (wg_65 E _) rfl 1 (by decide) fl_X10_15 rfl rfl dX10_costByNearest_51 ?_
        refine g_iload_n X 0 (i0 := 3) dX10_costByNearest_54 rfl rfl ?_
        refine g_iconst X (v := (1 : Int32)) dX10_costByNearest_55 (by decide) ?_
        obtain ⟨b14, h⟩ := chk_s h
        refine g_zast X (D := D12) (f := (D12.2.2.1 56)) (i := r10) (x := (1 : Int32)) (D' := (setA D12 56 (upd (D12.2.2.1 56) r10.toNatClampNeg (vp_nar .boolean (1 : Int32))))) 67 (wg_67 E _) (inB_vp b14) (ws_A_56 E _ _) dX10_costByNearest_56 ?_
        refine g_aload_n X 1 (i0 := 0) dX10_costByNearest_57 rfl rfl ?_
        refine g_aload_n X 2 (i0 := 1) dX10_costByNearest_58 rfl rfl ?_
        refine g_iload_n X 0 (i0 := 3) dX10_costByNearest_59 rfl rfl ?_
        obtain ⟨r17, D16, e15, h⟩ := cI_s h
        refine g_V X (As := [.ref (E.1 1), .int r10]) (rest := []) (c_X10_goOn l G E r10 _ _ e15) 65 (wg_65 E _) rfl rfl kv_X10_35 ⟨rfl, rfl⟩ ⟨rfl, hd_X10_goOn⟩ (⟨Nat.le_of_ble_eq_true rfl, Nat.le_of_ble_eq_true rfl⟩) rfl rfl (Nat.le_of_ble_eq_true rfl) dX10_costByNearest_60 ?_
        refine g_pop X dX10_costByNearest_63 rfl ?_
        refine g_iinc X 3 (v := (x2 + (1 : Int32))) (lv' := [(2, .int (x2 + (1 : Int32))), (3, .int r10), (0, .ref (E.1 65)), (1, .ref (E.1 1))]) dX10_costByNearest_64 rfl rfl (by decide) rfl ?_
        refine g_goto X (tgt := 14) dX10_costByNearest_67 (by decide) ?_
        refine g_sub (lv' := [(0, .ref (E.1 65)), (1, .ref (E.1 1)), (2, .int (x2 + (1 : Int32)))]) [2, 3, 0] rfl ?_
        exact h1 _ (Option.some.inj h).symm
      · have h := (ite_s h).1 c19
        refine g_aload_n X 1 (i0 := 0) dX10_costByNearest_43 rfl rfl ?_
        refine g_get X (D := D12) (v := .ref (E.1 66)) (T := TX10) 65 uX10 (wg_65 E _) rfl 0 (by decide) fl_X10_9 rfl rfl dX10_costByNearest_44 ?_
        refine g_iload_n X 0 (i0 := 3) dX10_costByNearest_47 rfl rfl ?_
        obtain ⟨b18, h⟩ := chk_s h
        refine g_iald X (D := D12) (f := (D12.2.2.1 55)) (i := r10) 66 (wg_66 E _) (inB_vp b18) dX10_costByNearest_48 ?_
        exact g_iret X hr rfl dX10_costByNearest_49 (h2 _ (Option.some.inj h).symm)
    · have h := (ite_s h).1 c23
      refine g_goto X (tgt := 70) dX10_costByNearest_32 (by decide) ?_
      refine g_aload_n X 1 (i0 := 0) dX10_costByNearest_70 rfl rfl ?_
      obtain ⟨r22, D21, e20, h⟩ := cI_s h
      refine g_V X (As := []) (rest := []) (c_X10_leastAtEnd l G E  _ _ e20) 65 (wg_65 E _) rfl rfl kv_X10_39 ⟨rfl, rfl⟩ ⟨rfl, hd_X10_leastAtEnd⟩ (⟨Nat.le_of_ble_eq_true rfl, Nat.le_of_ble_eq_true rfl⟩) rfl rfl (Nat.le_of_ble_eq_true rfl) dX10_costByNearest_71 ?_
      exact g_iret X hr rfl dX10_costByNearest_74 (h2 _ (Option.some.inj h).symm)
set_option maxRecDepth 100000 in
set_option maxHeartbeats 4000000 in
theorem c_X10_costByNearest (l : Launch) (G : va_G) (E : EE)  (D : DD) (r : RT) (h : S_X10_costByNearest  D = some r) : MM l G E yX10_costByNearest cX10_costByNearest 4 (some .int) (rmm 3) [.ref (E.1 65), .ref (E.1 1)] D r := by
  unfold S_X10_costByNearest at h
  refine m_of rfl (Nat.le_of_ble_eq_true rfl) ?_
  intro p e s m args below meth c X hr
  exact run_G (T := T_X10_costByNearest) (HG := hg_X10_costByNearest p l e s m args below meth c G E r) (by
    intro k ls D o hT h1 h2
    unfold T_X10_costByNearest at hT
    split at hT
    · exact bl_X10_costByNearest_0 X hr  D o hT h1 h2
    · exact bl_X10_costByNearest_1 X hr _ D o hT h1 h2
    · cases hT) FUEL 0 [] D h
def b_X10_costByRounds_0  (D : DD) : Option ((Nat × List Int32 × DD) ⊕ RT) := (cV (S_X10_start D) (fun D2 => some (.inl (1, [(1 : Int32), (0 : Int32)], D2))))
def b_X10_costByRounds_1 (x2 : Int32) (x3 : Int32) (D : DD) : Option ((Nat × List Int32 × DD) ⊕ RT) := (if (36 : Int32) ≤ x3 then (cI (S_X10_leastAtEnd D) (fun r5 D4 => some (.inr (0, some (.int r5), D4)))) else (if x2 = 0 then (cI (S_X10_leastAtEnd D) (fun r8 D7 => some (.inr (0, some (.int r8), D7)))) else some (.inl (2, [(0 : Int32), x3, (0 : Int32)], D))))
def b_X10_costByRounds_2 (x2 : Int32) (x3 : Int32) (x4 : Int32) (D : DD) : Option ((Nat × List Int32 × DD) ⊕ RT) := (if (36 : Int32) ≤ x4 then some (.inl (1, [x2, (x3 + (1 : Int32))], D)) else (cI (S_X10_goOn x4 D) (fun r13 D12 => (if r13 = 0 then (if x2 = 0 then some (.inl (2, [(0 : Int32), x3, (x4 + (1 : Int32))], D12)) else some (.inl (2, [(1 : Int32), x3, (x4 + (1 : Int32))], D12))) else some (.inl (2, [(1 : Int32), x3, (x4 + (1 : Int32))], D12))))))
def T_X10_costByRounds (k : Nat) (ls : List Int32) (D : DD) : Option ((Nat × List Int32 × DD) ⊕ RT) := match k, ls with
  | 0, [] => b_X10_costByRounds_0  D
  | 1, [x2, x3] => b_X10_costByRounds_1 x2 x3 D
  | 2, [x2, x3, x4] => b_X10_costByRounds_2 x2 x3 x4 D
  | _, _ => none
def S_X10_costByRounds  (D : DD) : Option RT := run T_X10_costByRounds FUEL 0 [] D
def hg_X10_costByRounds (p : Program) (l : Launch) (e : Env) (s : State) (m : MethodId) (args : Array Value) (below : List Frame) (meth : Method) (c : Code) (G : va_G) (E : EE) (r : RT) (k : Nat) (ls : List Int32) (D : DD) : Prop := match k, ls with
  | 0, [] => GW p l e (rmm 3) s m args below meth c G E 5 (MQ below (QR G E s.heap.size r) args s 0 0 (fr E s.heap.size)) 0 0 D 0 [(0, .ref (E.1 65)), (1, .ref (E.1 1))] []
  | 1, [x2, x3] => GW p l e (rmm 3) s m args below meth c G E 5 (MQ below (QR G E s.heap.size r) args s 0 0 (fr E s.heap.size)) 0 0 D 9 [(0, .ref (E.1 65)), (1, .ref (E.1 1)), (2, .int x2), (3, .int x3)] []
  | 2, [x2, x3, x4] => GW p l e (rmm 3) s m args below meth c G E 5 (MQ below (QR G E s.heap.size r) args s 0 0 (fr E s.heap.size)) 0 0 D 24 [(0, .ref (E.1 65)), (1, .ref (E.1 1)), (2, .int x2), (3, .int x3), (4, .int x4)] []
  | _, _ => True
set_option maxRecDepth 100000 in
set_option maxHeartbeats 4000000 in
theorem bl_X10_costByRounds_0 {p : Program} {l : Launch} {e : Env} {s : State} {m : MethodId} {args : Array Value} {below : List Frame} {meth : Method} {c : Code} {G : va_G} {E : EE} {r : RT} (X : CX p s m args meth c cX10_costByRounds RX10 5 G E) (hr : meth.sig.returnType = (some .int))  (D : DD) (o : (Nat × List Int32 × DD) ⊕ RT) (h : b_X10_costByRounds_0  D = some o) (h1 : ∀ x, o = .inl x → hg_X10_costByRounds p l e s m args below meth c G E r x.1 x.2.1 x.2.2) (h2 : ∀ x, o = .inr x → x = r) : GW p l e (rmm 3) s m args below meth c G E 5 (MQ below (QR G E s.heap.size r) args s 0 0 (fr E s.heap.size)) 0 0 D 0 [(0, .ref (E.1 65)), (1, .ref (E.1 1))] [] := by
  unfold b_X10_costByRounds_0 at h
  refine g_aload_n X 0 (i0 := 0) dX10_costByRounds_0 rfl rfl ?_
  refine g_aload_n X 1 (i0 := 1) dX10_costByRounds_1 rfl rfl ?_
  obtain ⟨D2, e1, h⟩ := cV_s h
  refine g_V X (As := [.ref (E.1 1)]) (rest := []) (c_X10_start l G E  _ _ e1) 65 (wg_65 E _) rfl rfl kv_X10_19 ⟨rfl, rfl⟩ ⟨rfl, hd_X10_start⟩ (⟨Nat.le_of_ble_eq_true rfl, Nat.le_of_ble_eq_true rfl⟩) rfl rfl (Nat.le_of_ble_eq_true rfl) dX10_costByRounds_2 ?_
  refine g_iconst X (v := (1 : Int32)) dX10_costByRounds_5 (by decide) ?_
  refine g_istore_n X (i0 := 2) (lv' := [(2, .int (1 : Int32)), (0, .ref (E.1 65)), (1, .ref (E.1 1))]) dX10_costByRounds_6 rfl (by decide) rfl ?_
  refine g_iconst X (v := (0 : Int32)) dX10_costByRounds_7 (by decide) ?_
  refine g_istore_n X (i0 := 3) (lv' := [(3, .int (0 : Int32)), (2, .int (1 : Int32)), (0, .ref (E.1 65)), (1, .ref (E.1 1))]) dX10_costByRounds_8 rfl (by decide) rfl ?_
  refine g_sub (lv' := [(0, .ref (E.1 65)), (1, .ref (E.1 1)), (2, .int (1 : Int32)), (3, .int (0 : Int32))]) [2, 3, 1, 0] rfl ?_
  exact h1 _ (Option.some.inj h).symm
set_option maxRecDepth 100000 in
set_option maxHeartbeats 4000000 in
theorem bl_X10_costByRounds_1 {p : Program} {l : Launch} {e : Env} {s : State} {m : MethodId} {args : Array Value} {below : List Frame} {meth : Method} {c : Code} {G : va_G} {E : EE} {r : RT} (X : CX p s m args meth c cX10_costByRounds RX10 5 G E) (hr : meth.sig.returnType = (some .int)) (x2 : Int32) (x3 : Int32) (D : DD) (o : (Nat × List Int32 × DD) ⊕ RT) (h : b_X10_costByRounds_1 x2 x3 D = some o) (h1 : ∀ x, o = .inl x → hg_X10_costByRounds p l e s m args below meth c G E r x.1 x.2.1 x.2.2) (h2 : ∀ x, o = .inr x → x = r) : GW p l e (rmm 3) s m args below meth c G E 5 (MQ below (QR G E s.heap.size r) args s 0 0 (fr E s.heap.size)) 0 0 D 9 [(0, .ref (E.1 65)), (1, .ref (E.1 1)), (2, .int x2), (3, .int x3)] [] := by
  unfold b_X10_costByRounds_1 at h
  refine g_iload_n X 3 (i0 := 3) dX10_costByRounds_9 rfl rfl ?_
  refine g_bipush X (v := (36 : Int32)) dX10_costByRounds_10 (by decide) ?_
  refine g_icmp_ge X (tgt := 63) dX10_costByRounds_12 (by decide) (fun c10 => ?_) (fun c10 => ?_)
  · have h := (ite_s h).1 c10
    refine g_aload_n X 0 (i0 := 0) dX10_costByRounds_63 rfl rfl ?_
    obtain ⟨r5, D4, e3, h⟩ := cI_s h
    refine g_V X (As := []) (rest := []) (c_X10_leastAtEnd l G E  _ _ e3) 65 (wg_65 E _) rfl rfl kv_X10_39 ⟨rfl, rfl⟩ ⟨rfl, hd_X10_leastAtEnd⟩ (⟨Nat.le_of_ble_eq_true rfl, Nat.le_of_ble_eq_true rfl⟩) rfl rfl (Nat.le_of_ble_eq_true rfl) dX10_costByRounds_64 ?_
    exact g_iret X hr rfl dX10_costByRounds_67 (h2 _ (Option.some.inj h).symm)
  · have h := (ite_s h).2 c10
    refine g_iload_n X 2 (i0 := 2) dX10_costByRounds_15 rfl rfl ?_
    refine g_if_eq X (tgt := 63) dX10_costByRounds_16 (by decide) (fun c9 => ?_) (fun c9 => ?_)
    · have h := (ite_s h).1 c9
      refine g_aload_n X 0 (i0 := 0) dX10_costByRounds_63 rfl rfl ?_
      obtain ⟨r8, D7, e6, h⟩ := cI_s h
      refine g_V X (As := []) (rest := []) (c_X10_leastAtEnd l G E  _ _ e6) 65 (wg_65 E _) rfl rfl kv_X10_39 ⟨rfl, rfl⟩ ⟨rfl, hd_X10_leastAtEnd⟩ (⟨Nat.le_of_ble_eq_true rfl, Nat.le_of_ble_eq_true rfl⟩) rfl rfl (Nat.le_of_ble_eq_true rfl) dX10_costByRounds_64 ?_
      exact g_iret X hr rfl dX10_costByRounds_67 (h2 _ (Option.some.inj h).symm)
    · have h := (ite_s h).2 c9
      refine g_iconst X (v := (0 : Int32)) dX10_costByRounds_19 (by decide) ?_
      refine g_istore_n X (i0 := 2) (lv' := [(2, .int (0 : Int32)), (0, .ref (E.1 65)), (1, .ref (E.1 1)), (3, .int x3)]) dX10_costByRounds_20 rfl (by decide) rfl ?_
      refine g_iconst X (v := (0 : Int32)) dX10_costByRounds_21 (by decide) ?_
      refine g_istore X (lv' := [(4, .int (0 : Int32)), (2, .int (0 : Int32)), (0, .ref (E.1 65)), (1, .ref (E.1 1)), (3, .int x3)]) dX10_costByRounds_22 (by decide) rfl ?_
      refine g_sub (lv' := [(0, .ref (E.1 65)), (1, .ref (E.1 1)), (2, .int (0 : Int32)), (3, .int x3), (4, .int (0 : Int32))]) [2, 3, 1, 4, 0] rfl ?_
      exact h1 _ (Option.some.inj h).symm
set_option maxRecDepth 100000 in
set_option maxHeartbeats 4000000 in
theorem bl_X10_costByRounds_2 {p : Program} {l : Launch} {e : Env} {s : State} {m : MethodId} {args : Array Value} {below : List Frame} {meth : Method} {c : Code} {G : va_G} {E : EE} {r : RT} (X : CX p s m args meth c cX10_costByRounds RX10 5 G E) (hr : meth.sig.returnType = (some .int)) (x2 : Int32) (x3 : Int32) (x4 : Int32) (D : DD) (o : (Nat × List Int32 × DD) ⊕ RT) (h : b_X10_costByRounds_2 x2 x3 x4 D = some o) (h1 : ∀ x, o = .inl x → hg_X10_costByRounds p l e s m args below meth c G E r x.1 x.2.1 x.2.2) (h2 : ∀ x, o = .inr x → x = r) : GW p l e (rmm 3) s m args below meth c G E 5 (MQ below (QR G E s.heap.size r) args s 0 0 (fr E s.heap.size)) 0 0 D 24 [(0, .ref (E.1 65)), (1, .ref (E.1 1)), (2, .int x2), (3, .int x3), (4, .int x4)] [] := by
  unfold b_X10_costByRounds_2 at h
  refine g_iload X 4 dX10_costByRounds_24 rfl ?_
  refine g_bipush X (v := (36 : Int32)) dX10_costByRounds_26 (by decide) ?_
  refine g_icmp_ge X (tgt := 57) dX10_costByRounds_28 (by decide) (fun c16 => ?_) (fun c16 => ?_)
  · have h := (ite_s h).1 c16
    refine g_iinc X 3 (v := (x3 + (1 : Int32))) (lv' := [(3, .int (x3 + (1 : Int32))), (0, .ref (E.1 65)), (1, .ref (E.1 1)), (2, .int x2), (4, .int x4)]) dX10_costByRounds_57 rfl rfl (by decide) rfl ?_
    refine g_goto X (tgt := 9) dX10_costByRounds_60 (by decide) ?_
    refine g_sub (lv' := [(0, .ref (E.1 65)), (1, .ref (E.1 1)), (2, .int x2), (3, .int (x3 + (1 : Int32)))]) [1, 2, 3, 0] rfl ?_
    exact h1 _ (Option.some.inj h).symm
  · have h := (ite_s h).2 c16
    refine g_aload_n X 0 (i0 := 0) dX10_costByRounds_31 rfl rfl ?_
    refine g_aload_n X 1 (i0 := 1) dX10_costByRounds_32 rfl rfl ?_
    refine g_iload X 4 dX10_costByRounds_33 rfl ?_
    obtain ⟨r13, D12, e11, h⟩ := cI_s h
    refine g_V X (As := [.ref (E.1 1), .int x4]) (rest := []) (c_X10_goOn l G E x4 _ _ e11) 65 (wg_65 E _) rfl rfl kv_X10_35 ⟨rfl, rfl⟩ ⟨rfl, hd_X10_goOn⟩ (⟨Nat.le_of_ble_eq_true rfl, Nat.le_of_ble_eq_true rfl⟩) rfl rfl (Nat.le_of_ble_eq_true rfl) dX10_costByRounds_35 ?_
    refine g_if_ne X (tgt := 45) dX10_costByRounds_38 (by decide) (fun c15 => ?_) (fun c15 => ?_)
    · have h := (ite_s h).2 c15
      refine g_iconst X (v := (1 : Int32)) dX10_costByRounds_45 (by decide) ?_
      refine g_goto X (tgt := 50) dX10_costByRounds_46 (by decide) ?_
      refine g_istore_n X (i0 := 2) (lv' := [(2, .int (1 : Int32)), (0, .ref (E.1 65)), (1, .ref (E.1 1)), (3, .int x3), (4, .int x4)]) dX10_costByRounds_50 rfl (by decide) rfl ?_
      refine g_iinc X 4 (v := (x4 + (1 : Int32))) (lv' := [(4, .int (x4 + (1 : Int32))), (2, .int (1 : Int32)), (0, .ref (E.1 65)), (1, .ref (E.1 1)), (3, .int x3)]) dX10_costByRounds_51 rfl rfl (by decide) rfl ?_
      refine g_goto X (tgt := 24) dX10_costByRounds_54 (by decide) ?_
      refine g_sub (lv' := [(0, .ref (E.1 65)), (1, .ref (E.1 1)), (2, .int (1 : Int32)), (3, .int x3), (4, .int (x4 + (1 : Int32)))]) [2, 3, 1, 4, 0] rfl ?_
      exact h1 _ (Option.some.inj h).symm
    · have h := (ite_s h).1 c15
      refine g_iload_n X 2 (i0 := 2) dX10_costByRounds_41 rfl rfl ?_
      refine g_if_eq X (tgt := 49) dX10_costByRounds_42 (by decide) (fun c14 => ?_) (fun c14 => ?_)
      · have h := (ite_s h).1 c14
        refine g_iconst X (v := (0 : Int32)) dX10_costByRounds_49 (by decide) ?_
        refine g_istore_n X (i0 := 2) (lv' := [(2, .int (0 : Int32)), (0, .ref (E.1 65)), (1, .ref (E.1 1)), (3, .int x3), (4, .int x4)]) dX10_costByRounds_50 rfl (by decide) rfl ?_
        refine g_iinc X 4 (v := (x4 + (1 : Int32))) (lv' := [(4, .int (x4 + (1 : Int32))), (2, .int (0 : Int32)), (0, .ref (E.1 65)), (1, .ref (E.1 1)), (3, .int x3)]) dX10_costByRounds_51 rfl rfl (by decide) rfl ?_
        refine g_goto X (tgt := 24) dX10_costByRounds_54 (by decide) ?_
        refine g_sub (lv' := [(0, .ref (E.1 65)), (1, .ref (E.1 1)), (2, .int (0 : Int32)), (3, .int x3), (4, .int (x4 + (1 : Int32)))]) [2, 3, 1, 4, 0] rfl ?_
        exact h1 _ (Option.some.inj h).symm
      · have h := (ite_s h).2 c14
        refine g_iconst X (v := (1 : Int32)) dX10_costByRounds_45 (by decide) ?_
        refine g_goto X (tgt := 50) dX10_costByRounds_46 (by decide) ?_
        refine g_istore_n X (i0 := 2) (lv' := [(2, .int (1 : Int32)), (0, .ref (E.1 65)), (1, .ref (E.1 1)), (3, .int x3), (4, .int x4)]) dX10_costByRounds_50 rfl (by decide) rfl ?_
        refine g_iinc X 4 (v := (x4 + (1 : Int32))) (lv' := [(4, .int (x4 + (1 : Int32))), (2, .int (1 : Int32)), (0, .ref (E.1 65)), (1, .ref (E.1 1)), (3, .int x3)]) dX10_costByRounds_51 rfl rfl (by decide) rfl ?_
        refine g_goto X (tgt := 24) dX10_costByRounds_54 (by decide) ?_
        refine g_sub (lv' := [(0, .ref (E.1 65)), (1, .ref (E.1 1)), (2, .int (1 : Int32)), (3, .int x3), (4, .int (x4 + (1 : Int32)))]) [2, 3, 1, 4, 0] rfl ?_
        exact h1 _ (Option.some.inj h).symm
set_option maxRecDepth 100000 in
set_option maxHeartbeats 4000000 in
theorem c_X10_costByRounds (l : Launch) (G : va_G) (E : EE)  (D : DD) (r : RT) (h : S_X10_costByRounds  D = some r) : MM l G E yX10_costByRounds cX10_costByRounds 5 (some .int) (rmm 3) [.ref (E.1 65), .ref (E.1 1)] D r := by
  unfold S_X10_costByRounds at h
  refine m_of rfl (Nat.le_of_ble_eq_true rfl) ?_
  intro p e s m args below meth c X hr
  exact run_G (T := T_X10_costByRounds) (HG := hg_X10_costByRounds p l e s m args below meth c G E r) (by
    intro k ls D o hT h1 h2
    unfold T_X10_costByRounds at hT
    split at hT
    · exact bl_X10_costByRounds_0 X hr  D o hT h1 h2
    · exact bl_X10_costByRounds_1 X hr _ _ D o hT h1 h2
    · exact bl_X10_costByRounds_2 X hr _ _ _ D o hT h1 h2
    · cases hT) FUEL 0 [] D h
theorem fl_X11_15 : Cond.fieldLink RX11 15 "StoneQuarry$Veins" "order" "[I" ∈ UT := ut 184 (by decide +kernel) (by decide +kernel)
theorem fl_X11_33 : Cond.fieldLink RX11 33 "StoneQuarry$Veins" "foundCount" "I" ∈ UT := ut 185 (by decide +kernel) (by decide +kernel)
theorem fl_X11_9 : Cond.fieldLink RX11 9 "StoneQuarry$Veins" "found" "[Z" ∈ UT := ut 183 (by decide +kernel) (by decide +kernel)
theorem kn_X11_49 : Cond.methodLinkNest RX11 49 yX12_isCell "StoneQuarry" ∈ NEST := nst 838 (by decide +kernel) rfl
theorem kn_X11_53 : Cond.methodLinkNest RX11 53 yX12_inRange "StoneQuarry" ∈ NEST := nst 839 (by decide +kernel) rfl
theorem uX11 : ∀ w ∈ wsX110, w ∈ UT := ut_all (by decide +kernel) (by decide +kernel)
theorem wg_58 (E : EE) (D : DD) : (wd E D)[58]? = some (E.1 58, .inr (11, [.ref (E.1 59), .ref (E.1 60), .int (D.1 125)])) := rfl
theorem wg_59 (E : EE) (D : DD) : (wd E D)[59]? = some (E.1 59, .inl (E.2 1, 36, .inl (D.2.2.1 50))) := rfl
theorem wg_60 (E : EE) (D : DD) : (wd E D)[60]? = some (E.1 60, .inl (E.2 0, 36, .inl (D.2.2.1 51))) := rfl
theorem ws_A_50 (E : EE) (D : DD) (f : Nat → Int32) : (wd E D).set 59 (E.1 59, .inl (E.2 1, 36, .inl f)) = wd E (setA D 50 f) := rfl
theorem ws_A_51 (E : EE) (D : DD) (f : Nat → Int32) : (wd E D).set 60 (E.1 60, .inl (E.2 0, 36, .inl f)) = wd E (setA D 51 f) := rfl
theorem ws_I_125 (E : EE) (D : DD) (v : Int32) : (wd E D).set 58 (E.1 58, .inr (11, [.ref (E.1 59), .ref (E.1 60), .int v])) = wd E (setI D 125 v) := rfl
def S_X11_add (a0 : Int32) (D : DD) : Option RT := (cI (S_X12_isCell a0 D) (fun r3 D2 => (if r3 = 0 then some (0, none, D2) else (if inB a0 36 = true then (if ((D2.2.2.1 50) a0.toNatClampNeg) = 0 then (cI (S_X12_inRange (D2.1 125) (0 : Int32) (35 : Int32) D2) (fun r7 D6 => (if r7 = 0 then some (0, none, D6) else (if inB a0 36 = true then (if inB (D6.1 125) 36 = true then some (0, none, (setI (setA (setA D6 50 (upd (D6.2.2.1 50) a0.toNatClampNeg (vp_nar .boolean (1 : Int32)))) 51 (upd (D6.2.2.1 51) (D6.1 125).toNatClampNeg a0)) 125 ((D6.1 125) + (1 : Int32)))) else none) else none)))) else some (0, none, D2)) else none))))
set_option maxRecDepth 100000 in
set_option maxHeartbeats 4000000 in
theorem c_X11_add (l : Launch) (G : va_G) (E : EE) (a0 : Int32) (D : DD) (r : RT) (h : S_X11_add a0 D = some r) : MM l G E yX11_add cX11_add 2 none (rmm 1) [.ref (E.1 58), .int a0] D r := by
  refine m_of rfl (Nat.le_of_ble_eq_true rfl) ?_
  intro p e s m args below meth c X hr
  unfold S_X11_add at h
  refine g_iload_n X 1 (i0 := 1) dX11_add_0 rfl rfl ?_
  obtain ⟨r3, D2, e1, h⟩ := cI_s h
  refine g_SN X (As := [.int a0]) (rest := []) (c_X12_isCell l G E a0 _ _ e1) wc_X12_isCell kn_X11_49 wi_RX12 wt_X12_isCell ⟨rfl, rfl⟩ hd_X12_isCell (⟨Nat.le_of_ble_eq_true rfl, Nat.le_of_ble_eq_true rfl⟩) rfl rfl (Nat.le_of_ble_eq_true rfl) dX11_add_1 ?_
  refine g_if_eq X (tgt := 56) dX11_add_4 (by decide) (fun c12 => ?_) (fun c12 => ?_)
  · have h := (ite_s h).1 c12
    exact g_vret X hr dX11_add_56 (Option.some.inj h)
  · have h := (ite_s h).2 c12
    refine g_aload_n X 0 (i0 := 0) dX11_add_7 rfl rfl ?_
    refine g_get X (D := D2) (v := .ref (E.1 59)) (T := TX11) 58 uX11 (wg_58 E _) rfl 0 (by decide) fl_X11_9 rfl rfl dX11_add_8 ?_
    refine g_iload_n X 1 (i0 := 1) dX11_add_11 rfl rfl ?_
    obtain ⟨b4, h⟩ := chk_s h
    refine g_zald X (D := D2) (f := (D2.2.2.1 50)) (i := a0) 59 (wg_59 E _) (inB_vp b4) dX11_add_12 ?_
    refine g_if_ne X (tgt := 56) dX11_add_13 (by decide) (fun c11 => ?_) (fun c11 => ?_)
    · have h := (ite_s h).2 c11
      exact g_vret X hr dX11_add_56 (Option.some.inj h)
    · have h := (ite_s h).1 c11
      refine g_aload_n X 0 (i0 := 0) dX11_add_16 rfl rfl ?_
      refine g_get X (D := D2) (v := .int (D2.1 125)) (T := TX11) 58 uX11 (wg_58 E _) rfl 2 (by decide) fl_X11_33 rfl rfl dX11_add_17 ?_
      refine g_iconst X (v := (0 : Int32)) dX11_add_20 (by decide) ?_
      refine g_bipush X (v := (35 : Int32)) dX11_add_21 (by decide) ?_
      obtain ⟨r7, D6, e5, h⟩ := cI_s h
      refine g_SN X (As := [.int (D2.1 125), .int (0 : Int32), .int (35 : Int32)]) (rest := []) (c_X12_inRange l G E (D2.1 125) (0 : Int32) (35 : Int32) _ _ e5) wc_X12_inRange kn_X11_53 wi_RX12 wt_X12_inRange ⟨rfl, rfl⟩ hd_X12_inRange (⟨Nat.le_of_ble_eq_true rfl, Nat.le_of_ble_eq_true rfl⟩) rfl rfl (Nat.le_of_ble_eq_true rfl) dX11_add_23 ?_
      refine g_if_eq X (tgt := 56) dX11_add_26 (by decide) (fun c10 => ?_) (fun c10 => ?_)
      · have h := (ite_s h).1 c10
        exact g_vret X hr dX11_add_56 (Option.some.inj h)
      · have h := (ite_s h).2 c10
        refine g_aload_n X 0 (i0 := 0) dX11_add_29 rfl rfl ?_
        refine g_get X (D := D6) (v := .ref (E.1 59)) (T := TX11) 58 uX11 (wg_58 E _) rfl 0 (by decide) fl_X11_9 rfl rfl dX11_add_30 ?_
        refine g_iload_n X 1 (i0 := 1) dX11_add_33 rfl rfl ?_
        refine g_iconst X (v := (1 : Int32)) dX11_add_34 (by decide) ?_
        obtain ⟨b8, h⟩ := chk_s h
        refine g_zast X (D := D6) (f := (D6.2.2.1 50)) (i := a0) (x := (1 : Int32)) (D' := (setA D6 50 (upd (D6.2.2.1 50) a0.toNatClampNeg (vp_nar .boolean (1 : Int32))))) 59 (wg_59 E _) (inB_vp b8) (ws_A_50 E _ _) dX11_add_35 ?_
        refine g_aload_n X 0 (i0 := 0) dX11_add_36 rfl rfl ?_
        refine g_get X (D := (setA D6 50 (upd (D6.2.2.1 50) a0.toNatClampNeg (vp_nar .boolean (1 : Int32))))) (v := .ref (E.1 60)) (T := TX11) 58 uX11 (wg_58 E _) rfl 1 (by decide) fl_X11_15 rfl rfl dX11_add_37 ?_
        refine g_aload_n X 0 (i0 := 0) dX11_add_40 rfl rfl ?_
        refine g_get X (D := (setA D6 50 (upd (D6.2.2.1 50) a0.toNatClampNeg (vp_nar .boolean (1 : Int32))))) (v := .int (D6.1 125)) (T := TX11) 58 uX11 (wg_58 E _) rfl 2 (by decide) fl_X11_33 rfl rfl dX11_add_41 ?_
        refine g_iload_n X 1 (i0 := 1) dX11_add_44 rfl rfl ?_
        obtain ⟨b9, h⟩ := chk_s h
        refine g_iast X (D := (setA D6 50 (upd (D6.2.2.1 50) a0.toNatClampNeg (vp_nar .boolean (1 : Int32))))) (f := (D6.2.2.1 51)) (i := (D6.1 125)) (x := a0) (D' := (setA (setA D6 50 (upd (D6.2.2.1 50) a0.toNatClampNeg (vp_nar .boolean (1 : Int32)))) 51 (upd (D6.2.2.1 51) (D6.1 125).toNatClampNeg a0))) 60 (wg_60 E _) (inB_vp b9) (ws_A_51 E _ _) dX11_add_45 ?_
        refine g_aload_n X 0 (i0 := 0) dX11_add_46 rfl rfl ?_
        refine g_dup X dX11_add_47 rfl ?_
        refine g_get X (D := (setA (setA D6 50 (upd (D6.2.2.1 50) a0.toNatClampNeg (vp_nar .boolean (1 : Int32)))) 51 (upd (D6.2.2.1 51) (D6.1 125).toNatClampNeg a0))) (v := .int (D6.1 125)) (T := TX11) 58 uX11 (wg_58 E _) rfl 2 (by decide) fl_X11_33 rfl rfl dX11_add_48 ?_
        refine g_iconst X (v := (1 : Int32)) dX11_add_51 (by decide) ?_
        refine g_iadd X dX11_add_52 ?_
        refine g_put X (D := (setA (setA D6 50 (upd (D6.2.2.1 50) a0.toNatClampNeg (vp_nar .boolean (1 : Int32)))) 51 (upd (D6.2.2.1 51) (D6.1 125).toNatClampNeg a0))) (v := .int ((D6.1 125) + (1 : Int32))) (T := TX11) (D' := (setI (setA (setA D6 50 (upd (D6.2.2.1 50) a0.toNatClampNeg (vp_nar .boolean (1 : Int32)))) 51 (upd (D6.2.2.1 51) (D6.1 125).toNatClampNeg a0)) 125 ((D6.1 125) + (1 : Int32)))) 58 uX11 tyX11 tyX11_ok nmX11 (wg_58 E _) rfl 2 (by decide) fl_X11_33 rfl rfl rfl rfl (Nat.le_of_ble_eq_true rfl) (ws_I_125 E _ _) dX11_add_53 ?_
        exact g_vret X hr dX11_add_56 (Option.some.inj h)
theorem hd_X11_add : yX11_add.cls ≠ "java/lang/invoke/MethodHandle" ∧ yX11_add.cls ≠ "java/lang/invoke/VarHandle" ∧ (parseMethodDescriptor yX11_add.desc).map (fun d => d.parameters.length) = some 1 := by decide +kernel
theorem kn_X11_45 : Cond.methodLinkNest RX11 45 yX12_neighbourOf "StoneQuarry" ∈ NEST := nst 844 (by decide +kernel) rfl
theorem kv_X11_27 : GoodIn UT (wsV RX11 27 RX8 yX8_hardnessAt (Cond.code yX8_hardnessAt cX8_hardnessAt 2 (some .int) :: UT)) := gu_V (ut 829 (by decide +kernel) (by decide +kernel)) wm_X8_hardnessAt we_X8_hardnessAt wi_RX8 wc_X8_hardnessAt
theorem wc_X11_add : Cond.code yX11_add cX11_add 2 none ∈ UT := ut 837 (by decide +kernel) (by decide +kernel)
theorem we_X11_add : Cond.selects RX11 yX11_add yX11_add ∈ UT := ut 22 (by decide +kernel) (by decide +kernel)
theorem wi_RX11 : Cond.initialized RX11 ∈ UT := ut 79 (by decide +kernel) (by decide +kernel)
theorem wm_X11_add : Cond.instanceMethod yX11_add ∈ UT := ut 836 (by decide +kernel) (by decide +kernel)
theorem kv_X11_37 : GoodIn UT (wsV RX11 37 RX11 yX11_add (Cond.code yX11_add cX11_add 2 none :: UT)) := gu_V (ut 834 (by decide +kernel) (by decide +kernel)) wm_X11_add we_X11_add wi_RX11 wc_X11_add
def b_X11_addEqualNeighbours_0 (a1 : Int32) (D : DD) : Option ((Nat × List Int32 × DD) ⊕ RT) := some (.inl (1, [a1, (0 : Int32)], D))
def b_X11_addEqualNeighbours_1 (x2 : Int32) (x3 : Int32) (D : DD) : Option ((Nat × List Int32 × DD) ⊕ RT) := (if (4 : Int32) ≤ x3 then some (.inr (0, none, D)) else (cI (S_X12_neighbourOf x2 x3 D) (fun r3 D2 => (if r3 = (-1 : Int32) then some (.inl (1, [x2, (x3 + (1 : Int32))], D2)) else (cI (S_X8_hardnessAt r3 D2) (fun r6 D5 => (cI (S_X8_hardnessAt x2 D5) (fun r9 D8 => (if r6 = r9 then (cV (S_X11_add r3 D8) (fun D11 => some (.inl (1, [x2, (x3 + (1 : Int32))], D11)))) else some (.inl (1, [x2, (x3 + (1 : Int32))], D8)))))))))))
def T_X11_addEqualNeighbours (k : Nat) (ls : List Int32) (D : DD) : Option ((Nat × List Int32 × DD) ⊕ RT) := match k, ls with
  | 0, [a1] => b_X11_addEqualNeighbours_0 a1 D
  | 1, [x2, x3] => b_X11_addEqualNeighbours_1 x2 x3 D
  | _, _ => none
def S_X11_addEqualNeighbours (a1 : Int32) (D : DD) : Option RT := run T_X11_addEqualNeighbours FUEL 0 [a1] D
def hg_X11_addEqualNeighbours (p : Program) (l : Launch) (e : Env) (s : State) (m : MethodId) (args : Array Value) (below : List Frame) (meth : Method) (c : Code) (G : va_G) (E : EE) (r : RT) (k : Nat) (ls : List Int32) (D : DD) : Prop := match k, ls with
  | 0, [a1] => GW p l e (rmm 2) s m args below meth c G E 5 (MQ below (QR G E s.heap.size r) args s 0 0 (fr E s.heap.size)) 0 0 D 0 [(0, .ref (E.1 58)), (1, .ref (E.1 1)), (2, .int a1)] []
  | 1, [x2, x3] => GW p l e (rmm 2) s m args below meth c G E 5 (MQ below (QR G E s.heap.size r) args s 0 0 (fr E s.heap.size)) 0 0 D 2 [(0, .ref (E.1 58)), (1, .ref (E.1 1)), (2, .int x2), (3, .int x3)] []
  | _, _ => True
set_option maxRecDepth 100000 in
set_option maxHeartbeats 4000000 in
theorem bl_X11_addEqualNeighbours_0 {p : Program} {l : Launch} {e : Env} {s : State} {m : MethodId} {args : Array Value} {below : List Frame} {meth : Method} {c : Code} {G : va_G} {E : EE} {r : RT} (X : CX p s m args meth c cX11_addEqualNeighbours RX11 5 G E) (hr : meth.sig.returnType = none) (a1 : Int32) (D : DD) (o : (Nat × List Int32 × DD) ⊕ RT) (h : b_X11_addEqualNeighbours_0 a1 D = some o) (h1 : ∀ x, o = .inl x → hg_X11_addEqualNeighbours p l e s m args below meth c G E r x.1 x.2.1 x.2.2) (h2 : ∀ x, o = .inr x → x = r) : GW p l e (rmm 2) s m args below meth c G E 5 (MQ below (QR G E s.heap.size r) args s 0 0 (fr E s.heap.size)) 0 0 D 0 [(0, .ref (E.1 58)), (1, .ref (E.1 1)), (2, .int a1)] [] := by
  unfold b_X11_addEqualNeighbours_0 at h
  refine g_iconst X (v := (0 : Int32)) dX11_addEqualNeighbours_0 (by decide) ?_
  refine g_istore_n X (i0 := 3) (lv' := [(3, .int (0 : Int32)), (0, .ref (E.1 58)), (1, .ref (E.1 1)), (2, .int a1)]) dX11_addEqualNeighbours_1 rfl (by decide) rfl ?_
  refine g_sub (lv' := [(0, .ref (E.1 58)), (1, .ref (E.1 1)), (2, .int a1), (3, .int (0 : Int32))]) [1, 2, 3, 0] rfl ?_
  exact h1 _ (Option.some.inj h).symm
set_option maxRecDepth 100000 in
set_option maxHeartbeats 4000000 in
theorem bl_X11_addEqualNeighbours_1 {p : Program} {l : Launch} {e : Env} {s : State} {m : MethodId} {args : Array Value} {below : List Frame} {meth : Method} {c : Code} {G : va_G} {E : EE} {r : RT} (X : CX p s m args meth c cX11_addEqualNeighbours RX11 5 G E) (hr : meth.sig.returnType = none) (x2 : Int32) (x3 : Int32) (D : DD) (o : (Nat × List Int32 × DD) ⊕ RT) (h : b_X11_addEqualNeighbours_1 x2 x3 D = some o) (h1 : ∀ x, o = .inl x → hg_X11_addEqualNeighbours p l e s m args below meth c G E r x.1 x.2.1 x.2.2) (h2 : ∀ x, o = .inr x → x = r) : GW p l e (rmm 2) s m args below meth c G E 5 (MQ below (QR G E s.heap.size r) args s 0 0 (fr E s.heap.size)) 0 0 D 2 [(0, .ref (E.1 58)), (1, .ref (E.1 1)), (2, .int x2), (3, .int x3)] [] := by
  unfold b_X11_addEqualNeighbours_1 at h
  refine g_iload_n X 3 (i0 := 3) dX11_addEqualNeighbours_2 rfl rfl ?_
  refine g_iconst X (v := (4 : Int32)) dX11_addEqualNeighbours_3 (by decide) ?_
  refine g_icmp_ge X (tgt := 46) dX11_addEqualNeighbours_4 (by decide) (fun c14 => ?_) (fun c14 => ?_)
  · have h := (ite_s h).1 c14
    exact g_vret X hr dX11_addEqualNeighbours_46 (h2 _ (Option.some.inj h).symm)
  · have h := (ite_s h).2 c14
    refine g_iload_n X 2 (i0 := 2) dX11_addEqualNeighbours_7 rfl rfl ?_
    refine g_iload_n X 3 (i0 := 3) dX11_addEqualNeighbours_8 rfl rfl ?_
    obtain ⟨r3, D2, e1, h⟩ := cI_s h
    refine g_SN X (As := [.int x2, .int x3]) (rest := []) (c_X12_neighbourOf l G E x2 x3 _ _ e1) wc_X12_neighbourOf kn_X11_45 wi_RX12 wt_X12_neighbourOf ⟨rfl, rfl⟩ hd_X12_neighbourOf (⟨Nat.le_of_ble_eq_true rfl, Nat.le_of_ble_eq_true rfl⟩) rfl rfl (Nat.le_of_ble_eq_true rfl) dX11_addEqualNeighbours_9 ?_
    refine g_istore X (lv' := [(4, .int r3), (0, .ref (E.1 58)), (1, .ref (E.1 1)), (2, .int x2), (3, .int x3)]) dX11_addEqualNeighbours_12 (by decide) rfl ?_
    refine g_iload X 0 dX11_addEqualNeighbours_14 rfl ?_
    refine g_iconst X (v := (-1 : Int32)) dX11_addEqualNeighbours_16 (by decide) ?_
    refine g_icmp_eq X (tgt := 40) dX11_addEqualNeighbours_17 (by decide) (fun c13 => ?_) (fun c13 => ?_)
    · have h := (ite_s h).1 c13
      refine g_iinc X 4 (v := (x3 + (1 : Int32))) (lv' := [(3, .int (x3 + (1 : Int32))), (4, .int r3), (0, .ref (E.1 58)), (1, .ref (E.1 1)), (2, .int x2)]) dX11_addEqualNeighbours_40 rfl rfl (by decide) rfl ?_
      refine g_goto X (tgt := 2) dX11_addEqualNeighbours_43 (by decide) ?_
      refine g_sub (lv' := [(0, .ref (E.1 58)), (1, .ref (E.1 1)), (2, .int x2), (3, .int (x3 + (1 : Int32)))]) [2, 3, 4, 0] rfl ?_
      exact h1 _ (Option.some.inj h).symm
    · have h := (ite_s h).2 c13
      refine g_aload_n X 2 (i0 := 1) dX11_addEqualNeighbours_20 rfl rfl ?_
      refine g_iload X 0 dX11_addEqualNeighbours_21 rfl ?_
      obtain ⟨r6, D5, e4, h⟩ := cI_s h
      refine g_V X (As := [.int r3]) (rest := []) (c_X8_hardnessAt l G E r3 _ _ e4) 1 (wg_1 E _) rfl rfl kv_X11_27 ⟨rfl, rfl⟩ ⟨rfl, hd_X8_hardnessAt⟩ (⟨Nat.le_of_ble_eq_true rfl, Nat.le_of_ble_eq_true rfl⟩) rfl rfl (Nat.le_of_ble_eq_true rfl) dX11_addEqualNeighbours_23 ?_
      refine g_aload_n X 2 (i0 := 1) dX11_addEqualNeighbours_26 rfl rfl ?_
      refine g_iload_n X 3 (i0 := 2) dX11_addEqualNeighbours_27 rfl rfl ?_
      obtain ⟨r9, D8, e7, h⟩ := cI_s h
      refine g_V X (As := [.int x2]) (rest := [.int r6]) (c_X8_hardnessAt l G E x2 _ _ e7) 1 (wg_1 E _) rfl rfl kv_X11_27 ⟨rfl, rfl⟩ ⟨rfl, hd_X8_hardnessAt⟩ (⟨Nat.le_of_ble_eq_true rfl, Nat.le_of_ble_eq_true rfl⟩) rfl rfl (Nat.le_of_ble_eq_true rfl) dX11_addEqualNeighbours_28 ?_
      refine g_icmp_ne X (tgt := 40) dX11_addEqualNeighbours_31 (by decide) (fun c12 => ?_) (fun c12 => ?_)
      · have h := (ite_s h).2 c12
        refine g_iinc X 4 (v := (x3 + (1 : Int32))) (lv' := [(3, .int (x3 + (1 : Int32))), (4, .int r3), (0, .ref (E.1 58)), (1, .ref (E.1 1)), (2, .int x2)]) dX11_addEqualNeighbours_40 rfl rfl (by decide) rfl ?_
        refine g_goto X (tgt := 2) dX11_addEqualNeighbours_43 (by decide) ?_
        refine g_sub (lv' := [(0, .ref (E.1 58)), (1, .ref (E.1 1)), (2, .int x2), (3, .int (x3 + (1 : Int32)))]) [2, 3, 4, 0] rfl ?_
        exact h1 _ (Option.some.inj h).symm
      · have h := (ite_s h).1 c12
        refine g_aload_n X 1 (i0 := 0) dX11_addEqualNeighbours_34 rfl rfl ?_
        refine g_iload X 0 dX11_addEqualNeighbours_35 rfl ?_
        obtain ⟨D11, e10, h⟩ := cV_s h
        refine g_V X (As := [.int r3]) (rest := []) (c_X11_add l G E r3 _ _ e10) 58 (wg_58 E _) rfl rfl kv_X11_37 ⟨rfl, rfl⟩ ⟨rfl, hd_X11_add⟩ (⟨Nat.le_of_ble_eq_true rfl, Nat.le_of_ble_eq_true rfl⟩) rfl rfl (Nat.le_of_ble_eq_true rfl) dX11_addEqualNeighbours_37 ?_
        refine g_iinc X 4 (v := (x3 + (1 : Int32))) (lv' := [(3, .int (x3 + (1 : Int32))), (4, .int r3), (0, .ref (E.1 58)), (1, .ref (E.1 1)), (2, .int x2)]) dX11_addEqualNeighbours_40 rfl rfl (by decide) rfl ?_
        refine g_goto X (tgt := 2) dX11_addEqualNeighbours_43 (by decide) ?_
        refine g_sub (lv' := [(0, .ref (E.1 58)), (1, .ref (E.1 1)), (2, .int x2), (3, .int (x3 + (1 : Int32)))]) [2, 3, 4, 0] rfl ?_
        exact h1 _ (Option.some.inj h).symm
set_option maxRecDepth 100000 in
set_option maxHeartbeats 4000000 in
theorem c_X11_addEqualNeighbours (l : Launch) (G : va_G) (E : EE) (a1 : Int32) (D : DD) (r : RT) (h : S_X11_addEqualNeighbours a1 D = some r) : MM l G E yX11_addEqualNeighbours cX11_addEqualNeighbours 5 none (rmm 2) [.ref (E.1 58), .ref (E.1 1), .int a1] D r := by
  unfold S_X11_addEqualNeighbours at h
  refine m_of rfl (Nat.le_of_ble_eq_true rfl) ?_
  intro p e s m args below meth c X hr
  exact run_G (T := T_X11_addEqualNeighbours) (HG := hg_X11_addEqualNeighbours p l e s m args below meth c G E r) (by
    intro k ls D o hT h1 h2
    unfold T_X11_addEqualNeighbours at hT
    split at hT
    · exact bl_X11_addEqualNeighbours_0 X hr _ D o hT h1 h2
    · exact bl_X11_addEqualNeighbours_1 X hr _ _ D o hT h1 h2
    · cases hT) FUEL 0 [a1] D h
theorem hd_X11_addEqualNeighbours : yX11_addEqualNeighbours.cls ≠ "java/lang/invoke/MethodHandle" ∧ yX11_addEqualNeighbours.cls ≠ "java/lang/invoke/VarHandle" ∧ (parseMethodDescriptor yX11_addEqualNeighbours.desc).map (fun d => d.parameters.length) = some 2 := by decide +kernel
theorem wc_X11_addEqualNeighbours : Cond.code yX11_addEqualNeighbours cX11_addEqualNeighbours 5 none ∈ UT := ut 843 (by decide +kernel) (by decide +kernel)
theorem we_X11_addEqualNeighbours : Cond.selects RX11 yX11_addEqualNeighbours yX11_addEqualNeighbours ∈ UT := ut 23 (by decide +kernel) (by decide +kernel)
theorem wm_X11_addEqualNeighbours : Cond.instanceMethod yX11_addEqualNeighbours ∈ UT := ut 842 (by decide +kernel) (by decide +kernel)
theorem kv_X11_41 : GoodIn UT (wsV RX11 41 RX11 yX11_addEqualNeighbours (Cond.code yX11_addEqualNeighbours cX11_addEqualNeighbours 5 none :: UT)) := gu_V (ut 840 (by decide +kernel) (by decide +kernel)) wm_X11_addEqualNeighbours we_X11_addEqualNeighbours wi_RX11 wc_X11_addEqualNeighbours
def b_X11_follow_0 (a1 : Int32) (D : DD) : Option ((Nat × List Int32 × DD) ⊕ RT) := (cV (S_X11_add a1 (setI D 125 (0 : Int32))) (fun D2 => some (.inl (1, [(0 : Int32)], D2))))
def b_X11_follow_1 (x3 : Int32) (D : DD) : Option ((Nat × List Int32 × DD) ⊕ RT) := (if (36 : Int32) ≤ x3 then some (.inr (0, some (.int (D.1 125)), D)) else (if x3 < (D.1 125) then (if inB x3 36 = true then (cV (S_X11_addEqualNeighbours ((D.2.2.1 51) x3.toNatClampNeg) D) (fun D5 => some (.inl (1, [(x3 + (1 : Int32))], D5)))) else none) else some (.inr (0, some (.int (D.1 125)), D))))
def T_X11_follow (k : Nat) (ls : List Int32) (D : DD) : Option ((Nat × List Int32 × DD) ⊕ RT) := match k, ls with
  | 0, [a1] => b_X11_follow_0 a1 D
  | 1, [x3] => b_X11_follow_1 x3 D
  | _, _ => none
def S_X11_follow (a1 : Int32) (D : DD) : Option RT := run T_X11_follow FUEL 0 [a1] D
def hg_X11_follow (p : Program) (l : Launch) (e : Env) (s : State) (m : MethodId) (args : Array Value) (below : List Frame) (meth : Method) (c : Code) (G : va_G) (E : EE) (r : RT) (k : Nat) (ls : List Int32) (D : DD) : Prop := match k, ls with
  | 0, [a1] => GW p l e (rmm 3) s m args below meth c G E 4 (MQ below (QR G E s.heap.size r) args s 0 0 (fr E s.heap.size)) 0 0 D 0 [(0, .ref (E.1 58)), (1, .ref (E.1 1)), (2, .int a1)] []
  | 1, [x3] => GW p l e (rmm 3) s m args below meth c G E 4 (MQ below (QR G E s.heap.size r) args s 0 0 (fr E s.heap.size)) 0 0 D 12 [(0, .ref (E.1 58)), (1, .ref (E.1 1)), (3, .int x3)] []
  | _, _ => True
set_option maxRecDepth 100000 in
set_option maxHeartbeats 4000000 in
theorem bl_X11_follow_0 {p : Program} {l : Launch} {e : Env} {s : State} {m : MethodId} {args : Array Value} {below : List Frame} {meth : Method} {c : Code} {G : va_G} {E : EE} {r : RT} (X : CX p s m args meth c cX11_follow RX11 4 G E) (hr : meth.sig.returnType = (some .int)) (a1 : Int32) (D : DD) (o : (Nat × List Int32 × DD) ⊕ RT) (h : b_X11_follow_0 a1 D = some o) (h1 : ∀ x, o = .inl x → hg_X11_follow p l e s m args below meth c G E r x.1 x.2.1 x.2.2) (h2 : ∀ x, o = .inr x → x = r) : GW p l e (rmm 3) s m args below meth c G E 4 (MQ below (QR G E s.heap.size r) args s 0 0 (fr E s.heap.size)) 0 0 D 0 [(0, .ref (E.1 58)), (1, .ref (E.1 1)), (2, .int a1)] [] := by
  unfold b_X11_follow_0 at h
  refine g_aload_n X 0 (i0 := 0) dX11_follow_0 rfl rfl ?_
  refine g_iconst X (v := (0 : Int32)) dX11_follow_1 (by decide) ?_
  refine g_put X (D := D) (v := .int (0 : Int32)) (T := TX11) (D' := (setI D 125 (0 : Int32))) 58 uX11 tyX11 tyX11_ok nmX11 (wg_58 E _) rfl 2 (by decide) fl_X11_33 rfl rfl rfl rfl (Nat.le_of_ble_eq_true rfl) (ws_I_125 E _ _) dX11_follow_2 ?_
  refine g_aload_n X 0 (i0 := 0) dX11_follow_5 rfl rfl ?_
  refine g_iload_n X 2 (i0 := 2) dX11_follow_6 rfl rfl ?_
  obtain ⟨D2, e1, h⟩ := cV_s h
  refine g_V X (As := [.int a1]) (rest := []) (c_X11_add l G E a1 _ _ e1) 58 (wg_58 E _) rfl rfl kv_X11_37 ⟨rfl, rfl⟩ ⟨rfl, hd_X11_add⟩ (⟨Nat.le_of_ble_eq_true rfl, Nat.le_of_ble_eq_true rfl⟩) rfl rfl (Nat.le_of_ble_eq_true rfl) dX11_follow_7 ?_
  refine g_iconst X (v := (0 : Int32)) dX11_follow_10 (by decide) ?_
  refine g_istore_n X (i0 := 3) (lv' := [(3, .int (0 : Int32)), (0, .ref (E.1 58)), (1, .ref (E.1 1)), (2, .int a1)]) dX11_follow_11 rfl (by decide) rfl ?_
  refine g_sub (lv' := [(0, .ref (E.1 58)), (1, .ref (E.1 1)), (3, .int (0 : Int32))]) [1, 2, 0] rfl ?_
  exact h1 _ (Option.some.inj h).symm
set_option maxRecDepth 100000 in
set_option maxHeartbeats 4000000 in
theorem bl_X11_follow_1 {p : Program} {l : Launch} {e : Env} {s : State} {m : MethodId} {args : Array Value} {below : List Frame} {meth : Method} {c : Code} {G : va_G} {E : EE} {r : RT} (X : CX p s m args meth c cX11_follow RX11 4 G E) (hr : meth.sig.returnType = (some .int)) (x3 : Int32) (D : DD) (o : (Nat × List Int32 × DD) ⊕ RT) (h : b_X11_follow_1 x3 D = some o) (h1 : ∀ x, o = .inl x → hg_X11_follow p l e s m args below meth c G E r x.1 x.2.1 x.2.2) (h2 : ∀ x, o = .inr x → x = r) : GW p l e (rmm 3) s m args below meth c G E 4 (MQ below (QR G E s.heap.size r) args s 0 0 (fr E s.heap.size)) 0 0 D 12 [(0, .ref (E.1 58)), (1, .ref (E.1 1)), (3, .int x3)] [] := by
  unfold b_X11_follow_1 at h
  refine g_iload_n X 2 (i0 := 3) dX11_follow_12 rfl rfl ?_
  refine g_bipush X (v := (36 : Int32)) dX11_follow_13 (by decide) ?_
  refine g_icmp_ge X (tgt := 46) dX11_follow_15 (by decide) (fun c7 => ?_) (fun c7 => ?_)
  · have h := (ite_s h).1 c7
    refine g_aload_n X 0 (i0 := 0) dX11_follow_46 rfl rfl ?_
    refine g_get X (D := D) (v := .int (D.1 125)) (T := TX11) 58 uX11 (wg_58 E _) rfl 2 (by decide) fl_X11_33 rfl rfl dX11_follow_47 ?_
    exact g_iret X hr rfl dX11_follow_50 (h2 _ (Option.some.inj h).symm)
  · have h := (ite_s h).2 c7
    refine g_iload_n X 2 (i0 := 3) dX11_follow_18 rfl rfl ?_
    refine g_aload_n X 0 (i0 := 0) dX11_follow_19 rfl rfl ?_
    refine g_get X (D := D) (v := .int (D.1 125)) (T := TX11) 58 uX11 (wg_58 E _) rfl 2 (by decide) fl_X11_33 rfl rfl dX11_follow_20 ?_
    refine g_icmp_lt X (tgt := 29) dX11_follow_23 (by decide) (fun c6 => ?_) (fun c6 => ?_)
    · have h := (ite_s h).1 c6
      refine g_aload_n X 0 (i0 := 0) dX11_follow_29 rfl rfl ?_
      refine g_aload_n X 1 (i0 := 1) dX11_follow_30 rfl rfl ?_
      refine g_aload_n X 0 (i0 := 0) dX11_follow_31 rfl rfl ?_
      refine g_get X (D := D) (v := .ref (E.1 60)) (T := TX11) 58 uX11 (wg_58 E _) rfl 1 (by decide) fl_X11_15 rfl rfl dX11_follow_32 ?_
      refine g_iload_n X 2 (i0 := 3) dX11_follow_35 rfl rfl ?_
      obtain ⟨b3, h⟩ := chk_s h
      refine g_iald X (D := D) (f := (D.2.2.1 51)) (i := x3) 60 (wg_60 E _) (inB_vp b3) dX11_follow_36 ?_
      obtain ⟨D5, e4, h⟩ := cV_s h
      refine g_V X (As := [.ref (E.1 1), .int ((D.2.2.1 51) x3.toNatClampNeg)]) (rest := []) (c_X11_addEqualNeighbours l G E ((D.2.2.1 51) x3.toNatClampNeg) _ _ e4) 58 (wg_58 E _) rfl rfl kv_X11_41 ⟨rfl, rfl⟩ ⟨rfl, hd_X11_addEqualNeighbours⟩ (⟨Nat.le_of_ble_eq_true rfl, Nat.le_of_ble_eq_true rfl⟩) rfl rfl (Nat.le_of_ble_eq_true rfl) dX11_follow_37 ?_
      refine g_iinc X 2 (v := (x3 + (1 : Int32))) (lv' := [(3, .int (x3 + (1 : Int32))), (0, .ref (E.1 58)), (1, .ref (E.1 1))]) dX11_follow_40 rfl rfl (by decide) rfl ?_
      refine g_goto X (tgt := 12) dX11_follow_43 (by decide) ?_
      refine g_sub (lv' := [(0, .ref (E.1 58)), (1, .ref (E.1 1)), (3, .int (x3 + (1 : Int32)))]) [1, 2, 0] rfl ?_
      exact h1 _ (Option.some.inj h).symm
    · have h := (ite_s h).2 c6
      refine g_goto X (tgt := 46) dX11_follow_26 (by decide) ?_
      refine g_aload_n X 0 (i0 := 0) dX11_follow_46 rfl rfl ?_
      refine g_get X (D := D) (v := .int (D.1 125)) (T := TX11) 58 uX11 (wg_58 E _) rfl 2 (by decide) fl_X11_33 rfl rfl dX11_follow_47 ?_
      exact g_iret X hr rfl dX11_follow_50 (h2 _ (Option.some.inj h).symm)
set_option maxRecDepth 100000 in
set_option maxHeartbeats 4000000 in
theorem c_X11_follow (l : Launch) (G : va_G) (E : EE) (a1 : Int32) (D : DD) (r : RT) (h : S_X11_follow a1 D = some r) : MM l G E yX11_follow cX11_follow 4 (some .int) (rmm 3) [.ref (E.1 58), .ref (E.1 1), .int a1] D r := by
  unfold S_X11_follow at h
  refine m_of rfl (Nat.le_of_ble_eq_true rfl) ?_
  intro p e s m args below meth c X hr
  exact run_G (T := T_X11_follow) (HG := hg_X11_follow p l e s m args below meth c G E r) (by
    intro k ls D o hT h1 h2
    unfold T_X11_follow at hT
    split at hT
    · exact bl_X11_follow_0 X hr _ D o hT h1 h2
    · exact bl_X11_follow_1 X hr _ D o hT h1 h2
    · cases hT) FUEL 0 [a1] D h
def b_X12_clear_veins_found_0  (D : DD) : Option ((Nat × List Int32 × DD) ⊕ RT) := some (.inl (1, [(0 : Int32)], D))
def b_X12_clear_veins_found_1 (x1 : Int32) (D : DD) : Option ((Nat × List Int32 × DD) ⊕ RT) := (if (36 : Int32) ≤ x1 then some (.inr (0, none, D)) else (if inB x1 36 = true then some (.inl (1, [(x1 + (1 : Int32))], (setA D 50 (upd (D.2.2.1 50) x1.toNatClampNeg (vp_nar .boolean (0 : Int32)))))) else none))
def T_X12_clear_veins_found (k : Nat) (ls : List Int32) (D : DD) : Option ((Nat × List Int32 × DD) ⊕ RT) := match k, ls with
  | 0, [] => b_X12_clear_veins_found_0  D
  | 1, [x1] => b_X12_clear_veins_found_1 x1 D
  | _, _ => none
def S_X12_clear_veins_found  (D : DD) : Option RT := run T_X12_clear_veins_found FUEL 0 [] D
def hg_X12_clear_veins_found (p : Program) (l : Launch) (e : Env) (s : State) (m : MethodId) (args : Array Value) (below : List Frame) (meth : Method) (c : Code) (G : va_G) (E : EE) (r : RT) (k : Nat) (ls : List Int32) (D : DD) : Prop := match k, ls with
  | 0, [] => GW p l e (rmm 0) s m args below meth c G E 2 (MQ below (QR G E s.heap.size r) args s 0 0 (fr E s.heap.size)) 0 0 D 0 [(0, .ref (E.1 59))] []
  | 1, [x1] => GW p l e (rmm 0) s m args below meth c G E 2 (MQ below (QR G E s.heap.size r) args s 0 0 (fr E s.heap.size)) 0 0 D 2 [(0, .ref (E.1 59)), (1, .int x1)] []
  | _, _ => True
set_option maxRecDepth 100000 in
set_option maxHeartbeats 4000000 in
theorem bl_X12_clear_veins_found_0 {p : Program} {l : Launch} {e : Env} {s : State} {m : MethodId} {args : Array Value} {below : List Frame} {meth : Method} {c : Code} {G : va_G} {E : EE} {r : RT} (X : CX p s m args meth c cX12_clear RX12 2 G E) (hr : meth.sig.returnType = none)  (D : DD) (o : (Nat × List Int32 × DD) ⊕ RT) (h : b_X12_clear_veins_found_0  D = some o) (h1 : ∀ x, o = .inl x → hg_X12_clear_veins_found p l e s m args below meth c G E r x.1 x.2.1 x.2.2) (h2 : ∀ x, o = .inr x → x = r) : GW p l e (rmm 0) s m args below meth c G E 2 (MQ below (QR G E s.heap.size r) args s 0 0 (fr E s.heap.size)) 0 0 D 0 [(0, .ref (E.1 59))] [] := by
  unfold b_X12_clear_veins_found_0 at h
  refine g_iconst X (v := (0 : Int32)) dX12_clear_0 (by decide) ?_
  refine g_istore_n X (i0 := 1) (lv' := [(1, .int (0 : Int32)), (0, .ref (E.1 59))]) dX12_clear_1 rfl (by decide) rfl ?_
  refine g_sub (lv' := [(0, .ref (E.1 59)), (1, .int (0 : Int32))]) [1, 0] rfl ?_
  exact h1 _ (Option.some.inj h).symm
set_option maxRecDepth 100000 in
set_option maxHeartbeats 4000000 in
theorem bl_X12_clear_veins_found_1 {p : Program} {l : Launch} {e : Env} {s : State} {m : MethodId} {args : Array Value} {below : List Frame} {meth : Method} {c : Code} {G : va_G} {E : EE} {r : RT} (X : CX p s m args meth c cX12_clear RX12 2 G E) (hr : meth.sig.returnType = none) (x1 : Int32) (D : DD) (o : (Nat × List Int32 × DD) ⊕ RT) (h : b_X12_clear_veins_found_1 x1 D = some o) (h1 : ∀ x, o = .inl x → hg_X12_clear_veins_found p l e s m args below meth c G E r x.1 x.2.1 x.2.2) (h2 : ∀ x, o = .inr x → x = r) : GW p l e (rmm 0) s m args below meth c G E 2 (MQ below (QR G E s.heap.size r) args s 0 0 (fr E s.heap.size)) 0 0 D 2 [(0, .ref (E.1 59)), (1, .int x1)] [] := by
  unfold b_X12_clear_veins_found_1 at h
  refine g_iload_n X 1 (i0 := 1) dX12_clear_2 rfl rfl ?_
  refine g_aload_n X 0 (i0 := 0) dX12_clear_3 rfl rfl ?_
  refine g_alen X (D := D) (v := (36 : Int32)) (t0 := 1) 59 (wg_59 E _) rfl rfl dX12_clear_4 ?_
  refine g_icmp_ge X (tgt := 18) dX12_clear_5 (by decide) (fun c2 => ?_) (fun c2 => ?_)
  · have h := (ite_s h).1 c2
    exact g_vret X hr dX12_clear_18 (h2 _ (Option.some.inj h).symm)
  · have h := (ite_s h).2 c2
    refine g_aload_n X 0 (i0 := 0) dX12_clear_8 rfl rfl ?_
    refine g_iload_n X 1 (i0 := 1) dX12_clear_9 rfl rfl ?_
    refine g_iconst X (v := (0 : Int32)) dX12_clear_10 (by decide) ?_
    obtain ⟨b1, h⟩ := chk_s h
    refine g_zast X (D := D) (f := (D.2.2.1 50)) (i := x1) (x := (0 : Int32)) (D' := (setA D 50 (upd (D.2.2.1 50) x1.toNatClampNeg (vp_nar .boolean (0 : Int32))))) 59 (wg_59 E _) (inB_vp b1) (ws_A_50 E _ _) dX12_clear_11 ?_
    refine g_iinc X 1 (v := (x1 + (1 : Int32))) (lv' := [(1, .int (x1 + (1 : Int32))), (0, .ref (E.1 59))]) dX12_clear_12 rfl rfl (by decide) rfl ?_
    refine g_goto X (tgt := 2) dX12_clear_15 (by decide) ?_
    refine g_sub (lv' := [(0, .ref (E.1 59)), (1, .int (x1 + (1 : Int32)))]) [1, 0] rfl ?_
    exact h1 _ (Option.some.inj h).symm
set_option maxRecDepth 100000 in
set_option maxHeartbeats 4000000 in
theorem c_X12_clear_veins_found (l : Launch) (G : va_G) (E : EE)  (D : DD) (r : RT) (h : S_X12_clear_veins_found  D = some r) : MM l G E yX12_clear cX12_clear 2 none (rmm 0) [.ref (E.1 59)] D r := by
  unfold S_X12_clear_veins_found at h
  refine m_of rfl (Nat.le_of_ble_eq_true rfl) ?_
  intro p e s m args below meth c X hr
  exact run_G (T := T_X12_clear_veins_found) (HG := hg_X12_clear_veins_found p l e s m args below meth c G E r) (by
    intro k ls D o hT h1 h2
    unfold T_X12_clear_veins_found at hT
    split at hT
    · exact bl_X12_clear_veins_found_0 X hr  D o hT h1 h2
    · exact bl_X12_clear_veins_found_1 X hr _ D o hT h1 h2
    · cases hT) FUEL 0 [] D h
theorem hd_X11_follow : yX11_follow.cls ≠ "java/lang/invoke/MethodHandle" ∧ yX11_follow.cls ≠ "java/lang/invoke/VarHandle" ∧ (parseMethodDescriptor yX11_follow.desc).map (fun d => d.parameters.length) = some 2 := by decide +kernel
theorem kn_X11_19 : Cond.methodLinkNest RX11 19 yX12_clear "StoneQuarry" ∈ NEST := nst 828 (by decide +kernel) rfl
theorem wc_X11_follow : Cond.code yX11_follow cX11_follow 4 (some .int) ∈ UT := ut 833 (by decide +kernel) (by decide +kernel)
theorem we_X11_follow : Cond.selects RX11 yX11_follow yX11_follow ∈ UT := ut 21 (by decide +kernel) (by decide +kernel)
theorem wm_X11_follow : Cond.instanceMethod yX11_follow ∈ UT := ut 832 (by decide +kernel) (by decide +kernel)
theorem kv_X11_23 : GoodIn UT (wsV RX11 23 RX11 yX11_follow (Cond.code yX11_follow cX11_follow 4 (some .int) :: UT)) := gu_V (ut 830 (by decide +kernel) (by decide +kernel)) wm_X11_follow we_X11_follow wi_RX11 wc_X11_follow
def S_X11_sizeFrom (a1 : Int32) (D : DD) : Option RT := (cV (S_X12_clear_veins_found D) (fun D2 => (cI (S_X11_follow a1 D2) (fun r5 D4 => some (0, some (.int r5), D4)))))
set_option maxRecDepth 100000 in
set_option maxHeartbeats 4000000 in
theorem c_X11_sizeFrom (l : Launch) (G : va_G) (E : EE) (a1 : Int32) (D : DD) (r : RT) (h : S_X11_sizeFrom a1 D = some r) : MM l G E yX11_sizeFrom cX11_sizeFrom 3 (some .int) (rmm 4) [.ref (E.1 58), .ref (E.1 1), .int a1] D r := by
  refine m_of rfl (Nat.le_of_ble_eq_true rfl) ?_
  intro p e s m args below meth c X hr
  unfold S_X11_sizeFrom at h
  refine g_aload_n X 0 (i0 := 0) dX11_sizeFrom_0 rfl rfl ?_
  refine g_get X (D := D) (v := .ref (E.1 59)) (T := TX11) 58 uX11 (wg_58 E _) rfl 0 (by decide) fl_X11_9 rfl rfl dX11_sizeFrom_1 ?_
  obtain ⟨D2, e1, h⟩ := cV_s h
  refine g_SN X (As := [.ref (E.1 59)]) (rest := []) (c_X12_clear_veins_found l G E  _ _ e1) wc_X12_clear kn_X11_19 wi_RX12 wt_X12_clear ⟨rfl, rfl⟩ hd_X12_clear (⟨Nat.le_of_ble_eq_true rfl, Nat.le_of_ble_eq_true rfl⟩) rfl rfl (Nat.le_of_ble_eq_true rfl) dX11_sizeFrom_4 ?_
  refine g_aload_n X 0 (i0 := 0) dX11_sizeFrom_7 rfl rfl ?_
  refine g_aload_n X 1 (i0 := 1) dX11_sizeFrom_8 rfl rfl ?_
  refine g_iload_n X 2 (i0 := 2) dX11_sizeFrom_9 rfl rfl ?_
  obtain ⟨r5, D4, e3, h⟩ := cI_s h
  refine g_V X (As := [.ref (E.1 1), .int a1]) (rest := []) (c_X11_follow l G E a1 _ _ e3) 58 (wg_58 E _) rfl rfl kv_X11_23 ⟨rfl, rfl⟩ ⟨rfl, hd_X11_follow⟩ (⟨Nat.le_of_ble_eq_true rfl, Nat.le_of_ble_eq_true rfl⟩) rfl rfl (Nat.le_of_ble_eq_true rfl) dX11_sizeFrom_10 ?_
  exact g_iret X hr rfl dX11_sizeFrom_13 (Option.some.inj h)
def b_X11_countOf_0 (a1 : Int32) (D : DD) : Option ((Nat × List Int32 × DD) ⊕ RT) := (cV (S_X12_clear_veins_found D) (fun D2 => some (.inl (1, [a1, (0 : Int32), (0 : Int32)], D2))))
def b_X11_countOf_1 (x2 : Int32) (x3 : Int32) (x4 : Int32) (D : DD) : Option ((Nat × List Int32 × DD) ⊕ RT) := (if (36 : Int32) ≤ x4 then some (.inr (0, some (.int x3), D)) else (if inB x4 36 = true then (if ((D.2.2.1 50) x4.toNatClampNeg) = 0 then (cI (S_X8_hardnessAt x4 D) (fun r6 D5 => (if r6 = x2 then (cI (S_X11_follow x4 D5) (fun r9 D8 => some (.inl (1, [x2, (x3 + (1 : Int32)), (x4 + (1 : Int32))], D8)))) else some (.inl (1, [x2, x3, (x4 + (1 : Int32))], D5))))) else some (.inl (1, [x2, x3, (x4 + (1 : Int32))], D))) else none))
def T_X11_countOf (k : Nat) (ls : List Int32) (D : DD) : Option ((Nat × List Int32 × DD) ⊕ RT) := match k, ls with
  | 0, [a1] => b_X11_countOf_0 a1 D
  | 1, [x2, x3, x4] => b_X11_countOf_1 x2 x3 x4 D
  | _, _ => none
def S_X11_countOf (a1 : Int32) (D : DD) : Option RT := run T_X11_countOf FUEL 0 [a1] D
def hg_X11_countOf (p : Program) (l : Launch) (e : Env) (s : State) (m : MethodId) (args : Array Value) (below : List Frame) (meth : Method) (c : Code) (G : va_G) (E : EE) (r : RT) (k : Nat) (ls : List Int32) (D : DD) : Prop := match k, ls with
  | 0, [a1] => GW p l e (rmm 4) s m args below meth c G E 5 (MQ below (QR G E s.heap.size r) args s 0 0 (fr E s.heap.size)) 0 0 D 0 [(0, .ref (E.1 58)), (1, .ref (E.1 1)), (2, .int a1)] []
  | 1, [x2, x3, x4] => GW p l e (rmm 4) s m args below meth c G E 5 (MQ below (QR G E s.heap.size r) args s 0 0 (fr E s.heap.size)) 0 0 D 12 [(0, .ref (E.1 58)), (1, .ref (E.1 1)), (2, .int x2), (3, .int x3), (4, .int x4)] []
  | _, _ => True
set_option maxRecDepth 100000 in
set_option maxHeartbeats 4000000 in
theorem bl_X11_countOf_0 {p : Program} {l : Launch} {e : Env} {s : State} {m : MethodId} {args : Array Value} {below : List Frame} {meth : Method} {c : Code} {G : va_G} {E : EE} {r : RT} (X : CX p s m args meth c cX11_countOf RX11 5 G E) (hr : meth.sig.returnType = (some .int)) (a1 : Int32) (D : DD) (o : (Nat × List Int32 × DD) ⊕ RT) (h : b_X11_countOf_0 a1 D = some o) (h1 : ∀ x, o = .inl x → hg_X11_countOf p l e s m args below meth c G E r x.1 x.2.1 x.2.2) (h2 : ∀ x, o = .inr x → x = r) : GW p l e (rmm 4) s m args below meth c G E 5 (MQ below (QR G E s.heap.size r) args s 0 0 (fr E s.heap.size)) 0 0 D 0 [(0, .ref (E.1 58)), (1, .ref (E.1 1)), (2, .int a1)] [] := by
  unfold b_X11_countOf_0 at h
  refine g_aload_n X 0 (i0 := 0) dX11_countOf_0 rfl rfl ?_
  refine g_get X (D := D) (v := .ref (E.1 59)) (T := TX11) 58 uX11 (wg_58 E _) rfl 0 (by decide) fl_X11_9 rfl rfl dX11_countOf_1 ?_
  obtain ⟨D2, e1, h⟩ := cV_s h
  refine g_SN X (As := [.ref (E.1 59)]) (rest := []) (c_X12_clear_veins_found l G E  _ _ e1) wc_X12_clear kn_X11_19 wi_RX12 wt_X12_clear ⟨rfl, rfl⟩ hd_X12_clear (⟨Nat.le_of_ble_eq_true rfl, Nat.le_of_ble_eq_true rfl⟩) rfl rfl (Nat.le_of_ble_eq_true rfl) dX11_countOf_4 ?_
  refine g_iconst X (v := (0 : Int32)) dX11_countOf_7 (by decide) ?_
  refine g_istore_n X (i0 := 3) (lv' := [(3, .int (0 : Int32)), (0, .ref (E.1 58)), (1, .ref (E.1 1)), (2, .int a1)]) dX11_countOf_8 rfl (by decide) rfl ?_
  refine g_iconst X (v := (0 : Int32)) dX11_countOf_9 (by decide) ?_
  refine g_istore X (lv' := [(4, .int (0 : Int32)), (3, .int (0 : Int32)), (0, .ref (E.1 58)), (1, .ref (E.1 1)), (2, .int a1)]) dX11_countOf_10 (by decide) rfl ?_
  refine g_sub (lv' := [(0, .ref (E.1 58)), (1, .ref (E.1 1)), (2, .int a1), (3, .int (0 : Int32)), (4, .int (0 : Int32))]) [2, 3, 4, 1, 0] rfl ?_
  exact h1 _ (Option.some.inj h).symm
set_option maxRecDepth 100000 in
set_option maxHeartbeats 4000000 in
theorem bl_X11_countOf_1 {p : Program} {l : Launch} {e : Env} {s : State} {m : MethodId} {args : Array Value} {below : List Frame} {meth : Method} {c : Code} {G : va_G} {E : EE} {r : RT} (X : CX p s m args meth c cX11_countOf RX11 5 G E) (hr : meth.sig.returnType = (some .int)) (x2 : Int32) (x3 : Int32) (x4 : Int32) (D : DD) (o : (Nat × List Int32 × DD) ⊕ RT) (h : b_X11_countOf_1 x2 x3 x4 D = some o) (h1 : ∀ x, o = .inl x → hg_X11_countOf p l e s m args below meth c G E r x.1 x.2.1 x.2.2) (h2 : ∀ x, o = .inr x → x = r) : GW p l e (rmm 4) s m args below meth c G E 5 (MQ below (QR G E s.heap.size r) args s 0 0 (fr E s.heap.size)) 0 0 D 12 [(0, .ref (E.1 58)), (1, .ref (E.1 1)), (2, .int x2), (3, .int x3), (4, .int x4)] [] := by
  unfold b_X11_countOf_1 at h
  refine g_iload X 4 dX11_countOf_12 rfl ?_
  refine g_bipush X (v := (36 : Int32)) dX11_countOf_14 (by decide) ?_
  refine g_icmp_ge X (tgt := 56) dX11_countOf_16 (by decide) (fun c12 => ?_) (fun c12 => ?_)
  · have h := (ite_s h).1 c12
    refine g_iload_n X 3 (i0 := 3) dX11_countOf_56 rfl rfl ?_
    exact g_iret X hr rfl dX11_countOf_57 (h2 _ (Option.some.inj h).symm)
  · have h := (ite_s h).2 c12
    refine g_aload_n X 0 (i0 := 0) dX11_countOf_19 rfl rfl ?_
    refine g_get X (D := D) (v := .ref (E.1 59)) (T := TX11) 58 uX11 (wg_58 E _) rfl 0 (by decide) fl_X11_9 rfl rfl dX11_countOf_20 ?_
    refine g_iload X 4 dX11_countOf_23 rfl ?_
    obtain ⟨b3, h⟩ := chk_s h
    refine g_zald X (D := D) (f := (D.2.2.1 50)) (i := x4) 59 (wg_59 E _) (inB_vp b3) dX11_countOf_25 ?_
    refine g_if_ne X (tgt := 50) dX11_countOf_26 (by decide) (fun c11 => ?_) (fun c11 => ?_)
    · have h := (ite_s h).2 c11
      refine g_iinc X 4 (v := (x4 + (1 : Int32))) (lv' := [(4, .int (x4 + (1 : Int32))), (0, .ref (E.1 58)), (1, .ref (E.1 1)), (2, .int x2), (3, .int x3)]) dX11_countOf_50 rfl rfl (by decide) rfl ?_
      refine g_goto X (tgt := 12) dX11_countOf_53 (by decide) ?_
      refine g_sub (lv' := [(0, .ref (E.1 58)), (1, .ref (E.1 1)), (2, .int x2), (3, .int x3), (4, .int (x4 + (1 : Int32)))]) [1, 2, 3, 4, 0] rfl ?_
      exact h1 _ (Option.some.inj h).symm
    · have h := (ite_s h).1 c11
      refine g_aload_n X 1 (i0 := 1) dX11_countOf_29 rfl rfl ?_
      refine g_iload X 4 dX11_countOf_30 rfl ?_
      obtain ⟨r6, D5, e4, h⟩ := cI_s h
      refine g_V X (As := [.int x4]) (rest := []) (c_X8_hardnessAt l G E x4 _ _ e4) 1 (wg_1 E _) rfl rfl kv_X11_27 ⟨rfl, rfl⟩ ⟨rfl, hd_X8_hardnessAt⟩ (⟨Nat.le_of_ble_eq_true rfl, Nat.le_of_ble_eq_true rfl⟩) rfl rfl (Nat.le_of_ble_eq_true rfl) dX11_countOf_32 ?_
      refine g_iload_n X 2 (i0 := 2) dX11_countOf_35 rfl rfl ?_
      refine g_icmp_ne X (tgt := 50) dX11_countOf_36 (by decide) (fun c10 => ?_) (fun c10 => ?_)
      · have h := (ite_s h).2 c10
        refine g_iinc X 4 (v := (x4 + (1 : Int32))) (lv' := [(4, .int (x4 + (1 : Int32))), (0, .ref (E.1 58)), (1, .ref (E.1 1)), (2, .int x2), (3, .int x3)]) dX11_countOf_50 rfl rfl (by decide) rfl ?_
        refine g_goto X (tgt := 12) dX11_countOf_53 (by decide) ?_
        refine g_sub (lv' := [(0, .ref (E.1 58)), (1, .ref (E.1 1)), (2, .int x2), (3, .int x3), (4, .int (x4 + (1 : Int32)))]) [1, 2, 3, 4, 0] rfl ?_
        exact h1 _ (Option.some.inj h).symm
      · have h := (ite_s h).1 c10
        refine g_aload_n X 0 (i0 := 0) dX11_countOf_39 rfl rfl ?_
        refine g_aload_n X 1 (i0 := 1) dX11_countOf_40 rfl rfl ?_
        refine g_iload X 4 dX11_countOf_41 rfl ?_
        obtain ⟨r9, D8, e7, h⟩ := cI_s h
        refine g_V X (As := [.ref (E.1 1), .int x4]) (rest := []) (c_X11_follow l G E x4 _ _ e7) 58 (wg_58 E _) rfl rfl kv_X11_23 ⟨rfl, rfl⟩ ⟨rfl, hd_X11_follow⟩ (⟨Nat.le_of_ble_eq_true rfl, Nat.le_of_ble_eq_true rfl⟩) rfl rfl (Nat.le_of_ble_eq_true rfl) dX11_countOf_43 ?_
        refine g_pop X dX11_countOf_46 rfl ?_
        refine g_iinc X 3 (v := (x3 + (1 : Int32))) (lv' := [(3, .int (x3 + (1 : Int32))), (0, .ref (E.1 58)), (1, .ref (E.1 1)), (2, .int x2), (4, .int x4)]) dX11_countOf_47 rfl rfl (by decide) rfl ?_
        refine g_iinc X 4 (v := (x4 + (1 : Int32))) (lv' := [(4, .int (x4 + (1 : Int32))), (3, .int (x3 + (1 : Int32))), (0, .ref (E.1 58)), (1, .ref (E.1 1)), (2, .int x2)]) dX11_countOf_50 rfl rfl (by decide) rfl ?_
        refine g_goto X (tgt := 12) dX11_countOf_53 (by decide) ?_
        refine g_sub (lv' := [(0, .ref (E.1 58)), (1, .ref (E.1 1)), (2, .int x2), (3, .int (x3 + (1 : Int32))), (4, .int (x4 + (1 : Int32)))]) [2, 3, 4, 1, 0] rfl ?_
        exact h1 _ (Option.some.inj h).symm
set_option maxRecDepth 100000 in
set_option maxHeartbeats 4000000 in
theorem c_X11_countOf (l : Launch) (G : va_G) (E : EE) (a1 : Int32) (D : DD) (r : RT) (h : S_X11_countOf a1 D = some r) : MM l G E yX11_countOf cX11_countOf 5 (some .int) (rmm 4) [.ref (E.1 58), .ref (E.1 1), .int a1] D r := by
  unfold S_X11_countOf at h
  refine m_of rfl (Nat.le_of_ble_eq_true rfl) ?_
  intro p e s m args below meth c X hr
  exact run_G (T := T_X11_countOf) (HG := hg_X11_countOf p l e s m args below meth c G E r) (by
    intro k ls D o hT h1 h2
    unfold T_X11_countOf at hT
    split at hT
    · exact bl_X11_countOf_0 X hr _ D o hT h1 h2
    · exact bl_X11_countOf_1 X hr _ _ _ D o hT h1 h2
    · cases hT) FUEL 0 [a1] D h
theorem fl_X12_10 : Cond.fieldLink RX12 10 "StoneQuarry" "state" "LStoneQuarry$QuarryState;" ∈ UT := ut 315 (by decide +kernel) (by decide +kernel)
theorem fl_X12_25 : Cond.fieldLink RX12 25 "StoneQuarry" "history" "LStoneQuarry$History;" ∈ UT := ut 318 (by decide +kernel) (by decide +kernel)
theorem hd_X6_remember : yX6_remember.cls ≠ "java/lang/invoke/MethodHandle" ∧ yX6_remember.cls ≠ "java/lang/invoke/VarHandle" ∧ (parseMethodDescriptor yX6_remember.desc).map (fun d => d.parameters.length) = some 1 := by decide +kernel
theorem hd_X8_faultOfHardness : yX8_faultOfHardness.cls ≠ "java/lang/invoke/MethodHandle" ∧ yX8_faultOfHardness.cls ≠ "java/lang/invoke/VarHandle" ∧ (parseMethodDescriptor yX8_faultOfHardness.desc).map (fun d => d.parameters.length) = some 3 := by decide +kernel
theorem wc_X6_remember : Cond.code yX6_remember cX6_remember 3 none ∈ UT := ut 737 (by decide +kernel) (by decide +kernel)
theorem we_X6_remember : Cond.selects RX6 yX6_remember yX6_remember ∈ UT := ut 736 (by decide +kernel) (by decide +kernel)
theorem wm_X6_remember : Cond.instanceMethod yX6_remember ∈ UT := ut 735 (by decide +kernel) (by decide +kernel)
theorem kv_X12_108 : GoodIn UT (wsV RX12 108 RX6 yX6_remember (Cond.code yX6_remember cX6_remember 3 none :: UT)) := gu_V (ut 734 (by decide +kernel) (by decide +kernel)) wm_X6_remember we_X6_remember wi_RX6 wc_X6_remember
theorem kv_X12_116 : GoodIn UT (wsV RX12 116 RX8 yX8_harden (Cond.code yX8_harden cX8_harden 4 (some .int) :: UT)) := gu_V (ut 745 (by decide +kernel) (by decide +kernel)) wm_X8_harden we_X8_harden wi_RX8 wc_X8_harden
theorem wc_X8_faultOfHardness : Cond.code yX8_faultOfHardness cX8_faultOfHardness 5 (some .int) ∈ UT := ut 643 (by decide +kernel) (by decide +kernel)
theorem we_X8_faultOfHardness : Cond.selects RX8 yX8_faultOfHardness yX8_faultOfHardness ∈ UT := ut 642 (by decide +kernel) (by decide +kernel)
theorem wm_X8_faultOfHardness : Cond.instanceMethod yX8_faultOfHardness ∈ UT := ut 641 (by decide +kernel) (by decide +kernel)
theorem kv_X12_92 : GoodIn UT (wsV RX12 92 RX8 yX8_faultOfHardness (Cond.code yX8_faultOfHardness cX8_faultOfHardness 5 (some .int) :: UT)) := gu_V (ut 640 (by decide +kernel) (by decide +kernel)) wm_X8_faultOfHardness we_X8_faultOfHardness wi_RX8 wc_X8_faultOfHardness
theorem uX12 : ∀ w ∈ wsX120, w ∈ UT := ut_all (by decide +kernel) (by decide +kernel)
theorem wat_X12_100 : ∀ w ∈ vx_atS RX12 100 "java/lang/IllegalArgumentException" ["java/lang/RuntimeException", "java/lang/Exception"], w ∈ UT ∨ w ∈ NEST := at_of (by decide +kernel)
theorem wat_X12_107 : ∀ w ∈ vx_atS RX12 107 "java/lang/IllegalStateException" ["java/lang/RuntimeException", "java/lang/Exception"], w ∈ UT ∨ w ∈ NEST := at_of (by decide +kernel)
theorem wcl_X12_103 : Cond.classLink RX12 103 "java/lang/IllegalStateException" ∈ UT := ut 718 (by decide +kernel) (by decide +kernel)
theorem wcl_X12_96 : Cond.classLink RX12 96 "java/lang/IllegalArgumentException" ∈ UT := ut 646 (by decide +kernel) (by decide +kernel)
theorem wg_0 (E : EE) (D : DD) : (wd E D)[0]? = some (E.1 0, .inr (12, [.ref (E.1 1), .ref (E.1 6), .ref (E.1 11), .ref (E.1 16), .ref (E.1 58), .ref (E.1 61), .ref (E.1 65), .ref (E.1 68), .ref (E.1 73), .ref (E.1 75), .ref (E.1 78), .ref (E.1 80), .int (D.1 120), .int (D.1 121), .int (D.1 122)])) := rfl
theorem wgo_X12_100 : ∀ w ∈ Cond.classLink RX12 96 "java/lang/IllegalArgumentException" :: Cond.initialized "java/lang/IllegalArgumentException" :: vx_atS RX12 100 "java/lang/IllegalArgumentException" ["java/lang/RuntimeException", "java/lang/Exception"], vx_ot w = true := List.all_eq_true.mp (by decide +kernel)
theorem wgo_X12_107 : ∀ w ∈ Cond.classLink RX12 103 "java/lang/IllegalStateException" :: Cond.initialized "java/lang/IllegalStateException" :: vx_atS RX12 107 "java/lang/IllegalStateException" ["java/lang/RuntimeException", "java/lang/Exception"], vx_ot w = true := List.all_eq_true.mp (by decide +kernel)
theorem wini_1 : Cond.initialized "java/lang/IllegalArgumentException" ∈ UT := ut 91 (by decide +kernel) (by decide +kernel)
theorem wini_2 : Cond.initialized "java/lang/IllegalStateException" ∈ UT := ut 92 (by decide +kernel) (by decide +kernel)
theorem wst_X12_105 : ((RX12, 105, "the cell is open") : String × Nat × String) ∈ STRS := by decide +kernel
theorem wst_X12_98 : ((RX12, 98, "no such cell, or hardness out of range") : String × Nat × String) ∈ STRS := by decide +kernel
def S_X12_setHardness (a0 : Int32) (a1 : Int32) (a2 : Int32) (D : DD) : Option RT := (cI (S_X8_faultOfHardness a0 a1 a2 D) (fun r3 D2 => (if r3 = (1 : Int32) then some (1, none, D2) else (if r3 = (2 : Int32) then some (2, none, D2) else (cV (S_X6_remember D2) (fun D5 => (cI (S_X12_cellAt a0 a1 D5) (fun r8 D7 => (cI (S_X8_harden r8 a2 D7) (fun r11 D10 => some (0, some (.int r11), D10)))))))))))
set_option maxRecDepth 100000 in
set_option maxHeartbeats 4000000 in
theorem c_X12_setHardness (l : Launch) (hfl : l.stackTraces = false) (G : va_G) (E : EE) (a0 : Int32) (a1 : Int32) (a2 : Int32) (D : DD) (r : RT) (h : S_X12_setHardness a0 a1 a2 D = some r) : MX l G E yX12_setHardness cX12_setHardness 5 (some .int) (rmx 6) [.ref (E.1 0), .int a0, .int a1, .int a2] D r := by
  refine mx_of rfl (Nat.le_of_ble_eq_true rfl) ?_
  intro p e s m args below meth c X hr ht
  unfold S_X12_setHardness at h
  refine g_aload_n X 0 (i0 := 0) dX12_setHardness_0 rfl rfl ?_
  refine g_get X (D := D) (v := .ref (E.1 1)) (T := TX12) 0 uX12 (wg_0 E _) rfl 0 (by decide) fl_X12_10 rfl rfl dX12_setHardness_1 ?_
  refine g_iload_n X 1 (i0 := 1) dX12_setHardness_4 rfl rfl ?_
  refine g_iload_n X 2 (i0 := 2) dX12_setHardness_5 rfl rfl ?_
  refine g_iload_n X 3 (i0 := 3) dX12_setHardness_6 rfl rfl ?_
  obtain ⟨r3, D2, e1, h⟩ := cI_s h
  refine g_V X (As := [.int a0, .int a1, .int a2]) (rest := []) (c_X8_faultOfHardness l G E a0 a1 a2 _ _ e1) 1 (wg_1 E _) rfl rfl kv_X12_92 ⟨rfl, rfl⟩ ⟨rfl, hd_X8_faultOfHardness⟩ (⟨Nat.le_of_ble_eq_true rfl, Nat.le_of_ble_eq_true rfl⟩) rfl rfl (Nat.le_of_ble_eq_true rfl) dX12_setHardness_7 ?_
  refine g_istore X (lv' := [(4, .int r3), (0, .ref (E.1 0)), (1, .int a0), (2, .int a1), (3, .int a2)]) dX12_setHardness_10 (by decide) rfl ?_
  refine g_iload X 0 dX12_setHardness_12 rfl ?_
  refine g_iconst X (v := (1 : Int32)) dX12_setHardness_14 (by decide) ?_
  refine g_icmp_ne X (tgt := 28) dX12_setHardness_15 (by decide) (fun c13 => ?_) (fun c13 => ?_)
  · have h := (ite_s h).2 c13
    refine g_iload X 0 dX12_setHardness_28 rfl ?_
    refine g_iconst X (v := (2 : Int32)) dX12_setHardness_30 (by decide) ?_
    refine g_icmp_ne X (tgt := 44) dX12_setHardness_31 (by decide) (fun c12 => ?_) (fun c12 => ?_)
    · have h := (ite_s h).2 c12
      refine g_aload_n X 1 (i0 := 0) dX12_setHardness_44 rfl rfl ?_
      refine g_get X (D := D2) (v := .ref (E.1 16)) (T := TX12) 0 uX12 (wg_0 E _) rfl 3 (by decide) fl_X12_25 rfl rfl dX12_setHardness_45 ?_
      refine g_aload_n X 1 (i0 := 0) dX12_setHardness_48 rfl rfl ?_
      refine g_get X (D := D2) (v := .ref (E.1 1)) (T := TX12) 0 uX12 (wg_0 E _) rfl 0 (by decide) fl_X12_10 rfl rfl dX12_setHardness_49 ?_
      obtain ⟨D5, e4, h⟩ := cV_s h
      refine g_V X (As := [.ref (E.1 1)]) (rest := []) (c_X6_remember l G E  _ _ e4) 16 (wg_16 E _) rfl rfl kv_X12_108 ⟨rfl, rfl⟩ ⟨rfl, hd_X6_remember⟩ (⟨Nat.le_of_ble_eq_true rfl, Nat.le_of_ble_eq_true rfl⟩) rfl rfl (Nat.le_of_ble_eq_true rfl) dX12_setHardness_52 ?_
      refine g_aload_n X 1 (i0 := 0) dX12_setHardness_55 rfl rfl ?_
      refine g_get X (D := D5) (v := .ref (E.1 1)) (T := TX12) 0 uX12 (wg_0 E _) rfl 0 (by decide) fl_X12_10 rfl rfl dX12_setHardness_56 ?_
      refine g_iload_n X 2 (i0 := 1) dX12_setHardness_59 rfl rfl ?_
      refine g_iload_n X 3 (i0 := 2) dX12_setHardness_60 rfl rfl ?_
      obtain ⟨r8, D7, e6, h⟩ := cI_s h
      refine g_S X (As := [.int a0, .int a1]) (rest := [.ref (E.1 1)]) (c_X12_cellAt l G E a0 a1 _ _ e6) ks_X12_112 ⟨rfl, rfl⟩ hd_X12_cellAt (⟨Nat.le_of_ble_eq_true rfl, Nat.le_of_ble_eq_true rfl⟩) rfl rfl (Nat.le_of_ble_eq_true rfl) dX12_setHardness_61 ?_
      refine g_iload_n X 4 (i0 := 3) dX12_setHardness_64 rfl rfl ?_
      obtain ⟨r11, D10, e9, h⟩ := cI_s h
      refine g_V X (As := [.int r8, .int a2]) (rest := []) (c_X8_harden l G E r8 a2 _ _ e9) 1 (wg_1 E _) rfl rfl kv_X12_116 ⟨rfl, rfl⟩ ⟨rfl, hd_X8_harden⟩ (⟨Nat.le_of_ble_eq_true rfl, Nat.le_of_ble_eq_true rfl⟩) rfl rfl (Nat.le_of_ble_eq_true rfl) dX12_setHardness_65 ?_
      exact gx_iret X hr rfl dX12_setHardness_68 (Option.some.inj h)
    · have h := (ite_s h).1 c12
      exact gx_throw X hfl ht (by decide +kernel) (by decide +kernel) wcl_X12_103 wini_2 wst_X12_105 wat_X12_107 wgo_X12_107 dX12_setHardness_34 dX12_setHardness_37 dX12_setHardness_38 dX12_setHardness_40 dX12_setHardness_43 (Nat.le_of_ble_eq_true rfl) (Nat.le_of_ble_eq_true rfl) (Nat.le_of_ble_eq_true rfl) (Nat.le_of_ble_eq_true rfl) (k := 2) (by decide) rfl (Option.some.inj h)
  · have h := (ite_s h).1 c13
    exact gx_throw X hfl ht (by decide +kernel) (by decide +kernel) wcl_X12_96 wini_1 wst_X12_98 wat_X12_100 wgo_X12_100 dX12_setHardness_18 dX12_setHardness_21 dX12_setHardness_22 dX12_setHardness_24 dX12_setHardness_27 (Nat.le_of_ble_eq_true rfl) (Nat.le_of_ble_eq_true rfl) (Nat.le_of_ble_eq_true rfl) (Nat.le_of_ble_eq_true rfl) (k := 1) (by decide) rfl (Option.some.inj h)
theorem hd_X8_digOut : yX8_digOut.cls ≠ "java/lang/invoke/MethodHandle" ∧ yX8_digOut.cls ≠ "java/lang/invoke/VarHandle" ∧ (parseMethodDescriptor yX8_digOut.desc).map (fun d => d.parameters.length) = some 1 := by decide +kernel
theorem hd_X8_faultOfDigging : yX8_faultOfDigging.cls ≠ "java/lang/invoke/MethodHandle" ∧ yX8_faultOfDigging.cls ≠ "java/lang/invoke/VarHandle" ∧ (parseMethodDescriptor yX8_faultOfDigging.desc).map (fun d => d.parameters.length) = some 2 := by decide +kernel
theorem wc_X8_faultOfDigging : Cond.code yX8_faultOfDigging cX8_faultOfDigging 4 (some .int) ∈ UT := ut 760 (by decide +kernel) (by decide +kernel)
theorem we_X8_faultOfDigging : Cond.selects RX8 yX8_faultOfDigging yX8_faultOfDigging ∈ UT := ut 759 (by decide +kernel) (by decide +kernel)
theorem wm_X8_faultOfDigging : Cond.instanceMethod yX8_faultOfDigging ∈ UT := ut 758 (by decide +kernel) (by decide +kernel)
theorem kv_X12_119 : GoodIn UT (wsV RX12 119 RX8 yX8_faultOfDigging (Cond.code yX8_faultOfDigging cX8_faultOfDigging 4 (some .int) :: UT)) := gu_V (ut 757 (by decide +kernel) (by decide +kernel)) wm_X8_faultOfDigging we_X8_faultOfDigging wi_RX8 wc_X8_faultOfDigging
theorem wc_X8_digOut : Cond.code yX8_digOut cX8_digOut 2 (some .long) ∈ UT := ut 793 (by decide +kernel) (by decide +kernel)
theorem we_X8_digOut : Cond.selects RX8 yX8_digOut yX8_digOut ∈ UT := ut 792 (by decide +kernel) (by decide +kernel)
theorem wm_X8_digOut : Cond.instanceMethod yX8_digOut ∈ UT := ut 791 (by decide +kernel) (by decide +kernel)
theorem kv_X12_131 : GoodIn UT (wsV RX12 131 RX8 yX8_digOut (Cond.code yX8_digOut cX8_digOut 2 (some .long) :: UT)) := gu_V (ut 790 (by decide +kernel) (by decide +kernel)) wm_X8_digOut we_X8_digOut wi_RX8 wc_X8_digOut
theorem wat_X12_130 : ∀ w ∈ vx_atS RX12 130 "java/lang/UnsupportedOperationException" ["java/lang/RuntimeException", "java/lang/Exception"], w ∈ UT ∨ w ∈ NEST := at_of (by decide +kernel)
theorem wcl_X12_126 : Cond.classLink RX12 126 "java/lang/UnsupportedOperationException" ∈ UT := ut 774 (by decide +kernel) (by decide +kernel)
theorem wgo_X12_130 : ∀ w ∈ Cond.classLink RX12 126 "java/lang/UnsupportedOperationException" :: Cond.initialized "java/lang/UnsupportedOperationException" :: vx_atS RX12 130 "java/lang/UnsupportedOperationException" ["java/lang/RuntimeException", "java/lang/Exception"], vx_ot w = true := List.all_eq_true.mp (by decide +kernel)
theorem wini_3 : Cond.initialized "java/lang/UnsupportedOperationException" ∈ UT := ut 95 (by decide +kernel) (by decide +kernel)
theorem wst_X12_122 : ((RX12, 122, "no such cell") : String × Nat × String) ∈ STRS := by decide +kernel
theorem wst_X12_124 : ((RX12, 124, "the cell is open, contains a charge or cannot be reached") : String × Nat × String) ∈ STRS := by decide +kernel
theorem wst_X12_128 : ((RX12, 128, "too few coins") : String × Nat × String) ∈ STRS := by decide +kernel
def S_X12_dig (a0 : Int32) (a1 : Int32) (D : DD) : Option RT := (cI (S_X8_faultOfDigging a0 a1 D) (fun r3 D2 => (if r3 = (1 : Int32) then some (1, none, D2) else (if r3 = (2 : Int32) then some (2, none, D2) else (if r3 = (3 : Int32) then some (3, none, D2) else (cV (S_X6_remember D2) (fun D5 => (cI (S_X12_cellAt a0 a1 D5) (fun r8 D7 => (cL (S_X8_digOut r8 D7) (fun r11 D10 => some (0, some (.long r11), D10))))))))))))
set_option maxRecDepth 100000 in
set_option maxHeartbeats 4000000 in
theorem c_X12_dig (l : Launch) (hfl : l.stackTraces = false) (G : va_G) (E : EE) (a0 : Int32) (a1 : Int32) (D : DD) (r : RT) (h : S_X12_dig a0 a1 D = some r) : MX l G E yX12_dig cX12_dig 4 (some .long) (rmx 6) [.ref (E.1 0), .int a0, .int a1] D r := by
  refine mx_of rfl (Nat.le_of_ble_eq_true rfl) ?_
  intro p e s m args below meth c X hr ht
  unfold S_X12_dig at h
  refine g_aload_n X 0 (i0 := 0) dX12_dig_0 rfl rfl ?_
  refine g_get X (D := D) (v := .ref (E.1 1)) (T := TX12) 0 uX12 (wg_0 E _) rfl 0 (by decide) fl_X12_10 rfl rfl dX12_dig_1 ?_
  refine g_iload_n X 1 (i0 := 1) dX12_dig_4 rfl rfl ?_
  refine g_iload_n X 2 (i0 := 2) dX12_dig_5 rfl rfl ?_
  obtain ⟨r3, D2, e1, h⟩ := cI_s h
  refine g_V X (As := [.int a0, .int a1]) (rest := []) (c_X8_faultOfDigging l G E a0 a1 _ _ e1) 1 (wg_1 E _) rfl rfl kv_X12_119 ⟨rfl, rfl⟩ ⟨rfl, hd_X8_faultOfDigging⟩ (⟨Nat.le_of_ble_eq_true rfl, Nat.le_of_ble_eq_true rfl⟩) rfl rfl (Nat.le_of_ble_eq_true rfl) dX12_dig_6 ?_
  refine g_istore_n X (i0 := 3) (lv' := [(3, .int r3), (0, .ref (E.1 0)), (1, .int a0), (2, .int a1)]) dX12_dig_9 rfl (by decide) rfl ?_
  refine g_iload_n X 0 (i0 := 3) dX12_dig_10 rfl rfl ?_
  refine g_iconst X (v := (1 : Int32)) dX12_dig_11 (by decide) ?_
  refine g_icmp_ne X (tgt := 25) dX12_dig_12 (by decide) (fun c14 => ?_) (fun c14 => ?_)
  · have h := (ite_s h).2 c14
    refine g_iload_n X 0 (i0 := 3) dX12_dig_25 rfl rfl ?_
    refine g_iconst X (v := (2 : Int32)) dX12_dig_26 (by decide) ?_
    refine g_icmp_ne X (tgt := 40) dX12_dig_27 (by decide) (fun c13 => ?_) (fun c13 => ?_)
    · have h := (ite_s h).2 c13
      refine g_iload_n X 0 (i0 := 3) dX12_dig_40 rfl rfl ?_
      refine g_iconst X (v := (3 : Int32)) dX12_dig_41 (by decide) ?_
      refine g_icmp_ne X (tgt := 55) dX12_dig_42 (by decide) (fun c12 => ?_) (fun c12 => ?_)
      · have h := (ite_s h).2 c12
        refine g_aload_n X 1 (i0 := 0) dX12_dig_55 rfl rfl ?_
        refine g_get X (D := D2) (v := .ref (E.1 16)) (T := TX12) 0 uX12 (wg_0 E _) rfl 3 (by decide) fl_X12_25 rfl rfl dX12_dig_56 ?_
        refine g_aload_n X 1 (i0 := 0) dX12_dig_59 rfl rfl ?_
        refine g_get X (D := D2) (v := .ref (E.1 1)) (T := TX12) 0 uX12 (wg_0 E _) rfl 0 (by decide) fl_X12_10 rfl rfl dX12_dig_60 ?_
        obtain ⟨D5, e4, h⟩ := cV_s h
        refine g_V X (As := [.ref (E.1 1)]) (rest := []) (c_X6_remember l G E  _ _ e4) 16 (wg_16 E _) rfl rfl kv_X12_108 ⟨rfl, rfl⟩ ⟨rfl, hd_X6_remember⟩ (⟨Nat.le_of_ble_eq_true rfl, Nat.le_of_ble_eq_true rfl⟩) rfl rfl (Nat.le_of_ble_eq_true rfl) dX12_dig_63 ?_
        refine g_aload_n X 1 (i0 := 0) dX12_dig_66 rfl rfl ?_
        refine g_get X (D := D5) (v := .ref (E.1 1)) (T := TX12) 0 uX12 (wg_0 E _) rfl 0 (by decide) fl_X12_10 rfl rfl dX12_dig_67 ?_
        refine g_iload_n X 2 (i0 := 1) dX12_dig_70 rfl rfl ?_
        refine g_iload_n X 3 (i0 := 2) dX12_dig_71 rfl rfl ?_
        obtain ⟨r8, D7, e6, h⟩ := cI_s h
        refine g_S X (As := [.int a0, .int a1]) (rest := [.ref (E.1 1)]) (c_X12_cellAt l G E a0 a1 _ _ e6) ks_X12_112 ⟨rfl, rfl⟩ hd_X12_cellAt (⟨Nat.le_of_ble_eq_true rfl, Nat.le_of_ble_eq_true rfl⟩) rfl rfl (Nat.le_of_ble_eq_true rfl) dX12_dig_72 ?_
        obtain ⟨r11, D10, e9, h⟩ := cL_s h
        refine g_V X (As := [.int r8]) (rest := []) (c_X8_digOut l G E r8 _ _ e9) 1 (wg_1 E _) rfl rfl kv_X12_131 ⟨rfl, rfl⟩ ⟨rfl, hd_X8_digOut⟩ (⟨Nat.le_of_ble_eq_true rfl, Nat.le_of_ble_eq_true rfl⟩) rfl rfl (Nat.le_of_ble_eq_true rfl) dX12_dig_75 ?_
        exact gx_lret X hr dX12_dig_78 (Option.some.inj h)
      · have h := (ite_s h).1 c12
        exact gx_throw X hfl ht (by decide +kernel) (by decide +kernel) wcl_X12_126 wini_3 wst_X12_128 wat_X12_130 wgo_X12_130 dX12_dig_45 dX12_dig_48 dX12_dig_49 dX12_dig_51 dX12_dig_54 (Nat.le_of_ble_eq_true rfl) (Nat.le_of_ble_eq_true rfl) (Nat.le_of_ble_eq_true rfl) (Nat.le_of_ble_eq_true rfl) (k := 3) (by decide) rfl (Option.some.inj h)
    · have h := (ite_s h).1 c13
      exact gx_throw X hfl ht (by decide +kernel) (by decide +kernel) wcl_X12_103 wini_2 wst_X12_124 wat_X12_107 wgo_X12_107 dX12_dig_30 dX12_dig_33 dX12_dig_34 dX12_dig_36 dX12_dig_39 (Nat.le_of_ble_eq_true rfl) (Nat.le_of_ble_eq_true rfl) (Nat.le_of_ble_eq_true rfl) (Nat.le_of_ble_eq_true rfl) (k := 2) (by decide) rfl (Option.some.inj h)
  · have h := (ite_s h).1 c14
    exact gx_throw X hfl ht (by decide +kernel) (by decide +kernel) wcl_X12_96 wini_1 wst_X12_122 wat_X12_100 wgo_X12_100 dX12_dig_15 dX12_dig_18 dX12_dig_19 dX12_dig_21 dX12_dig_24 (Nat.le_of_ble_eq_true rfl) (Nat.le_of_ble_eq_true rfl) (Nat.le_of_ble_eq_true rfl) (Nat.le_of_ble_eq_true rfl) (k := 1) (by decide) rfl (Option.some.inj h)
theorem kv_X12_135 : GoodIn UT (wsV RX12 135 RX8 yX8_openAt (Cond.code yX8_openAt cX8_openAt 2 (some .boolean) :: UT)) := gu_V (ut 806 (by decide +kernel) (by decide +kernel)) wm_X8_openAt we_X8_openAt wi_RX8 wc_X8_openAt
theorem kv_X12_139 : GoodIn UT (wsV RX12 139 RX8 yX8_hardnessAt (Cond.code yX8_hardnessAt cX8_hardnessAt 2 (some .int) :: UT)) := gu_V (ut 807 (by decide +kernel) (by decide +kernel)) wm_X8_hardnessAt we_X8_hardnessAt wi_RX8 wc_X8_hardnessAt
def S_X12_hardnessOf (a0 : Int32) (a1 : Int32) (D : DD) : Option RT := (cI (S_X12_cellAt a0 a1 D) (fun r3 D2 => (if r3 = (-1 : Int32) then some (1, none, D2) else (cI (S_X8_openAt r3 D2) (fun r6 D5 => (if r6 = 0 then (cI (S_X8_hardnessAt r3 D5) (fun r9 D8 => some (0, some (.int r9), D8))) else some (2, none, D5)))))))
set_option maxRecDepth 100000 in
set_option maxHeartbeats 4000000 in
theorem c_X12_hardnessOf (l : Launch) (hfl : l.stackTraces = false) (G : va_G) (E : EE) (a0 : Int32) (a1 : Int32) (D : DD) (r : RT) (h : S_X12_hardnessOf a0 a1 D = some r) : MX l G E yX12_hardnessOf cX12_hardnessOf 4 (some .int) (rmx 6) [.ref (E.1 0), .int a0, .int a1] D r := by
  refine mx_of rfl (Nat.le_of_ble_eq_true rfl) ?_
  intro p e s m args below meth c X hr ht
  unfold S_X12_hardnessOf at h
  refine g_iload_n X 1 (i0 := 1) dX12_hardnessOf_0 rfl rfl ?_
  refine g_iload_n X 2 (i0 := 2) dX12_hardnessOf_1 rfl rfl ?_
  obtain ⟨r3, D2, e1, h⟩ := cI_s h
  refine g_S X (As := [.int a0, .int a1]) (rest := []) (c_X12_cellAt l G E a0 a1 _ _ e1) ks_X12_112 ⟨rfl, rfl⟩ hd_X12_cellAt (⟨Nat.le_of_ble_eq_true rfl, Nat.le_of_ble_eq_true rfl⟩) rfl rfl (Nat.le_of_ble_eq_true rfl) dX12_hardnessOf_2 ?_
  refine g_istore_n X (i0 := 3) (lv' := [(3, .int r3), (0, .ref (E.1 0)), (1, .int a0), (2, .int a1)]) dX12_hardnessOf_5 rfl (by decide) rfl ?_
  refine g_iload_n X 0 (i0 := 3) dX12_hardnessOf_6 rfl rfl ?_
  refine g_iconst X (v := (-1 : Int32)) dX12_hardnessOf_7 (by decide) ?_
  refine g_icmp_ne X (tgt := 21) dX12_hardnessOf_8 (by decide) (fun c11 => ?_) (fun c11 => ?_)
  · have h := (ite_s h).2 c11
    refine g_aload_n X 1 (i0 := 0) dX12_hardnessOf_21 rfl rfl ?_
    refine g_get X (D := D2) (v := .ref (E.1 1)) (T := TX12) 0 uX12 (wg_0 E _) rfl 0 (by decide) fl_X12_10 rfl rfl dX12_hardnessOf_22 ?_
    refine g_iload_n X 0 (i0 := 3) dX12_hardnessOf_25 rfl rfl ?_
    obtain ⟨r6, D5, e4, h⟩ := cI_s h
    refine g_V X (As := [.int r3]) (rest := []) (c_X8_openAt l G E r3 _ _ e4) 1 (wg_1 E _) rfl rfl kv_X12_135 ⟨rfl, rfl⟩ ⟨rfl, hd_X8_openAt⟩ (⟨Nat.le_of_ble_eq_true rfl, Nat.le_of_ble_eq_true rfl⟩) rfl rfl (Nat.le_of_ble_eq_true rfl) dX12_hardnessOf_26 ?_
    refine g_if_eq X (tgt := 42) dX12_hardnessOf_29 (by decide) (fun c10 => ?_) (fun c10 => ?_)
    · have h := (ite_s h).1 c10
      refine g_aload_n X 1 (i0 := 0) dX12_hardnessOf_42 rfl rfl ?_
      refine g_get X (D := D5) (v := .ref (E.1 1)) (T := TX12) 0 uX12 (wg_0 E _) rfl 0 (by decide) fl_X12_10 rfl rfl dX12_hardnessOf_43 ?_
      refine g_iload_n X 0 (i0 := 3) dX12_hardnessOf_46 rfl rfl ?_
      obtain ⟨r9, D8, e7, h⟩ := cI_s h
      refine g_V X (As := [.int r3]) (rest := []) (c_X8_hardnessAt l G E r3 _ _ e7) 1 (wg_1 E _) rfl rfl kv_X12_139 ⟨rfl, rfl⟩ ⟨rfl, hd_X8_hardnessAt⟩ (⟨Nat.le_of_ble_eq_true rfl, Nat.le_of_ble_eq_true rfl⟩) rfl rfl (Nat.le_of_ble_eq_true rfl) dX12_hardnessOf_47 ?_
      exact gx_iret X hr rfl dX12_hardnessOf_50 (Option.some.inj h)
    · have h := (ite_s h).2 c10
      exact gx_throw X hfl ht (by decide +kernel) (by decide +kernel) wcl_X12_103 wini_2 wst_X12_105 wat_X12_107 wgo_X12_107 dX12_hardnessOf_32 dX12_hardnessOf_35 dX12_hardnessOf_36 dX12_hardnessOf_38 dX12_hardnessOf_41 (Nat.le_of_ble_eq_true rfl) (Nat.le_of_ble_eq_true rfl) (Nat.le_of_ble_eq_true rfl) (Nat.le_of_ble_eq_true rfl) (k := 2) (by decide) rfl (Option.some.inj h)
  · have h := (ite_s h).1 c11
    exact gx_throw X hfl ht (by decide +kernel) (by decide +kernel) wcl_X12_96 wini_1 wst_X12_122 wat_X12_100 wgo_X12_100 dX12_hardnessOf_11 dX12_hardnessOf_14 dX12_hardnessOf_15 dX12_hardnessOf_17 dX12_hardnessOf_20 (Nat.le_of_ble_eq_true rfl) (Nat.le_of_ble_eq_true rfl) (Nat.le_of_ble_eq_true rfl) (Nat.le_of_ble_eq_true rfl) (k := 1) (by decide) rfl (Option.some.inj h)
def S_X12_isOpen (a0 : Int32) (a1 : Int32) (D : DD) : Option RT := (cI (S_X12_cellAt a0 a1 D) (fun r3 D2 => (if r3 = (-1 : Int32) then some (1, none, D2) else (cI (S_X8_openAt r3 D2) (fun r6 D5 => (if vp_nar .boolean r6 = r6 then some (0, some (.int r6), D5) else none))))))
set_option maxRecDepth 100000 in
set_option maxHeartbeats 4000000 in
theorem c_X12_isOpen (l : Launch) (hfl : l.stackTraces = false) (G : va_G) (E : EE) (a0 : Int32) (a1 : Int32) (D : DD) (r : RT) (h : S_X12_isOpen a0 a1 D = some r) : MX l G E yX12_isOpen cX12_isOpen 4 (some .boolean) (rmx 6) [.ref (E.1 0), .int a0, .int a1] D r := by
  refine mx_of rfl (Nat.le_of_ble_eq_true rfl) ?_
  intro p e s m args below meth c X hr ht
  unfold S_X12_isOpen at h
  refine g_iload_n X 1 (i0 := 1) dX12_isOpen_0 rfl rfl ?_
  refine g_iload_n X 2 (i0 := 2) dX12_isOpen_1 rfl rfl ?_
  obtain ⟨r3, D2, e1, h⟩ := cI_s h
  refine g_S X (As := [.int a0, .int a1]) (rest := []) (c_X12_cellAt l G E a0 a1 _ _ e1) ks_X12_112 ⟨rfl, rfl⟩ hd_X12_cellAt (⟨Nat.le_of_ble_eq_true rfl, Nat.le_of_ble_eq_true rfl⟩) rfl rfl (Nat.le_of_ble_eq_true rfl) dX12_isOpen_2 ?_
  refine g_istore_n X (i0 := 3) (lv' := [(3, .int r3), (0, .ref (E.1 0)), (1, .int a0), (2, .int a1)]) dX12_isOpen_5 rfl (by decide) rfl ?_
  refine g_iload_n X 0 (i0 := 3) dX12_isOpen_6 rfl rfl ?_
  refine g_iconst X (v := (-1 : Int32)) dX12_isOpen_7 (by decide) ?_
  refine g_icmp_ne X (tgt := 21) dX12_isOpen_8 (by decide) (fun c8 => ?_) (fun c8 => ?_)
  · have h := (ite_s h).2 c8
    refine g_aload_n X 1 (i0 := 0) dX12_isOpen_21 rfl rfl ?_
    refine g_get X (D := D2) (v := .ref (E.1 1)) (T := TX12) 0 uX12 (wg_0 E _) rfl 0 (by decide) fl_X12_10 rfl rfl dX12_isOpen_22 ?_
    refine g_iload_n X 0 (i0 := 3) dX12_isOpen_25 rfl rfl ?_
    obtain ⟨r6, D5, e4, h⟩ := cI_s h
    refine g_V X (As := [.int r3]) (rest := []) (c_X8_openAt l G E r3 _ _ e4) 1 (wg_1 E _) rfl rfl kv_X12_135 ⟨rfl, rfl⟩ ⟨rfl, hd_X8_openAt⟩ (⟨Nat.le_of_ble_eq_true rfl, Nat.le_of_ble_eq_true rfl⟩) rfl rfl (Nat.le_of_ble_eq_true rfl) dX12_isOpen_26 ?_
    obtain ⟨n7, h⟩ := chk_s h
    exact gx_iret X hr (by first | exact congrArg Value.int n7 | (rw [show narrow .boolean (.int r6) = .int (vp_nar .boolean r6) from rfl, n7])) dX12_isOpen_29 (Option.some.inj h)
  · have h := (ite_s h).1 c8
    exact gx_throw X hfl ht (by decide +kernel) (by decide +kernel) wcl_X12_96 wini_1 wst_X12_122 wat_X12_100 wgo_X12_100 dX12_isOpen_11 dX12_isOpen_14 dX12_isOpen_15 dX12_isOpen_17 dX12_isOpen_20 (Nat.le_of_ble_eq_true rfl) (Nat.le_of_ble_eq_true rfl) (Nat.le_of_ble_eq_true rfl) (Nat.le_of_ble_eq_true rfl) (k := 1) (by decide) rfl (Option.some.inj h)
theorem hd_X8_countOpen : yX8_countOpen.cls ≠ "java/lang/invoke/MethodHandle" ∧ yX8_countOpen.cls ≠ "java/lang/invoke/VarHandle" ∧ (parseMethodDescriptor yX8_countOpen.desc).map (fun d => d.parameters.length) = some 0 := by decide +kernel
theorem wc_X8_countOpen : Cond.code yX8_countOpen cX8_countOpen 3 (some .int) ∈ UT := ut 368 (by decide +kernel) (by decide +kernel)
theorem we_X8_countOpen : Cond.selects RX8 yX8_countOpen yX8_countOpen ∈ UT := ut 367 (by decide +kernel) (by decide +kernel)
theorem wm_X8_countOpen : Cond.instanceMethod yX8_countOpen ∈ UT := ut 366 (by decide +kernel) (by decide +kernel)
theorem kv_X12_143 : GoodIn UT (wsV RX12 143 RX8 yX8_countOpen (Cond.code yX8_countOpen cX8_countOpen 3 (some .int) :: UT)) := gu_V (ut 365 (by decide +kernel) (by decide +kernel)) wm_X8_countOpen we_X8_countOpen wi_RX8 wc_X8_countOpen
def S_X12_openCount  (D : DD) : Option RT := (cI (S_X8_countOpen D) (fun r3 D2 => some (0, some (.int r3), D2)))
set_option maxRecDepth 100000 in
set_option maxHeartbeats 4000000 in
theorem c_X12_openCount (l : Launch) (G : va_G) (E : EE)  (D : DD) (r : RT) (h : S_X12_openCount  D = some r) : MM l G E yX12_openCount cX12_openCount 1 (some .int) (rmm 1) [.ref (E.1 0)] D r := by
  refine m_of rfl (Nat.le_of_ble_eq_true rfl) ?_
  intro p e s m args below meth c X hr
  unfold S_X12_openCount at h
  refine g_aload_n X 0 (i0 := 0) dX12_openCount_0 rfl rfl ?_
  refine g_get X (D := D) (v := .ref (E.1 1)) (T := TX12) 0 uX12 (wg_0 E _) rfl 0 (by decide) fl_X12_10 rfl rfl dX12_openCount_1 ?_
  obtain ⟨r3, D2, e1, h⟩ := cI_s h
  refine g_V X (As := []) (rest := []) (c_X8_countOpen l G E  _ _ e1) 1 (wg_1 E _) rfl rfl kv_X12_143 ⟨rfl, rfl⟩ ⟨rfl, hd_X8_countOpen⟩ (⟨Nat.le_of_ble_eq_true rfl, Nat.le_of_ble_eq_true rfl⟩) rfl rfl (Nat.le_of_ble_eq_true rfl) dX12_openCount_4 ?_
  exact g_iret X hr rfl dX12_openCount_7 (Option.some.inj h)
theorem fl_X12_32 : Cond.fieldLink RX12 32 "StoneQuarry" "veins" "LStoneQuarry$Veins;" ∈ UT := ut 319 (by decide +kernel) (by decide +kernel)
theorem hd_X11_countOf : yX11_countOf.cls ≠ "java/lang/invoke/MethodHandle" ∧ yX11_countOf.cls ≠ "java/lang/invoke/VarHandle" ∧ (parseMethodDescriptor yX11_countOf.desc).map (fun d => d.parameters.length) = some 2 := by decide +kernel
theorem ks_X12_147 : GoodIn UT (va_wsS RX12 147 yX12_inRange (Cond.code yX12_inRange cX12_inRange 3 (some .boolean) :: UT)) := gu_S (ut 822 (by decide +kernel) (by decide +kernel)) wt_X12_inRange wi_RX12 wc_X12_inRange
theorem wc_X11_countOf : Cond.code yX11_countOf cX11_countOf 5 (some .int) ∈ UT := ut 827 (by decide +kernel) (by decide +kernel)
theorem we_X11_countOf : Cond.selects RX11 yX11_countOf yX11_countOf ∈ UT := ut 826 (by decide +kernel) (by decide +kernel)
theorem wm_X11_countOf : Cond.instanceMethod yX11_countOf ∈ UT := ut 825 (by decide +kernel) (by decide +kernel)
theorem kv_X12_153 : GoodIn UT (wsV RX12 153 RX11 yX11_countOf (Cond.code yX11_countOf cX11_countOf 5 (some .int) :: UT)) := gu_V (ut 824 (by decide +kernel) (by decide +kernel)) wm_X11_countOf we_X11_countOf wi_RX11 wc_X11_countOf
theorem wst_X12_151 : ((RX12, 151, "hardness out of range") : String × Nat × String) ∈ STRS := by decide +kernel
def S_X12_veinCount (a0 : Int32) (D : DD) : Option RT := (cI (S_X12_inRange a0 (1 : Int32) (9 : Int32) D) (fun r3 D2 => (if r3 = 0 then some (1, none, D2) else (cI (S_X11_countOf a0 D2) (fun r6 D5 => some (0, some (.int r6), D5))))))
set_option maxRecDepth 100000 in
set_option maxHeartbeats 4000000 in
theorem c_X12_veinCount (l : Launch) (hfl : l.stackTraces = false) (G : va_G) (E : EE) (a0 : Int32) (D : DD) (r : RT) (h : S_X12_veinCount a0 D = some r) : MX l G E yX12_veinCount cX12_veinCount 2 (some .int) (rmx 6) [.ref (E.1 0), .int a0] D r := by
  refine mx_of rfl (Nat.le_of_ble_eq_true rfl) ?_
  intro p e s m args below meth c X hr ht
  unfold S_X12_veinCount at h
  refine g_iload_n X 1 (i0 := 1) dX12_veinCount_0 rfl rfl ?_
  refine g_iconst X (v := (1 : Int32)) dX12_veinCount_1 (by decide) ?_
  refine g_bipush X (v := (9 : Int32)) dX12_veinCount_2 (by decide) ?_
  obtain ⟨r3, D2, e1, h⟩ := cI_s h
  refine g_S X (As := [.int a0, .int (1 : Int32), .int (9 : Int32)]) (rest := []) (c_X12_inRange l G E a0 (1 : Int32) (9 : Int32) _ _ e1) ks_X12_147 ⟨rfl, rfl⟩ hd_X12_inRange (⟨Nat.le_of_ble_eq_true rfl, Nat.le_of_ble_eq_true rfl⟩) rfl rfl (Nat.le_of_ble_eq_true rfl) dX12_veinCount_4 ?_
  refine g_if_ne X (tgt := 20) dX12_veinCount_7 (by decide) (fun c7 => ?_) (fun c7 => ?_)
  · have h := (ite_s h).2 c7
    refine g_aload_n X 0 (i0 := 0) dX12_veinCount_20 rfl rfl ?_
    refine g_get X (D := D2) (v := .ref (E.1 58)) (T := TX12) 0 uX12 (wg_0 E _) rfl 4 (by decide) fl_X12_32 rfl rfl dX12_veinCount_21 ?_
    refine g_aload_n X 0 (i0 := 0) dX12_veinCount_24 rfl rfl ?_
    refine g_get X (D := D2) (v := .ref (E.1 1)) (T := TX12) 0 uX12 (wg_0 E _) rfl 0 (by decide) fl_X12_10 rfl rfl dX12_veinCount_25 ?_
    refine g_iload_n X 1 (i0 := 1) dX12_veinCount_28 rfl rfl ?_
    obtain ⟨r6, D5, e4, h⟩ := cI_s h
    refine g_V X (As := [.ref (E.1 1), .int a0]) (rest := []) (c_X11_countOf l G E a0 _ _ e4) 58 (wg_58 E _) rfl rfl kv_X12_153 ⟨rfl, rfl⟩ ⟨rfl, hd_X11_countOf⟩ (⟨Nat.le_of_ble_eq_true rfl, Nat.le_of_ble_eq_true rfl⟩) rfl rfl (Nat.le_of_ble_eq_true rfl) dX12_veinCount_29 ?_
    exact gx_iret X hr rfl dX12_veinCount_32 (Option.some.inj h)
  · have h := (ite_s h).1 c7
    exact gx_throw X hfl ht (by decide +kernel) (by decide +kernel) wcl_X12_96 wini_1 wst_X12_151 wat_X12_100 wgo_X12_100 dX12_veinCount_10 dX12_veinCount_13 dX12_veinCount_14 dX12_veinCount_16 dX12_veinCount_19 (Nat.le_of_ble_eq_true rfl) (Nat.le_of_ble_eq_true rfl) (Nat.le_of_ble_eq_true rfl) (Nat.le_of_ble_eq_true rfl) (k := 1) (by decide) rfl (Option.some.inj h)
theorem hd_X11_sizeFrom : yX11_sizeFrom.cls ≠ "java/lang/invoke/MethodHandle" ∧ yX11_sizeFrom.cls ≠ "java/lang/invoke/VarHandle" ∧ (parseMethodDescriptor yX11_sizeFrom.desc).map (fun d => d.parameters.length) = some 2 := by decide +kernel
theorem wc_X11_sizeFrom : Cond.code yX11_sizeFrom cX11_sizeFrom 3 (some .int) ∈ UT := ut 855 (by decide +kernel) (by decide +kernel)
theorem we_X11_sizeFrom : Cond.selects RX11 yX11_sizeFrom yX11_sizeFrom ∈ UT := ut 854 (by decide +kernel) (by decide +kernel)
theorem wm_X11_sizeFrom : Cond.instanceMethod yX11_sizeFrom ∈ UT := ut 853 (by decide +kernel) (by decide +kernel)
theorem kv_X12_157 : GoodIn UT (wsV RX12 157 RX11 yX11_sizeFrom (Cond.code yX11_sizeFrom cX11_sizeFrom 3 (some .int) :: UT)) := gu_V (ut 852 (by decide +kernel) (by decide +kernel)) wm_X11_sizeFrom we_X11_sizeFrom wi_RX11 wc_X11_sizeFrom
def S_X12_veinSize (a0 : Int32) (a1 : Int32) (D : DD) : Option RT := (cI (S_X12_cellAt a0 a1 D) (fun r3 D2 => (if r3 = (-1 : Int32) then some (1, none, D2) else (cI (S_X8_openAt r3 D2) (fun r6 D5 => (if r6 = 0 then (cI (S_X11_sizeFrom r3 D5) (fun r9 D8 => some (0, some (.int r9), D8))) else some (2, none, D5)))))))
set_option maxRecDepth 100000 in
set_option maxHeartbeats 4000000 in
theorem c_X12_veinSize (l : Launch) (hfl : l.stackTraces = false) (G : va_G) (E : EE) (a0 : Int32) (a1 : Int32) (D : DD) (r : RT) (h : S_X12_veinSize a0 a1 D = some r) : MX l G E yX12_veinSize cX12_veinSize 4 (some .int) (rmx 6) [.ref (E.1 0), .int a0, .int a1] D r := by
  refine mx_of rfl (Nat.le_of_ble_eq_true rfl) ?_
  intro p e s m args below meth c X hr ht
  unfold S_X12_veinSize at h
  refine g_iload_n X 1 (i0 := 1) dX12_veinSize_0 rfl rfl ?_
  refine g_iload_n X 2 (i0 := 2) dX12_veinSize_1 rfl rfl ?_
  obtain ⟨r3, D2, e1, h⟩ := cI_s h
  refine g_S X (As := [.int a0, .int a1]) (rest := []) (c_X12_cellAt l G E a0 a1 _ _ e1) ks_X12_112 ⟨rfl, rfl⟩ hd_X12_cellAt (⟨Nat.le_of_ble_eq_true rfl, Nat.le_of_ble_eq_true rfl⟩) rfl rfl (Nat.le_of_ble_eq_true rfl) dX12_veinSize_2 ?_
  refine g_istore_n X (i0 := 3) (lv' := [(3, .int r3), (0, .ref (E.1 0)), (1, .int a0), (2, .int a1)]) dX12_veinSize_5 rfl (by decide) rfl ?_
  refine g_iload_n X 0 (i0 := 3) dX12_veinSize_6 rfl rfl ?_
  refine g_iconst X (v := (-1 : Int32)) dX12_veinSize_7 (by decide) ?_
  refine g_icmp_ne X (tgt := 21) dX12_veinSize_8 (by decide) (fun c11 => ?_) (fun c11 => ?_)
  · have h := (ite_s h).2 c11
    refine g_aload_n X 1 (i0 := 0) dX12_veinSize_21 rfl rfl ?_
    refine g_get X (D := D2) (v := .ref (E.1 1)) (T := TX12) 0 uX12 (wg_0 E _) rfl 0 (by decide) fl_X12_10 rfl rfl dX12_veinSize_22 ?_
    refine g_iload_n X 0 (i0 := 3) dX12_veinSize_25 rfl rfl ?_
    obtain ⟨r6, D5, e4, h⟩ := cI_s h
    refine g_V X (As := [.int r3]) (rest := []) (c_X8_openAt l G E r3 _ _ e4) 1 (wg_1 E _) rfl rfl kv_X12_135 ⟨rfl, rfl⟩ ⟨rfl, hd_X8_openAt⟩ (⟨Nat.le_of_ble_eq_true rfl, Nat.le_of_ble_eq_true rfl⟩) rfl rfl (Nat.le_of_ble_eq_true rfl) dX12_veinSize_26 ?_
    refine g_if_eq X (tgt := 42) dX12_veinSize_29 (by decide) (fun c10 => ?_) (fun c10 => ?_)
    · have h := (ite_s h).1 c10
      refine g_aload_n X 1 (i0 := 0) dX12_veinSize_42 rfl rfl ?_
      refine g_get X (D := D5) (v := .ref (E.1 58)) (T := TX12) 0 uX12 (wg_0 E _) rfl 4 (by decide) fl_X12_32 rfl rfl dX12_veinSize_43 ?_
      refine g_aload_n X 1 (i0 := 0) dX12_veinSize_46 rfl rfl ?_
      refine g_get X (D := D5) (v := .ref (E.1 1)) (T := TX12) 0 uX12 (wg_0 E _) rfl 0 (by decide) fl_X12_10 rfl rfl dX12_veinSize_47 ?_
      refine g_iload_n X 0 (i0 := 3) dX12_veinSize_50 rfl rfl ?_
      obtain ⟨r9, D8, e7, h⟩ := cI_s h
      refine g_V X (As := [.ref (E.1 1), .int r3]) (rest := []) (c_X11_sizeFrom l G E r3 _ _ e7) 58 (wg_58 E _) rfl rfl kv_X12_157 ⟨rfl, rfl⟩ ⟨rfl, hd_X11_sizeFrom⟩ (⟨Nat.le_of_ble_eq_true rfl, Nat.le_of_ble_eq_true rfl⟩) rfl rfl (Nat.le_of_ble_eq_true rfl) dX12_veinSize_51 ?_
      exact gx_iret X hr rfl dX12_veinSize_54 (Option.some.inj h)
    · have h := (ite_s h).2 c10
      exact gx_throw X hfl ht (by decide +kernel) (by decide +kernel) wcl_X12_103 wini_2 wst_X12_105 wat_X12_107 wgo_X12_107 dX12_veinSize_32 dX12_veinSize_35 dX12_veinSize_36 dX12_veinSize_38 dX12_veinSize_41 (Nat.le_of_ble_eq_true rfl) (Nat.le_of_ble_eq_true rfl) (Nat.le_of_ble_eq_true rfl) (Nat.le_of_ble_eq_true rfl) (k := 2) (by decide) rfl (Option.some.inj h)
  · have h := (ite_s h).1 c11
    exact gx_throw X hfl ht (by decide +kernel) (by decide +kernel) wcl_X12_96 wini_1 wst_X12_122 wat_X12_100 wgo_X12_100 dX12_veinSize_11 dX12_veinSize_14 dX12_veinSize_15 dX12_veinSize_17 dX12_veinSize_20 (Nat.le_of_ble_eq_true rfl) (Nat.le_of_ble_eq_true rfl) (Nat.le_of_ble_eq_true rfl) (Nat.le_of_ble_eq_true rfl) (k := 1) (by decide) rfl (Option.some.inj h)
theorem hd_X8_faultOfLaying : yX8_faultOfLaying.cls ≠ "java/lang/invoke/MethodHandle" ∧ yX8_faultOfLaying.cls ≠ "java/lang/invoke/VarHandle" ∧ (parseMethodDescriptor yX8_faultOfLaying.desc).map (fun d => d.parameters.length) = some 3 := by decide +kernel
theorem hd_X8_lay : yX8_lay.cls ≠ "java/lang/invoke/MethodHandle" ∧ yX8_lay.cls ≠ "java/lang/invoke/VarHandle" ∧ (parseMethodDescriptor yX8_lay.desc).map (fun d => d.parameters.length) = some 2 := by decide +kernel
theorem wc_X8_faultOfLaying : Cond.code yX8_faultOfLaying cX8_faultOfLaying 5 (some .int) ∈ UT := ut 866 (by decide +kernel) (by decide +kernel)
theorem we_X8_faultOfLaying : Cond.selects RX8 yX8_faultOfLaying yX8_faultOfLaying ∈ UT := ut 865 (by decide +kernel) (by decide +kernel)
theorem wm_X8_faultOfLaying : Cond.instanceMethod yX8_faultOfLaying ∈ UT := ut 864 (by decide +kernel) (by decide +kernel)
theorem kv_X12_160 : GoodIn UT (wsV RX12 160 RX8 yX8_faultOfLaying (Cond.code yX8_faultOfLaying cX8_faultOfLaying 5 (some .int) :: UT)) := gu_V (ut 863 (by decide +kernel) (by decide +kernel)) wm_X8_faultOfLaying we_X8_faultOfLaying wi_RX8 wc_X8_faultOfLaying
theorem wc_X8_lay : Cond.code yX8_lay cX8_lay 4 (some .int) ∈ UT := ut 872 (by decide +kernel) (by decide +kernel)
theorem we_X8_lay : Cond.selects RX8 yX8_lay yX8_lay ∈ UT := ut 871 (by decide +kernel) (by decide +kernel)
theorem wm_X8_lay : Cond.instanceMethod yX8_lay ∈ UT := ut 870 (by decide +kernel) (by decide +kernel)
theorem kv_X12_167 : GoodIn UT (wsV RX12 167 RX8 yX8_lay (Cond.code yX8_lay cX8_lay 4 (some .int) :: UT)) := gu_V (ut 869 (by decide +kernel) (by decide +kernel)) wm_X8_lay we_X8_lay wi_RX8 wc_X8_lay
theorem wst_X12_163 : ((RX12, 163, "no such cell, or strength out of range") : String × Nat × String) ∈ STRS := by decide +kernel
theorem wst_X12_165 : ((RX12, 165, "too many charges, or no free rock cell") : String × Nat × String) ∈ STRS := by decide +kernel
def S_X12_addCharge (a0 : Int32) (a1 : Int32) (a2 : Int32) (D : DD) : Option RT := (cI (S_X8_faultOfLaying a0 a1 a2 D) (fun r3 D2 => (if r3 = (1 : Int32) then some (1, none, D2) else (if r3 = (2 : Int32) then some (2, none, D2) else (cV (S_X6_remember D2) (fun D5 => (cI (S_X12_cellAt a0 a1 D5) (fun r8 D7 => (cI (S_X8_lay r8 a2 D7) (fun r11 D10 => some (0, some (.int r11), D10)))))))))))
set_option maxRecDepth 100000 in
set_option maxHeartbeats 4000000 in
theorem c_X12_addCharge (l : Launch) (hfl : l.stackTraces = false) (G : va_G) (E : EE) (a0 : Int32) (a1 : Int32) (a2 : Int32) (D : DD) (r : RT) (h : S_X12_addCharge a0 a1 a2 D = some r) : MX l G E yX12_addCharge cX12_addCharge 5 (some .int) (rmx 6) [.ref (E.1 0), .int a0, .int a1, .int a2] D r := by
  refine mx_of rfl (Nat.le_of_ble_eq_true rfl) ?_
  intro p e s m args below meth c X hr ht
  unfold S_X12_addCharge at h
  refine g_aload_n X 0 (i0 := 0) dX12_addCharge_0 rfl rfl ?_
  refine g_get X (D := D) (v := .ref (E.1 1)) (T := TX12) 0 uX12 (wg_0 E _) rfl 0 (by decide) fl_X12_10 rfl rfl dX12_addCharge_1 ?_
  refine g_iload_n X 1 (i0 := 1) dX12_addCharge_4 rfl rfl ?_
  refine g_iload_n X 2 (i0 := 2) dX12_addCharge_5 rfl rfl ?_
  refine g_iload_n X 3 (i0 := 3) dX12_addCharge_6 rfl rfl ?_
  obtain ⟨r3, D2, e1, h⟩ := cI_s h
  refine g_V X (As := [.int a0, .int a1, .int a2]) (rest := []) (c_X8_faultOfLaying l G E a0 a1 a2 _ _ e1) 1 (wg_1 E _) rfl rfl kv_X12_160 ⟨rfl, rfl⟩ ⟨rfl, hd_X8_faultOfLaying⟩ (⟨Nat.le_of_ble_eq_true rfl, Nat.le_of_ble_eq_true rfl⟩) rfl rfl (Nat.le_of_ble_eq_true rfl) dX12_addCharge_7 ?_
  refine g_istore X (lv' := [(4, .int r3), (0, .ref (E.1 0)), (1, .int a0), (2, .int a1), (3, .int a2)]) dX12_addCharge_10 (by decide) rfl ?_
  refine g_iload X 0 dX12_addCharge_12 rfl ?_
  refine g_iconst X (v := (1 : Int32)) dX12_addCharge_14 (by decide) ?_
  refine g_icmp_ne X (tgt := 28) dX12_addCharge_15 (by decide) (fun c13 => ?_) (fun c13 => ?_)
  · have h := (ite_s h).2 c13
    refine g_iload X 0 dX12_addCharge_28 rfl ?_
    refine g_iconst X (v := (2 : Int32)) dX12_addCharge_30 (by decide) ?_
    refine g_icmp_ne X (tgt := 44) dX12_addCharge_31 (by decide) (fun c12 => ?_) (fun c12 => ?_)
    · have h := (ite_s h).2 c12
      refine g_aload_n X 1 (i0 := 0) dX12_addCharge_44 rfl rfl ?_
      refine g_get X (D := D2) (v := .ref (E.1 16)) (T := TX12) 0 uX12 (wg_0 E _) rfl 3 (by decide) fl_X12_25 rfl rfl dX12_addCharge_45 ?_
      refine g_aload_n X 1 (i0 := 0) dX12_addCharge_48 rfl rfl ?_
      refine g_get X (D := D2) (v := .ref (E.1 1)) (T := TX12) 0 uX12 (wg_0 E _) rfl 0 (by decide) fl_X12_10 rfl rfl dX12_addCharge_49 ?_
      obtain ⟨D5, e4, h⟩ := cV_s h
      refine g_V X (As := [.ref (E.1 1)]) (rest := []) (c_X6_remember l G E  _ _ e4) 16 (wg_16 E _) rfl rfl kv_X12_108 ⟨rfl, rfl⟩ ⟨rfl, hd_X6_remember⟩ (⟨Nat.le_of_ble_eq_true rfl, Nat.le_of_ble_eq_true rfl⟩) rfl rfl (Nat.le_of_ble_eq_true rfl) dX12_addCharge_52 ?_
      refine g_aload_n X 1 (i0 := 0) dX12_addCharge_55 rfl rfl ?_
      refine g_get X (D := D5) (v := .ref (E.1 1)) (T := TX12) 0 uX12 (wg_0 E _) rfl 0 (by decide) fl_X12_10 rfl rfl dX12_addCharge_56 ?_
      refine g_iload_n X 2 (i0 := 1) dX12_addCharge_59 rfl rfl ?_
      refine g_iload_n X 3 (i0 := 2) dX12_addCharge_60 rfl rfl ?_
      obtain ⟨r8, D7, e6, h⟩ := cI_s h
      refine g_S X (As := [.int a0, .int a1]) (rest := [.ref (E.1 1)]) (c_X12_cellAt l G E a0 a1 _ _ e6) ks_X12_112 ⟨rfl, rfl⟩ hd_X12_cellAt (⟨Nat.le_of_ble_eq_true rfl, Nat.le_of_ble_eq_true rfl⟩) rfl rfl (Nat.le_of_ble_eq_true rfl) dX12_addCharge_61 ?_
      refine g_iload_n X 4 (i0 := 3) dX12_addCharge_64 rfl rfl ?_
      obtain ⟨r11, D10, e9, h⟩ := cI_s h
      refine g_V X (As := [.int r8, .int a2]) (rest := []) (c_X8_lay l G E r8 a2 _ _ e9) 1 (wg_1 E _) rfl rfl kv_X12_167 ⟨rfl, rfl⟩ ⟨rfl, hd_X8_lay⟩ (⟨Nat.le_of_ble_eq_true rfl, Nat.le_of_ble_eq_true rfl⟩) rfl rfl (Nat.le_of_ble_eq_true rfl) dX12_addCharge_65 ?_
      exact gx_iret X hr rfl dX12_addCharge_68 (Option.some.inj h)
    · have h := (ite_s h).1 c12
      exact gx_throw X hfl ht (by decide +kernel) (by decide +kernel) wcl_X12_103 wini_2 wst_X12_165 wat_X12_107 wgo_X12_107 dX12_addCharge_34 dX12_addCharge_37 dX12_addCharge_38 dX12_addCharge_40 dX12_addCharge_43 (Nat.le_of_ble_eq_true rfl) (Nat.le_of_ble_eq_true rfl) (Nat.le_of_ble_eq_true rfl) (Nat.le_of_ble_eq_true rfl) (k := 2) (by decide) rfl (Option.some.inj h)
  · have h := (ite_s h).1 c13
    exact gx_throw X hfl ht (by decide +kernel) (by decide +kernel) wcl_X12_96 wini_1 wst_X12_163 wat_X12_100 wgo_X12_100 dX12_addCharge_18 dX12_addCharge_21 dX12_addCharge_22 dX12_addCharge_24 dX12_addCharge_27 (Nat.le_of_ble_eq_true rfl) (Nat.le_of_ble_eq_true rfl) (Nat.le_of_ble_eq_true rfl) (Nat.le_of_ble_eq_true rfl) (k := 1) (by decide) rfl (Option.some.inj h)
theorem hd_X8_takeAway : yX8_takeAway.cls ≠ "java/lang/invoke/MethodHandle" ∧ yX8_takeAway.cls ≠ "java/lang/invoke/VarHandle" ∧ (parseMethodDescriptor yX8_takeAway.desc).map (fun d => d.parameters.length) = some 1 := by decide +kernel
theorem kv_X12_170 : GoodIn UT (wsV RX12 170 RX8 yX8_hasCharge (Cond.code yX8_hasCharge cX8_hasCharge 2 (some .boolean) :: UT)) := gu_V (ut 904 (by decide +kernel) (by decide +kernel)) wm_X8_hasCharge we_X8_hasCharge wi_RX8 wc_X8_hasCharge
theorem wc_X8_takeAway : Cond.code yX8_takeAway cX8_takeAway 4 (some .int) ∈ UT := ut 921 (by decide +kernel) (by decide +kernel)
theorem we_X8_takeAway : Cond.selects RX8 yX8_takeAway yX8_takeAway ∈ UT := ut 920 (by decide +kernel) (by decide +kernel)
theorem wm_X8_takeAway : Cond.instanceMethod yX8_takeAway ∈ UT := ut 919 (by decide +kernel) (by decide +kernel)
theorem kv_X12_178 : GoodIn UT (wsV RX12 178 RX8 yX8_takeAway (Cond.code yX8_takeAway cX8_takeAway 4 (some .int) :: UT)) := gu_V (ut 918 (by decide +kernel) (by decide +kernel)) wm_X8_takeAway we_X8_takeAway wi_RX8 wc_X8_takeAway
theorem wat_X12_177 : ∀ w ∈ vx_atS RX12 177 "java/lang/IndexOutOfBoundsException" ["java/lang/RuntimeException", "java/lang/Exception"], w ∈ UT ∨ w ∈ NEST := at_of (by decide +kernel)
theorem wcl_X12_173 : Cond.classLink RX12 173 "java/lang/IndexOutOfBoundsException" ∈ UT := ut 905 (by decide +kernel) (by decide +kernel)
theorem wgo_X12_177 : ∀ w ∈ Cond.classLink RX12 173 "java/lang/IndexOutOfBoundsException" :: Cond.initialized "java/lang/IndexOutOfBoundsException" :: vx_atS RX12 177 "java/lang/IndexOutOfBoundsException" ["java/lang/RuntimeException", "java/lang/Exception"], vx_ot w = true := List.all_eq_true.mp (by decide +kernel)
theorem wini_4 : Cond.initialized "java/lang/IndexOutOfBoundsException" ∈ UT := ut 96 (by decide +kernel) (by decide +kernel)
theorem wst_X12_175 : ((RX12, 175, "no such charge") : String × Nat × String) ∈ STRS := by decide +kernel
def S_X12_removeCharge (a0 : Int32) (D : DD) : Option RT := (cI (S_X8_hasCharge a0 D) (fun r3 D2 => (if r3 = 0 then some (4, none, D2) else (cV (S_X6_remember D2) (fun D5 => (cI (S_X8_takeAway a0 D5) (fun r8 D7 => some (0, some (.int r8), D7))))))))
set_option maxRecDepth 100000 in
set_option maxHeartbeats 4000000 in
theorem c_X12_removeCharge (l : Launch) (hfl : l.stackTraces = false) (G : va_G) (E : EE) (a0 : Int32) (D : DD) (r : RT) (h : S_X12_removeCharge a0 D = some r) : MX l G E yX12_removeCharge cX12_removeCharge 2 (some .int) (rmx 6) [.ref (E.1 0), .int a0] D r := by
  refine mx_of rfl (Nat.le_of_ble_eq_true rfl) ?_
  intro p e s m args below meth c X hr ht
  unfold S_X12_removeCharge at h
  refine g_aload_n X 0 (i0 := 0) dX12_removeCharge_0 rfl rfl ?_
  refine g_get X (D := D) (v := .ref (E.1 1)) (T := TX12) 0 uX12 (wg_0 E _) rfl 0 (by decide) fl_X12_10 rfl rfl dX12_removeCharge_1 ?_
  refine g_iload_n X 1 (i0 := 1) dX12_removeCharge_4 rfl rfl ?_
  obtain ⟨r3, D2, e1, h⟩ := cI_s h
  refine g_V X (As := [.int a0]) (rest := []) (c_X8_hasCharge l G E a0 _ _ e1) 1 (wg_1 E _) rfl rfl kv_X12_170 ⟨rfl, rfl⟩ ⟨rfl, hd_X8_hasCharge⟩ (⟨Nat.le_of_ble_eq_true rfl, Nat.le_of_ble_eq_true rfl⟩) rfl rfl (Nat.le_of_ble_eq_true rfl) dX12_removeCharge_5 ?_
  refine g_if_ne X (tgt := 21) dX12_removeCharge_8 (by decide) (fun c9 => ?_) (fun c9 => ?_)
  · have h := (ite_s h).2 c9
    refine g_aload_n X 0 (i0 := 0) dX12_removeCharge_21 rfl rfl ?_
    refine g_get X (D := D2) (v := .ref (E.1 16)) (T := TX12) 0 uX12 (wg_0 E _) rfl 3 (by decide) fl_X12_25 rfl rfl dX12_removeCharge_22 ?_
    refine g_aload_n X 0 (i0 := 0) dX12_removeCharge_25 rfl rfl ?_
    refine g_get X (D := D2) (v := .ref (E.1 1)) (T := TX12) 0 uX12 (wg_0 E _) rfl 0 (by decide) fl_X12_10 rfl rfl dX12_removeCharge_26 ?_
    obtain ⟨D5, e4, h⟩ := cV_s h
    refine g_V X (As := [.ref (E.1 1)]) (rest := []) (c_X6_remember l G E  _ _ e4) 16 (wg_16 E _) rfl rfl kv_X12_108 ⟨rfl, rfl⟩ ⟨rfl, hd_X6_remember⟩ (⟨Nat.le_of_ble_eq_true rfl, Nat.le_of_ble_eq_true rfl⟩) rfl rfl (Nat.le_of_ble_eq_true rfl) dX12_removeCharge_29 ?_
    refine g_aload_n X 0 (i0 := 0) dX12_removeCharge_32 rfl rfl ?_
    refine g_get X (D := D5) (v := .ref (E.1 1)) (T := TX12) 0 uX12 (wg_0 E _) rfl 0 (by decide) fl_X12_10 rfl rfl dX12_removeCharge_33 ?_
    refine g_iload_n X 1 (i0 := 1) dX12_removeCharge_36 rfl rfl ?_
    obtain ⟨r8, D7, e6, h⟩ := cI_s h
    refine g_V X (As := [.int a0]) (rest := []) (c_X8_takeAway l G E a0 _ _ e6) 1 (wg_1 E _) rfl rfl kv_X12_178 ⟨rfl, rfl⟩ ⟨rfl, hd_X8_takeAway⟩ (⟨Nat.le_of_ble_eq_true rfl, Nat.le_of_ble_eq_true rfl⟩) rfl rfl (Nat.le_of_ble_eq_true rfl) dX12_removeCharge_37 ?_
    exact gx_iret X hr rfl dX12_removeCharge_40 (Option.some.inj h)
  · have h := (ite_s h).1 c9
    exact gx_throw X hfl ht (by decide +kernel) (by decide +kernel) wcl_X12_173 wini_4 wst_X12_175 wat_X12_177 wgo_X12_177 dX12_removeCharge_11 dX12_removeCharge_14 dX12_removeCharge_15 dX12_removeCharge_17 dX12_removeCharge_20 (Nat.le_of_ble_eq_true rfl) (Nat.le_of_ble_eq_true rfl) (Nat.le_of_ble_eq_true rfl) (Nat.le_of_ble_eq_true rfl) (k := 4) (by decide) rfl (Option.some.inj h)
theorem fl_X12_203 : Cond.fieldLink RX12 203 "StoneQuarry$Blast" "openedCount" "I" ∈ UT := ut 206 (by decide +kernel) (by decide +kernel)
theorem fl_X12_39 : Cond.fieldLink RX12 39 "StoneQuarry" "blast" "LStoneQuarry$Blast;" ∈ UT := ut 320 (by decide +kernel) (by decide +kernel)
theorem hd_X1_run : yX1_run.cls ≠ "java/lang/invoke/MethodHandle" ∧ yX1_run.cls ≠ "java/lang/invoke/VarHandle" ∧ (parseMethodDescriptor yX1_run.desc).map (fun d => d.parameters.length) = some 2 := by decide +kernel
theorem hd_X8_applyBlast : yX8_applyBlast.cls ≠ "java/lang/invoke/MethodHandle" ∧ yX8_applyBlast.cls ≠ "java/lang/invoke/VarHandle" ∧ (parseMethodDescriptor yX8_applyBlast.desc).map (fun d => d.parameters.length) = some 1 := by decide +kernel
theorem wc_X1_run : Cond.code yX1_run cX1_run 4 none ∈ UT := ut 579 (by decide +kernel) (by decide +kernel)
theorem we_X1_run : Cond.selects RX1 yX1_run yX1_run ∈ UT := ut 578 (by decide +kernel) (by decide +kernel)
theorem wm_X1_run : Cond.instanceMethod yX1_run ∈ UT := ut 577 (by decide +kernel) (by decide +kernel)
theorem kv_X12_193 : GoodIn UT (wsV RX12 193 RX1 yX1_run (Cond.code yX1_run cX1_run 4 none :: UT)) := gu_V (ut 576 (by decide +kernel) (by decide +kernel)) wm_X1_run we_X1_run wi_RX1 wc_X1_run
theorem wc_X8_applyBlast : Cond.code yX8_applyBlast cX8_applyBlast 4 none ∈ UT := ut 940 (by decide +kernel) (by decide +kernel)
theorem we_X8_applyBlast : Cond.selects RX8 yX8_applyBlast yX8_applyBlast ∈ UT := ut 939 (by decide +kernel) (by decide +kernel)
theorem wm_X8_applyBlast : Cond.instanceMethod yX8_applyBlast ∈ UT := ut 938 (by decide +kernel) (by decide +kernel)
theorem kv_X12_363 : GoodIn UT (wsV RX12 363 RX8 yX8_applyBlast (Cond.code yX8_applyBlast cX8_applyBlast 4 none :: UT)) := gu_V (ut 937 (by decide +kernel) (by decide +kernel)) wm_X8_applyBlast we_X8_applyBlast wi_RX8 wc_X8_applyBlast
def S_X12_blowUp (a0 : Int32) (D : DD) : Option RT := (cV (S_X1_run a0 D) (fun D2 => (cV (S_X8_applyBlast D2) (fun D4 => some (0, some (.int (D4.1 127)), D4)))))
set_option maxRecDepth 100000 in
set_option maxHeartbeats 4000000 in
theorem c_X12_blowUp (l : Launch) (G : va_G) (E : EE) (a0 : Int32) (D : DD) (r : RT) (h : S_X12_blowUp a0 D = some r) : MM l G E yX12_blowUp cX12_blowUp 2 (some .int) (rmm 4) [.ref (E.1 0), .int a0] D r := by
  refine m_of rfl (Nat.le_of_ble_eq_true rfl) ?_
  intro p e s m args below meth c X hr
  unfold S_X12_blowUp at h
  refine g_aload_n X 0 (i0 := 0) dX12_blowUp_0 rfl rfl ?_
  refine g_get X (D := D) (v := .ref (E.1 61)) (T := TX12) 0 uX12 (wg_0 E _) rfl 5 (by decide) fl_X12_39 rfl rfl dX12_blowUp_1 ?_
  refine g_aload_n X 0 (i0 := 0) dX12_blowUp_4 rfl rfl ?_
  refine g_get X (D := D) (v := .ref (E.1 1)) (T := TX12) 0 uX12 (wg_0 E _) rfl 0 (by decide) fl_X12_10 rfl rfl dX12_blowUp_5 ?_
  refine g_iload_n X 1 (i0 := 1) dX12_blowUp_8 rfl rfl ?_
  obtain ⟨D2, e1, h⟩ := cV_s h
  refine g_V X (As := [.ref (E.1 1), .int a0]) (rest := []) (c_X1_run l G E a0 _ _ e1) 61 (wg_61 E _) rfl rfl kv_X12_193 ⟨rfl, rfl⟩ ⟨rfl, hd_X1_run⟩ (⟨Nat.le_of_ble_eq_true rfl, Nat.le_of_ble_eq_true rfl⟩) rfl rfl (Nat.le_of_ble_eq_true rfl) dX12_blowUp_9 ?_
  refine g_aload_n X 0 (i0 := 0) dX12_blowUp_12 rfl rfl ?_
  refine g_get X (D := D2) (v := .ref (E.1 1)) (T := TX12) 0 uX12 (wg_0 E _) rfl 0 (by decide) fl_X12_10 rfl rfl dX12_blowUp_13 ?_
  refine g_aload_n X 0 (i0 := 0) dX12_blowUp_16 rfl rfl ?_
  refine g_get X (D := D2) (v := .ref (E.1 61)) (T := TX12) 0 uX12 (wg_0 E _) rfl 5 (by decide) fl_X12_39 rfl rfl dX12_blowUp_17 ?_
  obtain ⟨D4, e3, h⟩ := cV_s h
  refine g_V X (As := [.ref (E.1 61)]) (rest := []) (c_X8_applyBlast l G E  _ _ e3) 1 (wg_1 E _) rfl rfl kv_X12_363 ⟨rfl, rfl⟩ ⟨rfl, hd_X8_applyBlast⟩ (⟨Nat.le_of_ble_eq_true rfl, Nat.le_of_ble_eq_true rfl⟩) rfl rfl (Nat.le_of_ble_eq_true rfl) dX12_blowUp_20 ?_
  refine g_aload_n X 0 (i0 := 0) dX12_blowUp_23 rfl rfl ?_
  refine g_get X (D := D4) (v := .ref (E.1 61)) (T := TX12) 0 uX12 (wg_0 E _) rfl 5 (by decide) fl_X12_39 rfl rfl dX12_blowUp_24 ?_
  refine g_get X (D := D4) (v := .int (D4.1 127)) (T := TX1) 61 uX1 (wg_61 E _) rfl 4 (by decide) fl_X12_203 rfl rfl dX12_blowUp_27 ?_
  exact g_iret X hr rfl dX12_blowUp_30 (Option.some.inj h)
theorem hd_X12_blowUp : yX12_blowUp.cls ≠ "java/lang/invoke/MethodHandle" ∧ yX12_blowUp.cls ≠ "java/lang/invoke/VarHandle" ∧ (parseMethodDescriptor yX12_blowUp.desc).map (fun d => d.parameters.length) = some 1 := by decide +kernel
theorem wc_X12_blowUp : Cond.code yX12_blowUp cX12_blowUp 2 (some .int) ∈ UT := ut 936 (by decide +kernel) (by decide +kernel)
theorem we_X12_blowUp : Cond.selects RX12 yX12_blowUp yX12_blowUp ∈ UT := ut 25 (by decide +kernel) (by decide +kernel)
theorem wm_X12_blowUp : Cond.instanceMethod yX12_blowUp ∈ UT := ut 935 (by decide +kernel) (by decide +kernel)
theorem kv_X12_181 : GoodIn UT (wsV RX12 181 RX12 yX12_blowUp (Cond.code yX12_blowUp cX12_blowUp 2 (some .int) :: UT)) := gu_V (ut 933 (by decide +kernel) (by decide +kernel)) wm_X12_blowUp we_X12_blowUp wi_RX12 wc_X12_blowUp
def S_X12_ignite (a0 : Int32) (D : DD) : Option RT := (cI (S_X8_hasCharge a0 D) (fun r3 D2 => (if r3 = 0 then some (4, none, D2) else (cV (S_X6_remember D2) (fun D5 => (cI (S_X12_blowUp a0 D5) (fun r8 D7 => some (0, some (.int r8), D7))))))))
set_option maxRecDepth 100000 in
set_option maxHeartbeats 4000000 in
theorem c_X12_ignite (l : Launch) (hfl : l.stackTraces = false) (G : va_G) (E : EE) (a0 : Int32) (D : DD) (r : RT) (h : S_X12_ignite a0 D = some r) : MX l G E yX12_ignite cX12_ignite 2 (some .int) (rmx 6) [.ref (E.1 0), .int a0] D r := by
  refine mx_of rfl (Nat.le_of_ble_eq_true rfl) ?_
  intro p e s m args below meth c X hr ht
  unfold S_X12_ignite at h
  refine g_aload_n X 0 (i0 := 0) dX12_ignite_0 rfl rfl ?_
  refine g_get X (D := D) (v := .ref (E.1 1)) (T := TX12) 0 uX12 (wg_0 E _) rfl 0 (by decide) fl_X12_10 rfl rfl dX12_ignite_1 ?_
  refine g_iload_n X 1 (i0 := 1) dX12_ignite_4 rfl rfl ?_
  obtain ⟨r3, D2, e1, h⟩ := cI_s h
  refine g_V X (As := [.int a0]) (rest := []) (c_X8_hasCharge l G E a0 _ _ e1) 1 (wg_1 E _) rfl rfl kv_X12_170 ⟨rfl, rfl⟩ ⟨rfl, hd_X8_hasCharge⟩ (⟨Nat.le_of_ble_eq_true rfl, Nat.le_of_ble_eq_true rfl⟩) rfl rfl (Nat.le_of_ble_eq_true rfl) dX12_ignite_5 ?_
  refine g_if_ne X (tgt := 21) dX12_ignite_8 (by decide) (fun c9 => ?_) (fun c9 => ?_)
  · have h := (ite_s h).2 c9
    refine g_aload_n X 0 (i0 := 0) dX12_ignite_21 rfl rfl ?_
    refine g_get X (D := D2) (v := .ref (E.1 16)) (T := TX12) 0 uX12 (wg_0 E _) rfl 3 (by decide) fl_X12_25 rfl rfl dX12_ignite_22 ?_
    refine g_aload_n X 0 (i0 := 0) dX12_ignite_25 rfl rfl ?_
    refine g_get X (D := D2) (v := .ref (E.1 1)) (T := TX12) 0 uX12 (wg_0 E _) rfl 0 (by decide) fl_X12_10 rfl rfl dX12_ignite_26 ?_
    obtain ⟨D5, e4, h⟩ := cV_s h
    refine g_V X (As := [.ref (E.1 1)]) (rest := []) (c_X6_remember l G E  _ _ e4) 16 (wg_16 E _) rfl rfl kv_X12_108 ⟨rfl, rfl⟩ ⟨rfl, hd_X6_remember⟩ (⟨Nat.le_of_ble_eq_true rfl, Nat.le_of_ble_eq_true rfl⟩) rfl rfl (Nat.le_of_ble_eq_true rfl) dX12_ignite_29 ?_
    refine g_aload_n X 0 (i0 := 0) dX12_ignite_32 rfl rfl ?_
    refine g_iload_n X 1 (i0 := 1) dX12_ignite_33 rfl rfl ?_
    obtain ⟨r8, D7, e6, h⟩ := cI_s h
    refine g_V X (As := [.int a0]) (rest := []) (c_X12_blowUp l G E a0 _ _ e6) 0 (wg_0 E _) rfl rfl kv_X12_181 ⟨rfl, rfl⟩ ⟨rfl, hd_X12_blowUp⟩ (⟨Nat.le_of_ble_eq_true rfl, Nat.le_of_ble_eq_true rfl⟩) rfl rfl (Nat.le_of_ble_eq_true rfl) dX12_ignite_34 ?_
    exact gx_iret X hr rfl dX12_ignite_37 (Option.some.inj h)
  · have h := (ite_s h).1 c9
    exact gx_throw X hfl ht (by decide +kernel) (by decide +kernel) wcl_X12_173 wini_4 wst_X12_175 wat_X12_177 wgo_X12_177 dX12_ignite_11 dX12_ignite_14 dX12_ignite_15 dX12_ignite_17 dX12_ignite_20 (Nat.le_of_ble_eq_true rfl) (Nat.le_of_ble_eq_true rfl) (Nat.le_of_ble_eq_true rfl) (Nat.le_of_ble_eq_true rfl) (k := 4) (by decide) rfl (Option.some.inj h)
theorem fl_X12_184 : Cond.fieldLink RX12 184 "StoneQuarry$QuarryState" "charges" "I" ∈ UT := ut 128 (by decide +kernel) (by decide +kernel)
def S_X12_chargeCount  (D : DD) : Option RT := some (0, some (.int (D.1 0)), D)
set_option maxRecDepth 100000 in
set_option maxHeartbeats 4000000 in
theorem c_X12_chargeCount (l : Launch) (G : va_G) (E : EE)  (D : DD) (r : RT) (h : S_X12_chargeCount  D = some r) : MM l G E yX12_chargeCount cX12_chargeCount 1 (some .int) (rmm 0) [.ref (E.1 0)] D r := by
  refine m_of rfl (Nat.le_of_ble_eq_true rfl) ?_
  intro p e s m args below meth c X hr
  unfold S_X12_chargeCount at h
  refine g_aload_n X 0 (i0 := 0) dX12_chargeCount_0 rfl rfl ?_
  refine g_get X (D := D) (v := .ref (E.1 1)) (T := TX12) 0 uX12 (wg_0 E _) rfl 0 (by decide) fl_X12_10 rfl rfl dX12_chargeCount_1 ?_
  refine g_get X (D := D) (v := .int (D.1 0)) (T := TX8) 1 uX8 (wg_1 E _) rfl 4 (by decide) fl_X12_184 rfl rfl dX12_chargeCount_4 ?_
  exact g_iret X hr rfl dX12_chargeCount_7 (Option.some.inj h)
theorem kv_X12_187 : GoodIn UT (wsV RX12 187 RX8 yX8_cellOf (Cond.code yX8_cellOf cX8_cellOf 2 (some .int) :: UT)) := gu_V (ut 950 (by decide +kernel) (by decide +kernel)) wm_X8_cellOf we_X8_cellOf wi_RX8 wc_X8_cellOf
def S_X12_chargeRow (a0 : Int32) (D : DD) : Option RT := (cI (S_X8_hasCharge a0 D) (fun r3 D2 => (if r3 = 0 then some (4, none, D2) else (cI (S_X8_cellOf a0 D2) (fun r6 D5 => some (0, some (.int (r6 / (6 : Int32))), D5))))))
set_option maxRecDepth 100000 in
set_option maxHeartbeats 4000000 in
theorem c_X12_chargeRow (l : Launch) (hfl : l.stackTraces = false) (G : va_G) (E : EE) (a0 : Int32) (D : DD) (r : RT) (h : S_X12_chargeRow a0 D = some r) : MX l G E yX12_chargeRow cX12_chargeRow 2 (some .int) (rmx 6) [.ref (E.1 0), .int a0] D r := by
  refine mx_of rfl (Nat.le_of_ble_eq_true rfl) ?_
  intro p e s m args below meth c X hr ht
  unfold S_X12_chargeRow at h
  refine g_aload_n X 0 (i0 := 0) dX12_chargeRow_0 rfl rfl ?_
  refine g_get X (D := D) (v := .ref (E.1 1)) (T := TX12) 0 uX12 (wg_0 E _) rfl 0 (by decide) fl_X12_10 rfl rfl dX12_chargeRow_1 ?_
  refine g_iload_n X 1 (i0 := 1) dX12_chargeRow_4 rfl rfl ?_
  obtain ⟨r3, D2, e1, h⟩ := cI_s h
  refine g_V X (As := [.int a0]) (rest := []) (c_X8_hasCharge l G E a0 _ _ e1) 1 (wg_1 E _) rfl rfl kv_X12_170 ⟨rfl, rfl⟩ ⟨rfl, hd_X8_hasCharge⟩ (⟨Nat.le_of_ble_eq_true rfl, Nat.le_of_ble_eq_true rfl⟩) rfl rfl (Nat.le_of_ble_eq_true rfl) dX12_chargeRow_5 ?_
  refine g_if_ne X (tgt := 21) dX12_chargeRow_8 (by decide) (fun c7 => ?_) (fun c7 => ?_)
  · have h := (ite_s h).2 c7
    refine g_aload_n X 0 (i0 := 0) dX12_chargeRow_21 rfl rfl ?_
    refine g_get X (D := D2) (v := .ref (E.1 1)) (T := TX12) 0 uX12 (wg_0 E _) rfl 0 (by decide) fl_X12_10 rfl rfl dX12_chargeRow_22 ?_
    refine g_iload_n X 1 (i0 := 1) dX12_chargeRow_25 rfl rfl ?_
    obtain ⟨r6, D5, e4, h⟩ := cI_s h
    refine g_V X (As := [.int a0]) (rest := []) (c_X8_cellOf l G E a0 _ _ e4) 1 (wg_1 E _) rfl rfl kv_X12_187 ⟨rfl, rfl⟩ ⟨rfl, hd_X8_cellOf⟩ (⟨Nat.le_of_ble_eq_true rfl, Nat.le_of_ble_eq_true rfl⟩) rfl rfl (Nat.le_of_ble_eq_true rfl) dX12_chargeRow_26 ?_
    refine g_bipush X (v := (6 : Int32)) dX12_chargeRow_29 (by decide) ?_
    refine g_idiv X (by decide) dX12_chargeRow_31 ?_
    exact gx_iret X hr rfl dX12_chargeRow_32 (Option.some.inj h)
  · have h := (ite_s h).1 c7
    exact gx_throw X hfl ht (by decide +kernel) (by decide +kernel) wcl_X12_173 wini_4 wst_X12_175 wat_X12_177 wgo_X12_177 dX12_chargeRow_11 dX12_chargeRow_14 dX12_chargeRow_15 dX12_chargeRow_17 dX12_chargeRow_20 (Nat.le_of_ble_eq_true rfl) (Nat.le_of_ble_eq_true rfl) (Nat.le_of_ble_eq_true rfl) (Nat.le_of_ble_eq_true rfl) (k := 4) (by decide) rfl (Option.some.inj h)
