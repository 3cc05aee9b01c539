theorem fl_X2_9 : Cond.fieldLink RX2 9 "StoneQuarry$Blocks" "heights" "[I" ∈ UT := ut 256 (by decide +kernel) (by decide +kernel)
theorem uX2 : ∀ w ∈ wsX20, w ∈ UT := ut_all (by decide +kernel) (by decide +kernel)
theorem wc_min : Cond.code Lib.Math.min.name Lib.Math.min.code 2 (some .int) ∈ UT := ut 417 (by decide +kernel) (by decide +kernel)
theorem wg_73 (E : EE) (D : DD) : (wd E D)[73]? = some (E.1 73, .inr (3, [.ref (E.1 74)])) := rfl
theorem wl_X2_48 : Cond.methodLink RX2 48 Lib.Math.min.name ∈ UT := ut 496 (by decide +kernel) (by decide +kernel)
theorem wm_min : Cond.static Lib.Math.min.name ∈ UT := ut 416 (by decide +kernel) (by decide +kernel)
def b_X2_largestUnderHeights_0  (D : DD) : Option ((Nat × List Int32 × DD) ⊕ RT) := some (.inl (1, [(0 : Int32), (0 : Int32)], D))
def b_X2_largestUnderHeights_1 (x1 : Int32) (x2 : Int32) (D : DD) : Option ((Nat × List Int32 × DD) ⊕ RT) := (if (6 : Int32) ≤ x2 then some (.inr (0, some (.int x1), D)) else some (.inl (2, [x1, x2, (6 : Int32), x2], D)))
def b_X2_largestUnderHeights_2 (x1 : Int32) (x2 : Int32) (x3 : Int32) (x4 : Int32) (D : DD) : Option ((Nat × List Int32 × DD) ⊕ RT) := (if (6 : Int32) ≤ x4 then some (.inl (1, [x1, (x2 + (1 : Int32))], D)) else (if inB x4 6 = true then some (.inl (2, [(if x1 < ((if ((D.2.2.1 61) x4.toNatClampNeg) < x3 then ((D.2.2.1 61) x4.toNatClampNeg) else x3) * ((x4 - x2) + (1 : Int32))) then ((if ((D.2.2.1 61) x4.toNatClampNeg) < x3 then ((D.2.2.1 61) x4.toNatClampNeg) else x3) * ((x4 - x2) + (1 : Int32))) else x1), x2, (if ((D.2.2.1 61) x4.toNatClampNeg) < x3 then ((D.2.2.1 61) x4.toNatClampNeg) else x3), (x4 + (1 : Int32))], D)) else none))
def T_X2_largestUnderHeights (k : Nat) (ls : List Int32) (D : DD) : Option ((Nat × List Int32 × DD) ⊕ RT) := match k, ls with
  | 0, [] => b_X2_largestUnderHeights_0  D
  | 1, [x1, x2] => b_X2_largestUnderHeights_1 x1 x2 D
  | 2, [x1, x2, x3, x4] => b_X2_largestUnderHeights_2 x1 x2 x3 x4 D
  | _, _ => none
def S_X2_largestUnderHeights  (D : DD) : Option RT := run T_X2_largestUnderHeights FUEL 0 [] D
def hg_X2_largestUnderHeights (p : Program) (l : Launch) (e : Env) (s : State) (m : MethodId) (args : Array Value) (below : List Frame) (meth : Method) (c : Code) (G : va_G) (E : EE) (r : RT) (k : Nat) (ls : List Int32) (D : DD) : Prop := match k, ls with
  | 0, [] => GW p l e (rmm 1) s m args below meth c G E 5 (MQ below (QR G E s.heap.size r) args s 0 0 (fr E s.heap.size)) 0 0 D 0 [(0, .ref (E.1 73))] []
  | 1, [x1, x2] => GW p l e (rmm 1) s m args below meth c G E 5 (MQ below (QR G E s.heap.size r) args s 0 0 (fr E s.heap.size)) 0 0 D 4 [(0, .ref (E.1 73)), (1, .int x1), (2, .int x2)] []
  | 2, [x1, x2, x3, x4] => GW p l e (rmm 1) s m args below meth c G E 5 (MQ below (QR G E s.heap.size r) args s 0 0 (fr E s.heap.size)) 0 0 D 16 [(0, .ref (E.1 73)), (1, .int x1), (2, .int x2), (3, .int x3), (4, .int x4)] []
  | _, _ => True
set_option maxRecDepth 100000 in
set_option maxHeartbeats 4000000 in
theorem bl_X2_largestUnderHeights_0 {p : Program} {l : Launch} {e : Env} {s : State} {m : MethodId} {args : Array Value} {below : List Frame} {meth : Method} {c : Code} {G : va_G} {E : EE} {r : RT} (X : CX p s m args meth c cX2_largestUnderHeights RX2 5 G E) (hr : meth.sig.returnType = (some .int))  (D : DD) (o : (Nat × List Int32 × DD) ⊕ RT) (h : b_X2_largestUnderHeights_0  D = some o) (h1 : ∀ x, o = .inl x → hg_X2_largestUnderHeights p l e s m args below meth c G E r x.1 x.2.1 x.2.2) (h2 : ∀ x, o = .inr x → x = r) : GW p l e (rmm 1) s m args below meth c G E 5 (MQ below (QR G E s.heap.size r) args s 0 0 (fr E s.heap.size)) 0 0 D 0 [(0, .ref (E.1 73))] [] := by
  unfold b_X2_largestUnderHeights_0 at h
  refine g_iconst X (v := (0 : Int32)) dX2_largestUnderHeights_0 (by decide) ?_
  refine g_istore_n X (i0 := 1) (lv' := [(1, .int (0 : Int32)), (0, .ref (E.1 73))]) dX2_largestUnderHeights_1 rfl (by decide) rfl ?_
  refine g_iconst X (v := (0 : Int32)) dX2_largestUnderHeights_2 (by decide) ?_
  refine g_istore_n X (i0 := 2) (lv' := [(2, .int (0 : Int32)), (1, .int (0 : Int32)), (0, .ref (E.1 73))]) dX2_largestUnderHeights_3 rfl (by decide) rfl ?_
  refine g_sub (lv' := [(0, .ref (E.1 73)), (1, .int (0 : Int32)), (2, .int (0 : Int32))]) [2, 1, 0] rfl ?_
  exact h1 _ (Option.some.inj h).symm
set_option maxRecDepth 100000 in
set_option maxHeartbeats 4000000 in
theorem bl_X2_largestUnderHeights_1 {p : Program} {l : Launch} {e : Env} {s : State} {m : MethodId} {args : Array Value} {below : List Frame} {meth : Method} {c : Code} {G : va_G} {E : EE} {r : RT} (X : CX p s m args meth c cX2_largestUnderHeights RX2 5 G E) (hr : meth.sig.returnType = (some .int)) (x1 : Int32) (x2 : Int32) (D : DD) (o : (Nat × List Int32 × DD) ⊕ RT) (h : b_X2_largestUnderHeights_1 x1 x2 D = some o) (h1 : ∀ x, o = .inl x → hg_X2_largestUnderHeights p l e s m args below meth c G E r x.1 x.2.1 x.2.2) (h2 : ∀ x, o = .inr x → x = r) : GW p l e (rmm 1) s m args below meth c G E 5 (MQ below (QR G E s.heap.size r) args s 0 0 (fr E s.heap.size)) 0 0 D 4 [(0, .ref (E.1 73)), (1, .int x1), (2, .int x2)] [] := by
  unfold b_X2_largestUnderHeights_1 at h
  refine g_iload_n X 2 (i0 := 2) dX2_largestUnderHeights_4 rfl rfl ?_
  refine g_bipush X (v := (6 : Int32)) dX2_largestUnderHeights_5 (by decide) ?_
  refine g_icmp_ge X (tgt := 60) dX2_largestUnderHeights_7 (by decide) (fun c1 => ?_) (fun c1 => ?_)
  · have h := (ite_s h).1 c1
    refine g_iload_n X 1 (i0 := 1) dX2_largestUnderHeights_60 rfl rfl ?_
    exact g_iret X hr rfl dX2_largestUnderHeights_61 (h2 _ (Option.some.inj h).symm)
  · have h := (ite_s h).2 c1
    refine g_bipush X (v := (6 : Int32)) dX2_largestUnderHeights_10 (by decide) ?_
    refine g_istore_n X (i0 := 3) (lv' := [(3, .int (6 : Int32)), (0, .ref (E.1 73)), (1, .int x1), (2, .int x2)]) dX2_largestUnderHeights_12 rfl (by decide) rfl ?_
    refine g_iload_n X 3 (i0 := 2) dX2_largestUnderHeights_13 rfl rfl ?_
    refine g_istore X (lv' := [(4, .int x2), (3, .int (6 : Int32)), (0, .ref (E.1 73)), (1, .int x1), (2, .int x2)]) dX2_largestUnderHeights_14 (by decide) rfl ?_
    refine g_sub (lv' := [(0, .ref (E.1 73)), (1, .int x1), (2, .int x2), (3, .int (6 : Int32)), (4, .int x2)]) [2, 3, 4, 1, 0] rfl ?_
    exact h1 _ (Option.some.inj h).symm
set_option maxRecDepth 100000 in
set_option maxHeartbeats 4000000 in
theorem bl_X2_largestUnderHeights_2 {p : Program} {l : Launch} {e : Env} {s : State} {m : MethodId} {args : Array Value} {below : List Frame} {meth : Method} {c : Code} {G : va_G} {E : EE} {r : RT} (X : CX p s m args meth c cX2_largestUnderHeights RX2 5 G E) (hr : meth.sig.returnType = (some .int)) (x1 : Int32) (x2 : Int32) (x3 : Int32) (x4 : Int32) (D : DD) (o : (Nat × List Int32 × DD) ⊕ RT) (h : b_X2_largestUnderHeights_2 x1 x2 x3 x4 D = some o) (h1 : ∀ x, o = .inl x → hg_X2_largestUnderHeights p l e s m args below meth c G E r x.1 x.2.1 x.2.2) (h2 : ∀ x, o = .inr x → x = r) : GW p l e (rmm 1) s m args below meth c G E 5 (MQ below (QR G E s.heap.size r) args s 0 0 (fr E s.heap.size)) 0 0 D 16 [(0, .ref (E.1 73)), (1, .int x1), (2, .int x2), (3, .int x3), (4, .int x4)] [] := by
  unfold b_X2_largestUnderHeights_2 at h
  refine g_iload X 4 dX2_largestUnderHeights_16 rfl ?_
  refine g_bipush X (v := (6 : Int32)) dX2_largestUnderHeights_18 (by decide) ?_
  refine g_icmp_ge X (tgt := 54) dX2_largestUnderHeights_20 (by decide) (fun c3 => ?_) (fun c3 => ?_)
  · have h := (ite_s h).1 c3
    refine g_iinc X 2 (v := (x2 + (1 : Int32))) (lv' := [(2, .int (x2 + (1 : Int32))), (0, .ref (E.1 73)), (1, .int x1), (3, .int x3), (4, .int x4)]) dX2_largestUnderHeights_54 rfl rfl (by decide) rfl ?_
    refine g_goto X (tgt := 4) dX2_largestUnderHeights_57 (by decide) ?_
    refine g_sub (lv' := [(0, .ref (E.1 73)), (1, .int x1), (2, .int (x2 + (1 : Int32)))]) [1, 2, 0] rfl ?_
    exact h1 _ (Option.some.inj h).symm
  · have h := (ite_s h).2 c3
    refine g_iload_n X 3 (i0 := 3) dX2_largestUnderHeights_23 rfl rfl ?_
    refine g_aload_n X 0 (i0 := 0) dX2_largestUnderHeights_24 rfl rfl ?_
    refine g_get X (D := D) (v := .ref (E.1 74)) (T := TX2) 73 uX2 (wg_73 E _) rfl 0 (by decide) fl_X2_9 rfl rfl dX2_largestUnderHeights_25 ?_
    refine g_iload X 4 dX2_largestUnderHeights_28 rfl ?_
    obtain ⟨b2, h⟩ := chk_s h
    refine g_iald X (D := D) (f := (D.2.2.1 61)) (i := x4) 74 (wg_74 E _) (inB_vp b2) dX2_largestUnderHeights_30 ?_
    refine g_min X wl_X2_48 wm_min wi_math wc_min (Nat.le_of_ble_eq_true rfl) (Nat.le_of_ble_eq_true rfl) dX2_largestUnderHeights_31 ?_
    refine g_istore_n X (i0 := 3) (lv' := [(3, .int (if ((D.2.2.1 61) x4.toNatClampNeg) < x3 then ((D.2.2.1 61) x4.toNatClampNeg) else x3)), (0, .ref (E.1 73)), (1, .int x1), (2, .int x2), (4, .int x4)]) dX2_largestUnderHeights_34 rfl (by decide) rfl ?_
    refine g_iload_n X 2 (i0 := 1) dX2_largestUnderHeights_35 rfl rfl ?_
    refine g_iload_n X 0 (i0 := 3) dX2_largestUnderHeights_36 rfl rfl ?_
    refine g_iload X 4 dX2_largestUnderHeights_37 rfl ?_
    refine g_iload_n X 3 (i0 := 2) dX2_largestUnderHeights_39 rfl rfl ?_
    refine g_isub X dX2_largestUnderHeights_40 ?_
    refine g_iconst X (v := (1 : Int32)) dX2_largestUnderHeights_41 (by decide) ?_
    refine g_iadd X dX2_largestUnderHeights_42 ?_
    refine g_imul X dX2_largestUnderHeights_43 ?_
    refine g_max X wl_X2_19 wm_max wi_math wc_max (Nat.le_of_ble_eq_true rfl) (Nat.le_of_ble_eq_true rfl) dX2_largestUnderHeights_44 ?_
    refine g_istore_n X (i0 := 1) (lv' := [(1, .int (if x1 < ((if ((D.2.2.1 61) x4.toNatClampNeg) < x3 then ((D.2.2.1 61) x4.toNatClampNeg) else x3) * ((x4 - x2) + (1 : Int32))) then ((if ((D.2.2.1 61) x4.toNatClampNeg) < x3 then ((D.2.2.1 61) x4.toNatClampNeg) else x3) * ((x4 - x2) + (1 : Int32))) else x1)), (3, .int (if ((D.2.2.1 61) x4.toNatClampNeg) < x3 then ((D.2.2.1 61) x4.toNatClampNeg) else x3)), (0, .ref (E.1 73)), (2, .int x2), (4, .int x4)]) dX2_largestUnderHeights_47 rfl (by decide) rfl ?_
    refine g_iinc X 4 (v := (x4 + (1 : Int32))) (lv' := [(4, .int (x4 + (1 : Int32))), (1, .int (if x1 < ((if ((D.2.2.1 61) x4.toNatClampNeg) < x3 then ((D.2.2.1 61) x4.toNatClampNeg) else x3) * ((x4 - x2) + (1 : Int32))) then ((if ((D.2.2.1 61) x4.toNatClampNeg) < x3 then ((D.2.2.1 61) x4.toNatClampNeg) else x3) * ((x4 - x2) + (1 : Int32))) else x1)), (3, .int (if ((D.2.2.1 61) x4.toNatClampNeg) < x3 then ((D.2.2.1 61) x4.toNatClampNeg) else x3)), (0, .ref (E.1 73)), (2, .int x2)]) dX2_largestUnderHeights_48 rfl rfl (by decide) rfl ?_
    refine g_goto X (tgt := 16) dX2_largestUnderHeights_51 (by decide) ?_
    refine g_sub (lv' := [(0, .ref (E.1 73)), (1, .int (if x1 < ((if ((D.2.2.1 61) x4.toNatClampNeg) < x3 then ((D.2.2.1 61) x4.toNatClampNeg) else x3) * ((x4 - x2) + (1 : Int32))) then ((if ((D.2.2.1 61) x4.toNatClampNeg) < x3 then ((D.2.2.1 61) x4.toNatClampNeg) else x3) * ((x4 - x2) + (1 : Int32))) else x1)), (2, .int x2), (3, .int (if ((D.2.2.1 61) x4.toNatClampNeg) < x3 then ((D.2.2.1 61) x4.toNatClampNeg) else x3)), (4, .int (x4 + (1 : Int32)))]) [3, 1, 4, 2, 0] rfl ?_
    exact h1 _ (Option.some.inj h).symm
set_option maxRecDepth 100000 in
set_option maxHeartbeats 4000000 in
theorem c_X2_largestUnderHeights (l : Launch) (G : va_G) (E : EE)  (D : DD) (r : RT) (h : S_X2_largestUnderHeights  D = some r) : MM l G E yX2_largestUnderHeights cX2_largestUnderHeights 5 (some .int) (rmm 1) [.ref (E.1 73)] D r := by
  unfold S_X2_largestUnderHeights at h
  refine m_of rfl (Nat.le_of_ble_eq_true rfl) ?_
  intro p e s m args below meth c X hr
  exact run_G (T := T_X2_largestUnderHeights) (HG := hg_X2_largestUnderHeights p l e s m args below meth c G E r) (by
    intro k ls D o hT h1 h2
    unfold T_X2_largestUnderHeights at hT
    split at hT
    · exact bl_X2_largestUnderHeights_0 X hr  D o hT h1 h2
    · exact bl_X2_largestUnderHeights_1 X hr _ _ D o hT h1 h2
    · exact bl_X2_largestUnderHeights_2 X hr _ _ _ _ D o hT h1 h2
    · cases hT) FUEL 0 [] D h
theorem hd_J7_fill_53178 : yJ7_fill_53178.cls ≠ "java/lang/invoke/MethodHandle" ∧ yJ7_fill_53178.cls ≠ "java/lang/invoke/VarHandle" ∧ (parseMethodDescriptor yJ7_fill_53178.desc).map (fun d => d.parameters.length) = some 2 := by decide +kernel
theorem hd_X2_largestUnderHeights : yX2_largestUnderHeights.cls ≠ "java/lang/invoke/MethodHandle" ∧ yX2_largestUnderHeights.cls ≠ "java/lang/invoke/VarHandle" ∧ (parseMethodDescriptor yX2_largestUnderHeights.desc).map (fun d => d.parameters.length) = some 0 := by decide +kernel
theorem wc_J7_fill_53178 : Cond.code yJ7_fill_53178 cJ7_fill_53178 4 none ∈ UT := ut 121 (by decide +kernel) (by decide +kernel)
theorem wi_RJ7 : Cond.initialized RJ7 ∈ UT := ut 77 (by decide +kernel) (by decide +kernel)
theorem wt_J7_fill_53178 : Cond.static yJ7_fill_53178 ∈ UT := ut 120 (by decide +kernel) (by decide +kernel)
theorem ks_X2_38 : GoodIn UT (va_wsS RX2 38 yJ7_fill_53178 (Cond.code yJ7_fill_53178 cJ7_fill_53178 4 none :: UT)) := gu_S (ut 491 (by decide +kernel) (by decide +kernel)) wt_J7_fill_53178 wi_RJ7 wc_J7_fill_53178
theorem wc_X2_largestUnderHeights : Cond.code yX2_largestUnderHeights cX2_largestUnderHeights 5 (some .int) ∈ UT := ut 495 (by decide +kernel) (by decide +kernel)
theorem we_X2_largestUnderHeights : Cond.selects RX2 yX2_largestUnderHeights yX2_largestUnderHeights ∈ UT := ut 6 (by decide +kernel) (by decide +kernel)
theorem wm_X2_largestUnderHeights : Cond.instanceMethod yX2_largestUnderHeights ∈ UT := ut 494 (by decide +kernel) (by decide +kernel)
theorem kv_X2_44 : GoodIn UT (wsV RX2 44 RX2 yX2_largestUnderHeights (Cond.code yX2_largestUnderHeights cX2_largestUnderHeights 5 (some .int) :: UT)) := gu_V (ut 492 (by decide +kernel) (by decide +kernel)) wm_X2_largestUnderHeights we_X2_largestUnderHeights wi_RX2 wc_X2_largestUnderHeights
def b_X2_sizeByHeights_0  (D : DD) : Option ((Nat × List Int32 × DD) ⊕ RT) := (cV (S_J7_fill_53178_blocks_heights (0 : Int32) D) (fun D2 => some (.inl (1, [(0 : Int32), (0 : Int32)], D2))))
def b_X2_sizeByHeights_1 (x2 : Int32) (x3 : Int32) (D : DD) : Option ((Nat × List Int32 × DD) ⊕ RT) := (if (6 : Int32) ≤ x3 then some (.inr (0, some (.int x2), D)) else some (.inl (2, [x2, x3, (0 : Int32)], D)))
def b_X2_sizeByHeights_2 (x2 : Int32) (x3 : Int32) (x4 : Int32) (D : DD) : Option ((Nat × List Int32 × DD) ⊕ RT) := (if (6 : Int32) ≤ x4 then (cI (S_X2_largestUnderHeights D) (fun r6 D5 => some (.inl (1, [(if x2 < r6 then r6 else x2), (x3 + (1 : Int32))], D5)))) else (cI (S_X12_cellAt x3 x4 D) (fun r9 D8 => (cI (S_X8_openAt r9 D8) (fun r12 D11 => (if r12 = 0 then (if inB x4 6 = true then some (.inl (2, [x2, x3, (x4 + (1 : Int32))], (setA D11 61 (upd (D11.2.2.1 61) x4.toNatClampNeg (0 : Int32))))) else none) else (if inB x4 6 = true then (if inB x4 6 = true then some (.inl (2, [x2, x3, (x4 + (1 : Int32))], (setA D11 61 (upd (D11.2.2.1 61) x4.toNatClampNeg (((D11.2.2.1 61) x4.toNatClampNeg) + (1 : Int32)))))) else none) else none)))))))
def T_X2_sizeByHeights (k : Nat) (ls : List Int32) (D : DD) : Option ((Nat × List Int32 × DD) ⊕ RT) := match k, ls with
  | 0, [] => b_X2_sizeByHeights_0  D
  | 1, [x2, x3] => b_X2_sizeByHeights_1 x2 x3 D
  | 2, [x2, x3, x4] => b_X2_sizeByHeights_2 x2 x3 x4 D
  | _, _ => none
def S_X2_sizeByHeights  (D : DD) : Option RT := run T_X2_sizeByHeights FUEL 0 [] D
def hg_X2_sizeByHeights (p : Program) (l : Launch) (e : Env) (s : State) (m : MethodId) (args : Array Value) (below : List Frame) (meth : Method) (c : Code) (G : va_G) (E : EE) (r : RT) (k : Nat) (ls : List Int32) (D : DD) : Prop := match k, ls with
  | 0, [] => GW p l e (rmm 2) s m args below meth c G E 5 (MQ below (QR G E s.heap.size r) args s 0 0 (fr E s.heap.size)) 0 0 D 0 [(0, .ref (E.1 73)), (1, .ref (E.1 1))] []
  | 1, [x2, x3] => GW p l e (rmm 2) s m args below meth c G E 5 (MQ below (QR G E s.heap.size r) args s 0 0 (fr E s.heap.size)) 0 0 D 12 [(0, .ref (E.1 73)), (1, .ref (E.1 1)), (2, .int x2), (3, .int x3)] []
  | 2, [x2, x3, x4] => GW p l e (rmm 2) s m args below meth c G E 5 (MQ below (QR G E s.heap.size r) args s 0 0 (fr E s.heap.size)) 0 0 D 21 [(0, .ref (E.1 73)), (1, .ref (E.1 1)), (2, .int x2), (3, .int x3), (4, .int x4)] []
  | _, _ => True
set_option maxRecDepth 100000 in
set_option maxHeartbeats 4000000 in
theorem bl_X2_sizeByHeights_0 {p : Program} {l : Launch} {e : Env} {s : State} {m : MethodId} {args : Array Value} {below : List Frame} {meth : Method} {c : Code} {G : va_G} {E : EE} {r : RT} (X : CX p s m args meth c cX2_sizeByHeights RX2 5 G E) (hr : meth.sig.returnType = (some .int))  (D : DD) (o : (Nat × List Int32 × DD) ⊕ RT) (h : b_X2_sizeByHeights_0  D = some o) (h1 : ∀ x, o = .inl x → hg_X2_sizeByHeights p l e s m args below meth c G E r x.1 x.2.1 x.2.2) (h2 : ∀ x, o = .inr x → x = r) : GW p l e (rmm 2) s m args below meth c G E 5 (MQ below (QR G E s.heap.size r) args s 0 0 (fr E s.heap.size)) 0 0 D 0 [(0, .ref (E.1 73)), (1, .ref (E.1 1))] [] := by
  unfold b_X2_sizeByHeights_0 at h
  refine g_aload_n X 0 (i0 := 0) dX2_sizeByHeights_0 rfl rfl ?_
  refine g_get X (D := D) (v := .ref (E.1 74)) (T := TX2) 73 uX2 (wg_73 E _) rfl 0 (by decide) fl_X2_9 rfl rfl dX2_sizeByHeights_1 ?_
  refine g_iconst X (v := (0 : Int32)) dX2_sizeByHeights_4 (by decide) ?_
  obtain ⟨D2, e1, h⟩ := cV_s h
  refine g_S X (As := [.ref (E.1 74), .int (0 : Int32)]) (rest := []) (c_J7_fill_53178_blocks_heights l G E (0 : Int32) _ _ e1) ks_X2_38 ⟨rfl, rfl⟩ hd_J7_fill_53178 (⟨Nat.le_of_ble_eq_true rfl, Nat.le_of_ble_eq_true rfl⟩) rfl rfl (Nat.le_of_ble_eq_true rfl) dX2_sizeByHeights_5 ?_
  refine g_iconst X (v := (0 : Int32)) dX2_sizeByHeights_8 (by decide) ?_
  refine g_istore_n X (i0 := 2) (lv' := [(2, .int (0 : Int32)), (0, .ref (E.1 73)), (1, .ref (E.1 1))]) dX2_sizeByHeights_9 rfl (by decide) rfl ?_
  refine g_iconst X (v := (0 : Int32)) dX2_sizeByHeights_10 (by decide) ?_
  refine g_istore_n X (i0 := 3) (lv' := [(3, .int (0 : Int32)), (2, .int (0 : Int32)), (0, .ref (E.1 73)), (1, .ref (E.1 1))]) dX2_sizeByHeights_11 rfl (by decide) rfl ?_
  refine g_sub (lv' := [(0, .ref (E.1 73)), (1, .ref (E.1 1)), (2, .int (0 : Int32)), (3, .int (0 : Int32))]) [2, 3, 1, 0] rfl ?_
  exact h1 _ (Option.some.inj h).symm
set_option maxRecDepth 100000 in
set_option maxHeartbeats 4000000 in
theorem bl_X2_sizeByHeights_1 {p : Program} {l : Launch} {e : Env} {s : State} {m : MethodId} {args : Array Value} {below : List Frame} {meth : Method} {c : Code} {G : va_G} {E : EE} {r : RT} (X : CX p s m args meth c cX2_sizeByHeights RX2 5 G E) (hr : meth.sig.returnType = (some .int)) (x2 : Int32) (x3 : Int32) (D : DD) (o : (Nat × List Int32 × DD) ⊕ RT) (h : b_X2_sizeByHeights_1 x2 x3 D = some o) (h1 : ∀ x, o = .inl x → hg_X2_sizeByHeights p l e s m args below meth c G E r x.1 x.2.1 x.2.2) (h2 : ∀ x, o = .inr x → x = r) : GW p l e (rmm 2) s m args below meth c G E 5 (MQ below (QR G E s.heap.size r) args s 0 0 (fr E s.heap.size)) 0 0 D 12 [(0, .ref (E.1 73)), (1, .ref (E.1 1)), (2, .int x2), (3, .int x3)] [] := by
  unfold b_X2_sizeByHeights_1 at h
  refine g_iload_n X 3 (i0 := 3) dX2_sizeByHeights_12 rfl rfl ?_
  refine g_bipush X (v := (6 : Int32)) dX2_sizeByHeights_13 (by decide) ?_
  refine g_icmp_ge X (tgt := 82) dX2_sizeByHeights_15 (by decide) (fun c3 => ?_) (fun c3 => ?_)
  · have h := (ite_s h).1 c3
    refine g_iload_n X 2 (i0 := 2) dX2_sizeByHeights_82 rfl rfl ?_
    exact g_iret X hr rfl dX2_sizeByHeights_83 (h2 _ (Option.some.inj h).symm)
  · have h := (ite_s h).2 c3
    refine g_iconst X (v := (0 : Int32)) dX2_sizeByHeights_18 (by decide) ?_
    refine g_istore X (lv' := [(4, .int (0 : Int32)), (0, .ref (E.1 73)), (1, .ref (E.1 1)), (2, .int x2), (3, .int x3)]) dX2_sizeByHeights_19 (by decide) rfl ?_
    refine g_sub (lv' := [(0, .ref (E.1 73)), (1, .ref (E.1 1)), (2, .int x2), (3, .int x3), (4, .int (0 : Int32))]) [1, 2, 3, 4, 0] rfl ?_
    exact h1 _ (Option.some.inj h).symm
set_option maxRecDepth 100000 in
set_option maxHeartbeats 4000000 in
theorem bl_X2_sizeByHeights_2 {p : Program} {l : Launch} {e : Env} {s : State} {m : MethodId} {args : Array Value} {below : List Frame} {meth : Method} {c : Code} {G : va_G} {E : EE} {r : RT} (X : CX p s m args meth c cX2_sizeByHeights RX2 5 G E) (hr : meth.sig.returnType = (some .int)) (x2 : Int32) (x3 : Int32) (x4 : Int32) (D : DD) (o : (Nat × List Int32 × DD) ⊕ RT) (h : b_X2_sizeByHeights_2 x2 x3 x4 D = some o) (h1 : ∀ x, o = .inl x → hg_X2_sizeByHeights p l e s m args below meth c G E r x.1 x.2.1 x.2.2) (h2 : ∀ x, o = .inr x → x = r) : GW p l e (rmm 2) s m args below meth c G E 5 (MQ below (QR G E s.heap.size r) args s 0 0 (fr E s.heap.size)) 0 0 D 21 [(0, .ref (E.1 73)), (1, .ref (E.1 1)), (2, .int x2), (3, .int x3), (4, .int x4)] [] := by
  unfold b_X2_sizeByHeights_2 at h
  refine g_iload X 4 dX2_sizeByHeights_21 rfl ?_
  refine g_bipush X (v := (6 : Int32)) dX2_sizeByHeights_23 (by decide) ?_
  refine g_icmp_ge X (tgt := 67) dX2_sizeByHeights_25 (by decide) (fun c17 => ?_) (fun c17 => ?_)
  · have h := (ite_s h).1 c17
    refine g_iload_n X 2 (i0 := 2) dX2_sizeByHeights_67 rfl rfl ?_
    refine g_aload_n X 0 (i0 := 0) dX2_sizeByHeights_68 rfl rfl ?_
    obtain ⟨r6, D5, e4, h⟩ := cI_s h
    refine g_V X (As := []) (rest := [.int x2]) (c_X2_largestUnderHeights l G E  _ _ e4) 73 (wg_73 E _) rfl rfl kv_X2_44 ⟨rfl, rfl⟩ ⟨rfl, hd_X2_largestUnderHeights⟩ (⟨Nat.le_of_ble_eq_true rfl, Nat.le_of_ble_eq_true rfl⟩) rfl rfl (Nat.le_of_ble_eq_true rfl) dX2_sizeByHeights_69 ?_
    refine g_max X wl_X2_19 wm_max wi_math wc_max (Nat.le_of_ble_eq_true rfl) (Nat.le_of_ble_eq_true rfl) dX2_sizeByHeights_72 ?_
    refine g_istore_n X (i0 := 2) (lv' := [(2, .int (if x2 < r6 then r6 else x2)), (0, .ref (E.1 73)), (1, .ref (E.1 1)), (3, .int x3), (4, .int x4)]) dX2_sizeByHeights_75 rfl (by decide) rfl ?_
    refine g_iinc X 3 (v := (x3 + (1 : Int32))) (lv' := [(3, .int (x3 + (1 : Int32))), (2, .int (if x2 < r6 then r6 else x2)), (0, .ref (E.1 73)), (1, .ref (E.1 1)), (4, .int x4)]) dX2_sizeByHeights_76 rfl rfl (by decide) rfl ?_
    refine g_goto X (tgt := 12) dX2_sizeByHeights_79 (by decide) ?_
    refine g_sub (lv' := [(0, .ref (E.1 73)), (1, .ref (E.1 1)), (2, .int (if x2 < r6 then r6 else x2)), (3, .int (x3 + (1 : Int32)))]) [2, 3, 1, 0] rfl ?_
    exact h1 _ (Option.some.inj h).symm
  · have h := (ite_s h).2 c17
    refine g_aload_n X 0 (i0 := 0) dX2_sizeByHeights_28 rfl rfl ?_
    refine g_get X (D := D) (v := .ref (E.1 74)) (T := TX2) 73 uX2 (wg_73 E _) rfl 0 (by decide) fl_X2_9 rfl rfl dX2_sizeByHeights_29 ?_
    refine g_iload X 4 dX2_sizeByHeights_32 rfl ?_
    refine g_aload_n X 1 (i0 := 1) dX2_sizeByHeights_34 rfl rfl ?_
    refine g_iload_n X 3 (i0 := 3) dX2_sizeByHeights_35 rfl rfl ?_
    refine g_iload X 4 dX2_sizeByHeights_36 rfl ?_
    obtain ⟨r9, D8, e7, h⟩ := cI_s h
    refine g_SN X (As := [.int x3, .int x4]) (rest := [.ref (E.1 1), .int x4, .ref (E.1 74)]) (c_X12_cellAt l G E x3 x4 _ _ e7) wc_X12_cellAt kn_X2_29 wi_RX12 wt_X12_cellAt ⟨rfl, rfl⟩ hd_X12_cellAt (⟨Nat.le_of_ble_eq_true rfl, Nat.le_of_ble_eq_true rfl⟩) rfl rfl (Nat.le_of_ble_eq_true rfl) dX2_sizeByHeights_38 ?_
    obtain ⟨r12, D11, e10, h⟩ := cI_s h
    refine g_V X (As := [.int r9]) (rest := [.int x4, .ref (E.1 74)]) (c_X8_openAt l G E r9 _ _ e10) 1 (wg_1 E _) rfl rfl kv_X2_32 ⟨rfl, rfl⟩ ⟨rfl, hd_X8_openAt⟩ (⟨Nat.le_of_ble_eq_true rfl, Nat.le_of_ble_eq_true rfl⟩) rfl rfl (Nat.le_of_ble_eq_true rfl) dX2_sizeByHeights_41 ?_
    refine g_if_eq X (tgt := 59) dX2_sizeByHeights_44 (by decide) (fun c16 => ?_) (fun c16 => ?_)
    · have h := (ite_s h).1 c16
      refine g_iconst X (v := (0 : Int32)) dX2_sizeByHeights_59 (by decide) ?_
      obtain ⟨b13, h⟩ := chk_s h
      refine g_iast X (D := D11) (f := (D11.2.2.1 61)) (i := x4) (x := (0 : Int32)) (D' := (setA D11 61 (upd (D11.2.2.1 61) x4.toNatClampNeg (0 : Int32)))) 74 (wg_74 E _) (inB_vp b13) (ws_A_61 E _ _) dX2_sizeByHeights_60 ?_
      refine g_iinc X 4 (v := (x4 + (1 : Int32))) (lv' := [(4, .int (x4 + (1 : Int32))), (0, .ref (E.1 73)), (1, .ref (E.1 1)), (2, .int x2), (3, .int x3)]) dX2_sizeByHeights_61 rfl rfl (by decide) rfl ?_
      refine g_goto X (tgt := 21) dX2_sizeByHeights_64 (by decide) ?_
      refine g_sub (lv' := [(0, .ref (E.1 73)), (1, .ref (E.1 1)), (2, .int x2), (3, .int x3), (4, .int (x4 + (1 : Int32)))]) [1, 2, 3, 4, 0] rfl ?_
      exact h1 _ (Option.some.inj h).symm
    · have h := (ite_s h).2 c16
      refine g_aload_n X 0 (i0 := 0) dX2_sizeByHeights_47 rfl rfl ?_
      refine g_get X (D := D11) (v := .ref (E.1 74)) (T := TX2) 73 uX2 (wg_73 E _) rfl 0 (by decide) fl_X2_9 rfl rfl dX2_sizeByHeights_48 ?_
      refine g_iload X 4 dX2_sizeByHeights_51 rfl ?_
      obtain ⟨b14, h⟩ := chk_s h
      refine g_iald X (D := D11) (f := (D11.2.2.1 61)) (i := x4) 74 (wg_74 E _) (inB_vp b14) dX2_sizeByHeights_53 ?_
      refine g_iconst X (v := (1 : Int32)) dX2_sizeByHeights_54 (by decide) ?_
      refine g_iadd X dX2_sizeByHeights_55 ?_
      refine g_goto X (tgt := 60) dX2_sizeByHeights_56 (by decide) ?_
      obtain ⟨b15, h⟩ := chk_s h
      refine g_iast X (D := D11) (f := (D11.2.2.1 61)) (i := x4) (x := (((D11.2.2.1 61) x4.toNatClampNeg) + (1 : Int32))) (D' := (setA D11 61 (upd (D11.2.2.1 61) x4.toNatClampNeg (((D11.2.2.1 61) x4.toNatClampNeg) + (1 : Int32))))) 74 (wg_74 E _) (inB_vp b15) (ws_A_61 E _ _) dX2_sizeByHeights_60 ?_
      refine g_iinc X 4 (v := (x4 + (1 : Int32))) (lv' := [(4, .int (x4 + (1 : Int32))), (0, .ref (E.1 73)), (1, .ref (E.1 1)), (2, .int x2), (3, .int x3)]) dX2_sizeByHeights_61 rfl rfl (by decide) rfl ?_
      refine g_goto X (tgt := 21) dX2_sizeByHeights_64 (by decide) ?_
      refine g_sub (lv' := [(0, .ref (E.1 73)), (1, .ref (E.1 1)), (2, .int x2), (3, .int x3), (4, .int (x4 + (1 : Int32)))]) [1, 2, 3, 4, 0] rfl ?_
      exact h1 _ (Option.some.inj h).symm
set_option maxRecDepth 100000 in
set_option maxHeartbeats 4000000 in
theorem c_X2_sizeByHeights (l : Launch) (G : va_G) (E : EE)  (D : DD) (r : RT) (h : S_X2_sizeByHeights  D = some r) : MM l G E yX2_sizeByHeights cX2_sizeByHeights 5 (some .int) (rmm 2) [.ref (E.1 73), .ref (E.1 1)] D r := by
  unfold S_X2_sizeByHeights at h
  refine m_of rfl (Nat.le_of_ble_eq_true rfl) ?_
  intro p e s m args below meth c X hr
  exact run_G (T := T_X2_sizeByHeights) (HG := hg_X2_sizeByHeights p l e s m args below meth c G E r) (by
    intro k ls D o hT h1 h2
    unfold T_X2_sizeByHeights at hT
    split at hT
    · exact bl_X2_sizeByHeights_0 X hr  D o hT h1 h2
    · exact bl_X2_sizeByHeights_1 X hr _ _ D o hT h1 h2
    · exact bl_X2_sizeByHeights_2 X hr _ _ _ D o hT h1 h2
    · cases hT) FUEL 0 [] D h
theorem fl_X4_25 : Cond.fieldLink RX4 25 "StoneQuarry$CommandText" "length" "I" ∈ UT := ut 298 (by decide +kernel) (by decide +kernel)
theorem uX4 : ∀ w ∈ wsX40, w ∈ UT := ut_all (by decide +kernel) (by decide +kernel)
theorem wg_80 (E : EE) (D : DD) : (wd E D)[80]? = some (E.1 80, .inr (4, [.ref (E.1 81), .ref (E.1 82), .ref (E.1 83), .int (D.1 129), .int (D.1 130), .int (D.1 131)])) := rfl
def S_X4_isFull  (D : DD) : Option RT := (if (D.1 129) < (60 : Int32) then some (0, some (.int (0 : Int32)), D) else some (0, some (.int (1 : Int32)), D))
set_option maxRecDepth 100000 in
set_option maxHeartbeats 4000000 in
theorem c_X4_isFull (l : Launch) (G : va_G) (E : EE)  (D : DD) (r : RT) (h : S_X4_isFull  D = some r) : MM l G E yX4_isFull cX4_isFull 1 (some .boolean) (rmm 0) [.ref (E.1 80)] D r := by
  refine m_of rfl (Nat.le_of_ble_eq_true rfl) ?_
  intro p e s m args below meth c X hr
  unfold S_X4_isFull at h
  refine g_aload_n X 0 (i0 := 0) dX4_isFull_0 rfl rfl ?_
  refine g_get X (D := D) (v := .int (D.1 129)) (T := TX4) 80 uX4 (wg_80 E _) rfl 3 (by decide) fl_X4_25 rfl rfl dX4_isFull_1 ?_
  refine g_bipush X (v := (60 : Int32)) dX4_isFull_4 (by decide) ?_
  refine g_icmp_lt X (tgt := 13) dX4_isFull_6 (by decide) (fun c1 => ?_) (fun c1 => ?_)
  · have h := (ite_s h).1 c1
    refine g_iconst X (v := (0 : Int32)) dX4_isFull_13 (by decide) ?_
    exact g_iret X hr rfl dX4_isFull_14 (Option.some.inj h)
  · have h := (ite_s h).2 c1
    refine g_iconst X (v := (1 : Int32)) dX4_isFull_9 (by decide) ?_
    refine g_goto X (tgt := 14) dX4_isFull_10 (by decide) ?_
    exact g_iret X hr rfl dX4_isFull_14 (Option.some.inj h)
theorem fl_X4_11 : Cond.fieldLink RX4 11 "StoneQuarry$CommandText" "signs" "[C" ∈ UT := ut 295 (by decide +kernel) (by decide +kernel)
theorem kn_X4_29 : Cond.methodLinkNest RX4 29 yX12_inRange "StoneQuarry" ∈ NEST := nst 1183 (by decide +kernel) rfl
theorem wg_81 (E : EE) (D : DD) : (wd E D)[81]? = some (E.1 81, .inl (E.2 2, 60, .inl (D.2.2.1 65))) := rfl
theorem ws_A_65 (E : EE) (D : DD) (f : Nat → Int32) : (wd E D).set 81 (E.1 81, .inl (E.2 2, 60, .inl f)) = wd E (setA D 65 f) := rfl
theorem ws_I_129 (E : EE) (D : DD) (v : Int32) : (wd E D).set 80 (E.1 80, .inr (4, [.ref (E.1 81), .ref (E.1 82), .ref (E.1 83), .int v, .int (D.1 130), .int (D.1 131)])) = wd E (setI D 129 v) := rfl
def S_X4_append (a0 : Int32) (D : DD) : Option RT := (cI (S_X12_inRange (D.1 129) (0 : Int32) (59 : Int32) D) (fun r3 D2 => (if r3 = 0 then some (0, some (.int (D2.1 129)), D2) else (if inB (D2.1 129) 60 = true then some (0, some (.int ((D2.1 129) + (1 : Int32))), (setI (setA D2 65 (upd (D2.2.2.1 65) (D2.1 129).toNatClampNeg (vp_nar .char a0))) 129 ((D2.1 129) + (1 : Int32)))) else none))))
set_option maxRecDepth 100000 in
set_option maxHeartbeats 4000000 in
theorem c_X4_append (l : Launch) (G : va_G) (E : EE) (a0 : Int32) (D : DD) (r : RT) (h : S_X4_append a0 D = some r) : MM l G E yX4_append cX4_append 2 (some .int) (rmm 1) [.ref (E.1 80), .int a0] D r := by
  refine m_of rfl (Nat.le_of_ble_eq_true rfl) ?_
  intro p e s m args below meth c X hr
  unfold S_X4_append at h
  refine g_aload_n X 0 (i0 := 0) dX4_append_0 rfl rfl ?_
  refine g_get X (D := D) (v := .int (D.1 129)) (T := TX4) 80 uX4 (wg_80 E _) rfl 3 (by decide) fl_X4_25 rfl rfl dX4_append_1 ?_
  refine g_iconst X (v := (0 : Int32)) dX4_append_4 (by decide) ?_
  refine g_bipush X (v := (59 : Int32)) dX4_append_5 (by decide) ?_
  obtain ⟨r3, D2, e1, h⟩ := cI_s h
  refine g_SN X (As := [.int (D.1 129), .int (0 : Int32), .int (59 : Int32)]) (rest := []) (c_X12_inRange l G E (D.1 129) (0 : Int32) (59 : Int32) _ _ e1) wc_X12_inRange kn_X4_29 wi_RX12 wt_X12_inRange ⟨rfl, rfl⟩ hd_X12_inRange (⟨Nat.le_of_ble_eq_true rfl, Nat.le_of_ble_eq_true rfl⟩) rfl rfl (Nat.le_of_ble_eq_true rfl) dX4_append_7 ?_
  refine g_if_eq X (tgt := 33) dX4_append_10 (by decide) (fun c5 => ?_) (fun c5 => ?_)
  · have h := (ite_s h).1 c5
    refine g_aload_n X 0 (i0 := 0) dX4_append_33 rfl rfl ?_
    refine g_get X (D := D2) (v := .int (D2.1 129)) (T := TX4) 80 uX4 (wg_80 E _) rfl 3 (by decide) fl_X4_25 rfl rfl dX4_append_34 ?_
    exact g_iret X hr rfl dX4_append_37 (Option.some.inj h)
  · have h := (ite_s h).2 c5
    refine g_aload_n X 0 (i0 := 0) dX4_append_13 rfl rfl ?_
    refine g_get X (D := D2) (v := .ref (E.1 81)) (T := TX4) 80 uX4 (wg_80 E _) rfl 0 (by decide) fl_X4_11 rfl rfl dX4_append_14 ?_
    refine g_aload_n X 0 (i0 := 0) dX4_append_17 rfl rfl ?_
    refine g_get X (D := D2) (v := .int (D2.1 129)) (T := TX4) 80 uX4 (wg_80 E _) rfl 3 (by decide) fl_X4_25 rfl rfl dX4_append_18 ?_
    refine g_iload_n X 1 (i0 := 1) dX4_append_21 rfl rfl ?_
    obtain ⟨b4, h⟩ := chk_s h
    refine g_cast X (D := D2) (f := (D2.2.2.1 65)) (i := (D2.1 129)) (x := a0) (D' := (setA D2 65 (upd (D2.2.2.1 65) (D2.1 129).toNatClampNeg (vp_nar .char a0)))) 81 (wg_81 E _) (inB_vp b4) (ws_A_65 E _ _) dX4_append_22 ?_
    refine g_aload_n X 0 (i0 := 0) dX4_append_23 rfl rfl ?_
    refine g_dup X dX4_append_24 rfl ?_
    refine g_get X (D := (setA D2 65 (upd (D2.2.2.1 65) (D2.1 129).toNatClampNeg (vp_nar .char a0)))) (v := .int (D2.1 129)) (T := TX4) 80 uX4 (wg_80 E _) rfl 3 (by decide) fl_X4_25 rfl rfl dX4_append_25 ?_
    refine g_iconst X (v := (1 : Int32)) dX4_append_28 (by decide) ?_
    refine g_iadd X dX4_append_29 ?_
    refine g_put X (D := (setA D2 65 (upd (D2.2.2.1 65) (D2.1 129).toNatClampNeg (vp_nar .char a0)))) (v := .int ((D2.1 129) + (1 : Int32))) (T := TX4) (D' := (setI (setA D2 65 (upd (D2.2.2.1 65) (D2.1 129).toNatClampNeg (vp_nar .char a0))) 129 ((D2.1 129) + (1 : Int32)))) 80 uX4 tyX4 tyX4_ok nmX4 (wg_80 E _) rfl 3 (by decide) fl_X4_25 rfl rfl rfl rfl (Nat.le_of_ble_eq_true rfl) (ws_I_129 E _ _) dX4_append_30 ?_
    refine g_aload_n X 0 (i0 := 0) dX4_append_33 rfl rfl ?_
    refine g_get X (D := (setI (setA D2 65 (upd (D2.2.2.1 65) (D2.1 129).toNatClampNeg (vp_nar .char a0))) 129 ((D2.1 129) + (1 : Int32)))) (v := .int ((D2.1 129) + (1 : Int32))) (T := TX4) 80 uX4 (wg_80 E _) rfl 3 (by decide) fl_X4_25 rfl rfl dX4_append_34 ?_
    exact g_iret X hr rfl dX4_append_37 (Option.some.inj h)
def S_X4_empty  (D : DD) : Option RT := some (0, none, (setI D 129 (0 : Int32)))
set_option maxRecDepth 100000 in
set_option maxHeartbeats 4000000 in
theorem c_X4_empty (l : Launch) (G : va_G) (E : EE)  (D : DD) (r : RT) (h : S_X4_empty  D = some r) : MM l G E yX4_empty cX4_empty 1 none (rmm 0) [.ref (E.1 80)] D r := by
  refine m_of rfl (Nat.le_of_ble_eq_true rfl) ?_
  intro p e s m args below meth c X hr
  unfold S_X4_empty at h
  refine g_aload_n X 0 (i0 := 0) dX4_empty_0 rfl rfl ?_
  refine g_iconst X (v := (0 : Int32)) dX4_empty_1 (by decide) ?_
  refine g_put X (D := D) (v := .int (0 : Int32)) (T := TX4) (D' := (setI D 129 (0 : Int32))) 80 uX4 tyX4 tyX4_ok nmX4 (wg_80 E _) rfl 3 (by decide) fl_X4_25 rfl rfl rfl rfl (Nat.le_of_ble_eq_true rfl) (ws_I_129 E _ _) dX4_empty_2 ?_
  exact g_vret X hr dX4_empty_5 (Option.some.inj h)
theorem fl_X4_21 : Cond.fieldLink RX4 21 "StoneQuarry$CommandText" "parameters" "[I" ∈ UT := ut 297 (by decide +kernel) (by decide +kernel)
theorem wg_83 (E : EE) (D : DD) : (wd E D)[83]? = some (E.1 83, .inl (E.2 0, 30, .inl (D.2.2.1 66))) := rfl
def S_X4_parameterAt (a0 : Int32) (a1 : Int32) (D : DD) : Option RT := (cI (S_X12_inRange ((a0 * (3 : Int32)) + a1) (0 : Int32) ((30 : Int32) - (1 : Int32)) D) (fun r3 D2 => (if r3 = 0 then some (0, some (.int (0 : Int32)), D2) else (if inB ((a0 * (3 : Int32)) + a1) 30 = true then some (0, some (.int ((D2.2.2.1 66) ((a0 * (3 : Int32)) + a1).toNatClampNeg)), D2) else none))))
set_option maxRecDepth 100000 in
set_option maxHeartbeats 4000000 in
theorem c_X4_parameterAt (l : Launch) (G : va_G) (E : EE) (a0 : Int32) (a1 : Int32) (D : DD) (r : RT) (h : S_X4_parameterAt a0 a1 D = some r) : MM l G E yX4_parameterAt cX4_parameterAt 4 (some .int) (rmm 1) [.ref (E.1 80), .int a0, .int a1] D r := by
  refine m_of rfl (Nat.le_of_ble_eq_true rfl) ?_
  intro p e s m args below meth c X hr
  unfold S_X4_parameterAt at h
  refine g_iload_n X 1 (i0 := 1) dX4_parameterAt_0 rfl rfl ?_
  refine g_iconst X (v := (3 : Int32)) dX4_parameterAt_1 (by decide) ?_
  refine g_imul X dX4_parameterAt_2 ?_
  refine g_iload_n X 2 (i0 := 2) dX4_parameterAt_3 rfl rfl ?_
  refine g_iadd X dX4_parameterAt_4 ?_
  refine g_istore_n X (i0 := 3) (lv' := [(3, .int ((a0 * (3 : Int32)) + a1)), (0, .ref (E.1 80)), (1, .int a0), (2, .int a1)]) dX4_parameterAt_5 rfl (by decide) rfl ?_
  refine g_iload_n X 0 (i0 := 3) dX4_parameterAt_6 rfl rfl ?_
  refine g_iconst X (v := (0 : Int32)) dX4_parameterAt_7 (by decide) ?_
  refine g_aload_n X 1 (i0 := 0) dX4_parameterAt_8 rfl rfl ?_
  refine g_get X (D := D) (v := .ref (E.1 83)) (T := TX4) 80 uX4 (wg_80 E _) rfl 2 (by decide) fl_X4_21 rfl rfl dX4_parameterAt_9 ?_
  refine g_alen X (D := D) (v := (30 : Int32)) (t0 := 0) 83 (wg_83 E _) rfl rfl dX4_parameterAt_12 ?_
  refine g_iconst X (v := (1 : Int32)) dX4_parameterAt_13 (by decide) ?_
  refine g_isub X dX4_parameterAt_14 ?_
  obtain ⟨r3, D2, e1, h⟩ := cI_s h
  refine g_SN X (As := [.int ((a0 * (3 : Int32)) + a1), .int (0 : Int32), .int ((30 : Int32) - (1 : Int32))]) (rest := []) (c_X12_inRange l G E ((a0 * (3 : Int32)) + a1) (0 : Int32) ((30 : Int32) - (1 : Int32)) _ _ e1) wc_X12_inRange kn_X4_29 wi_RX12 wt_X12_inRange ⟨rfl, rfl⟩ hd_X12_inRange (⟨Nat.le_of_ble_eq_true rfl, Nat.le_of_ble_eq_true rfl⟩) rfl rfl (Nat.le_of_ble_eq_true rfl) dX4_parameterAt_15 ?_
  refine g_if_eq X (tgt := 30) dX4_parameterAt_18 (by decide) (fun c5 => ?_) (fun c5 => ?_)
  · have h := (ite_s h).1 c5
    refine g_iconst X (v := (0 : Int32)) dX4_parameterAt_30 (by decide) ?_
    exact g_iret X hr rfl dX4_parameterAt_31 (Option.some.inj h)
  · have h := (ite_s h).2 c5
    refine g_aload_n X 1 (i0 := 0) dX4_parameterAt_21 rfl rfl ?_
    refine g_get X (D := D2) (v := .ref (E.1 83)) (T := TX4) 80 uX4 (wg_80 E _) rfl 2 (by decide) fl_X4_21 rfl rfl dX4_parameterAt_22 ?_
    refine g_iload_n X 0 (i0 := 3) dX4_parameterAt_25 rfl rfl ?_
    obtain ⟨b4, h⟩ := chk_s h
    refine g_iald X (D := D2) (f := (D2.2.2.1 66)) (i := ((a0 * (3 : Int32)) + a1)) 83 (wg_83 E _) (inB_vp b4) dX4_parameterAt_26 ?_
    refine g_goto X (tgt := 31) dX4_parameterAt_27 (by decide) ?_
    exact g_iret X hr rfl dX4_parameterAt_31 (Option.some.inj h)
def S_X4_signIs (a0 : Int32) (a1 : Int32) (D : DD) : Option RT := (if a0 < 0 then some (0, some (.int (0 : Int32)), D) else (if (D.1 129) ≤ a0 then some (0, some (.int (0 : Int32)), D) else (if (60 : Int32) ≤ a0 then some (0, some (.int (0 : Int32)), D) else (if inB a0 60 = true then (if ((D.2.2.1 65) a0.toNatClampNeg) = a1 then some (0, some (.int (1 : Int32)), D) else some (0, some (.int (0 : Int32)), D)) else none))))
set_option maxRecDepth 100000 in
set_option maxHeartbeats 4000000 in
theorem c_X4_signIs (l : Launch) (G : va_G) (E : EE) (a0 : Int32) (a1 : Int32) (D : DD) (r : RT) (h : S_X4_signIs a0 a1 D = some r) : MM l G E yX4_signIs cX4_signIs 3 (some .boolean) (rmm 0) [.ref (E.1 80), .int a0, .int a1] D r := by
  refine m_of rfl (Nat.le_of_ble_eq_true rfl) ?_
  intro p e s m args below meth c X hr
  unfold S_X4_signIs at h
  refine g_iload_n X 1 (i0 := 1) dX4_signIs_0 rfl rfl ?_
  refine g_if_lt X (tgt := 32) dX4_signIs_1 (by decide) (fun c5 => ?_) (fun c5 => ?_)
  · have h := (ite_s h).1 c5
    refine g_iconst X (v := (0 : Int32)) dX4_signIs_32 (by decide) ?_
    exact g_iret X hr rfl dX4_signIs_33 (Option.some.inj h)
  · have h := (ite_s h).2 c5
    refine g_iload_n X 1 (i0 := 1) dX4_signIs_4 rfl rfl ?_
    refine g_aload_n X 0 (i0 := 0) dX4_signIs_5 rfl rfl ?_
    refine g_get X (D := D) (v := .int (D.1 129)) (T := TX4) 80 uX4 (wg_80 E _) rfl 3 (by decide) fl_X4_25 rfl rfl dX4_signIs_6 ?_
    refine g_icmp_ge X (tgt := 32) dX4_signIs_9 (by decide) (fun c4 => ?_) (fun c4 => ?_)
    · have h := (ite_s h).1 c4
      refine g_iconst X (v := (0 : Int32)) dX4_signIs_32 (by decide) ?_
      exact g_iret X hr rfl dX4_signIs_33 (Option.some.inj h)
    · have h := (ite_s h).2 c4
      refine g_iload_n X 1 (i0 := 1) dX4_signIs_12 rfl rfl ?_
      refine g_bipush X (v := (60 : Int32)) dX4_signIs_13 (by decide) ?_
      refine g_icmp_ge X (tgt := 32) dX4_signIs_15 (by decide) (fun c3 => ?_) (fun c3 => ?_)
      · have h := (ite_s h).1 c3
        refine g_iconst X (v := (0 : Int32)) dX4_signIs_32 (by decide) ?_
        exact g_iret X hr rfl dX4_signIs_33 (Option.some.inj h)
      · have h := (ite_s h).2 c3
        refine g_aload_n X 0 (i0 := 0) dX4_signIs_18 rfl rfl ?_
        refine g_get X (D := D) (v := .ref (E.1 81)) (T := TX4) 80 uX4 (wg_80 E _) rfl 0 (by decide) fl_X4_11 rfl rfl dX4_signIs_19 ?_
        refine g_iload_n X 1 (i0 := 1) dX4_signIs_22 rfl rfl ?_
        obtain ⟨b1, h⟩ := chk_s h
        refine g_cald X (D := D) (f := (D.2.2.1 65)) (i := a0) 81 (wg_81 E _) (inB_vp b1) dX4_signIs_23 ?_
        refine g_iload_n X 2 (i0 := 2) dX4_signIs_24 rfl rfl ?_
        refine g_icmp_ne X (tgt := 32) dX4_signIs_25 (by decide) (fun c2 => ?_) (fun c2 => ?_)
        · have h := (ite_s h).2 c2
          refine g_iconst X (v := (0 : Int32)) dX4_signIs_32 (by decide) ?_
          exact g_iret X hr rfl dX4_signIs_33 (Option.some.inj h)
        · have h := (ite_s h).1 c2
          refine g_iconst X (v := (1 : Int32)) dX4_signIs_28 (by decide) ?_
          refine g_goto X (tgt := 33) dX4_signIs_29 (by decide) ?_
          exact g_iret X hr rfl dX4_signIs_33 (Option.some.inj h)
theorem fl_X4_33 : Cond.fieldLink RX4 33 "StoneQuarry$CommandText" "position" "I" ∈ UT := ut 299 (by decide +kernel) (by decide +kernel)
theorem hd_X4_signIs : yX4_signIs.cls ≠ "java/lang/invoke/MethodHandle" ∧ yX4_signIs.cls ≠ "java/lang/invoke/VarHandle" ∧ (parseMethodDescriptor yX4_signIs.desc).map (fun d => d.parameters.length) = some 2 := by decide +kernel
theorem wc_X4_signIs : Cond.code yX4_signIs cX4_signIs 3 (some .boolean) ∈ UT := ut 1260 (by decide +kernel) (by decide +kernel)
theorem we_X4_signIs : Cond.selects RX4 yX4_signIs yX4_signIs ∈ UT := ut 31 (by decide +kernel) (by decide +kernel)
theorem wi_RX4 : Cond.initialized RX4 ∈ UT := ut 86 (by decide +kernel) (by decide +kernel)
theorem wm_X4_signIs : Cond.instanceMethod yX4_signIs ∈ UT := ut 1259 (by decide +kernel) (by decide +kernel)
theorem kv_X4_86 : GoodIn UT (wsV RX4 86 RX4 yX4_signIs (Cond.code yX4_signIs cX4_signIs 3 (some .boolean) :: UT)) := gu_V (ut 1257 (by decide +kernel) (by decide +kernel)) wm_X4_signIs we_X4_signIs wi_RX4 wc_X4_signIs
def S_X4_nextIs (a0 : Int32) (D : DD) : Option RT := (cI (S_X4_signIs (D.1 130) a0 D) (fun r3 D2 => (if vp_nar .boolean r3 = r3 then some (0, some (.int r3), D2) else none)))
set_option maxRecDepth 100000 in
set_option maxHeartbeats 4000000 in
theorem c_X4_nextIs (l : Launch) (G : va_G) (E : EE) (a0 : Int32) (D : DD) (r : RT) (h : S_X4_nextIs a0 D = some r) : MM l G E yX4_nextIs cX4_nextIs 2 (some .boolean) (rmm 1) [.ref (E.1 80), .int a0] D r := by
  refine m_of rfl (Nat.le_of_ble_eq_true rfl) ?_
  intro p e s m args below meth c X hr
  unfold S_X4_nextIs at h
  refine g_aload_n X 0 (i0 := 0) dX4_nextIs_0 rfl rfl ?_
  refine g_aload_n X 0 (i0 := 0) dX4_nextIs_1 rfl rfl ?_
  refine g_get X (D := D) (v := .int (D.1 130)) (T := TX4) 80 uX4 (wg_80 E _) rfl 4 (by decide) fl_X4_33 rfl rfl dX4_nextIs_2 ?_
  refine g_iload_n X 1 (i0 := 1) dX4_nextIs_5 rfl rfl ?_
  obtain ⟨r3, D2, e1, h⟩ := cI_s h
  refine g_V X (As := [.int (D.1 130), .int a0]) (rest := []) (c_X4_signIs l G E (D.1 130) a0 _ _ e1) 80 (wg_80 E _) rfl rfl kv_X4_86 ⟨rfl, rfl⟩ ⟨rfl, hd_X4_signIs⟩ (⟨Nat.le_of_ble_eq_true rfl, Nat.le_of_ble_eq_true rfl⟩) rfl rfl (Nat.le_of_ble_eq_true rfl) dX4_nextIs_6 ?_
  obtain ⟨n4, h⟩ := chk_s h
  exact g_iret X hr (by first | exact congrArg Value.int n4 | (rw [show narrow .boolean (.int r3) = .int (vp_nar .boolean r3) from rfl, n4])) dX4_nextIs_9 (Option.some.inj h)
theorem hd_X4_nextIs : yX4_nextIs.cls ≠ "java/lang/invoke/MethodHandle" ∧ yX4_nextIs.cls ≠ "java/lang/invoke/VarHandle" ∧ (parseMethodDescriptor yX4_nextIs.desc).map (fun d => d.parameters.length) = some 1 := by decide +kernel
theorem wc_X4_nextIs : Cond.code yX4_nextIs cX4_nextIs 2 (some .boolean) ∈ UT := ut 1269 (by decide +kernel) (by decide +kernel)
theorem we_X4_nextIs : Cond.selects RX4 yX4_nextIs yX4_nextIs ∈ UT := ut 33 (by decide +kernel) (by decide +kernel)
theorem wm_X4_nextIs : Cond.instanceMethod yX4_nextIs ∈ UT := ut 1268 (by decide +kernel) (by decide +kernel)
theorem kv_X4_43 : GoodIn UT (wsV RX4 43 RX4 yX4_nextIs (Cond.code yX4_nextIs cX4_nextIs 2 (some .boolean) :: UT)) := gu_V (ut 1266 (by decide +kernel) (by decide +kernel)) wm_X4_nextIs we_X4_nextIs wi_RX4 wc_X4_nextIs
def b_X4_nextDigit_0  (D : DD) : Option ((Nat × List Int32 × DD) ⊕ RT) := some (.inl (1, [(0 : Int32)], D))
def b_X4_nextDigit_1 (x1 : Int32) (D : DD) : Option ((Nat × List Int32 × DD) ⊕ RT) := (if (9 : Int32) < x1 then some (.inr (0, some (.int (-1 : Int32)), D)) else (cI (S_X4_nextIs (((48 : Int32) + x1).toUInt32 % 65536).toInt32 D) (fun r3 D2 => (if r3 = 0 then some (.inl (1, [(x1 + (1 : Int32))], D2)) else some (.inr (0, some (.int x1), D2))))))
def T_X4_nextDigit (k : Nat) (ls : List Int32) (D : DD) : Option ((Nat × List Int32 × DD) ⊕ RT) := match k, ls with
  | 0, [] => b_X4_nextDigit_0  D
  | 1, [x1] => b_X4_nextDigit_1 x1 D
  | _, _ => none
def S_X4_nextDigit  (D : DD) : Option RT := run T_X4_nextDigit FUEL 0 [] D
def hg_X4_nextDigit (p : Program) (l : Launch) (e : Env) (s : State) (m : MethodId) (args : Array Value) (below : List Frame) (meth : Method) (c : Code) (G : va_G) (E : EE) (r : RT) (k : Nat) (ls : List Int32) (D : DD) : Prop := match k, ls with
  | 0, [] => GW p l e (rmm 2) s m args below meth c G E 2 (MQ below (QR G E s.heap.size r) args s 0 0 (fr E s.heap.size)) 0 0 D 0 [(0, .ref (E.1 80))] []
  | 1, [x1] => GW p l e (rmm 2) s m args below meth c G E 2 (MQ below (QR G E s.heap.size r) args s 0 0 (fr E s.heap.size)) 0 0 D 2 [(0, .ref (E.1 80)), (1, .int x1)] []
  | _, _ => True
set_option maxRecDepth 100000 in
set_option maxHeartbeats 4000000 in
theorem bl_X4_nextDigit_0 {p : Program} {l : Launch} {e : Env} {s : State} {m : MethodId} {args : Array Value} {below : List Frame} {meth : Method} {c : Code} {G : va_G} {E : EE} {r : RT} (X : CX p s m args meth c cX4_nextDigit RX4 2 G E) (hr : meth.sig.returnType = (some .int))  (D : DD) (o : (Nat × List Int32 × DD) ⊕ RT) (h : b_X4_nextDigit_0  D = some o) (h1 : ∀ x, o = .inl x → hg_X4_nextDigit p l e s m args below meth c G E r x.1 x.2.1 x.2.2) (h2 : ∀ x, o = .inr x → x = r) : GW p l e (rmm 2) s m args below meth c G E 2 (MQ below (QR G E s.heap.size r) args s 0 0 (fr E s.heap.size)) 0 0 D 0 [(0, .ref (E.1 80))] [] := by
  unfold b_X4_nextDigit_0 at h
  refine g_iconst X (v := (0 : Int32)) dX4_nextDigit_0 (by decide) ?_
  refine g_istore_n X (i0 := 1) (lv' := [(1, .int (0 : Int32)), (0, .ref (E.1 80))]) dX4_nextDigit_1 rfl (by decide) rfl ?_
  refine g_sub (lv' := [(0, .ref (E.1 80)), (1, .int (0 : Int32))]) [1, 0] rfl ?_
  exact h1 _ (Option.some.inj h).symm
set_option maxRecDepth 100000 in
set_option maxHeartbeats 4000000 in
theorem bl_X4_nextDigit_1 {p : Program} {l : Launch} {e : Env} {s : State} {m : MethodId} {args : Array Value} {below : List Frame} {meth : Method} {c : Code} {G : va_G} {E : EE} {r : RT} (X : CX p s m args meth c cX4_nextDigit RX4 2 G E) (hr : meth.sig.returnType = (some .int)) (x1 : Int32) (D : DD) (o : (Nat × List Int32 × DD) ⊕ RT) (h : b_X4_nextDigit_1 x1 D = some o) (h1 : ∀ x, o = .inl x → hg_X4_nextDigit p l e s m args below meth c G E r x.1 x.2.1 x.2.2) (h2 : ∀ x, o = .inr x → x = r) : GW p l e (rmm 2) s m args below meth c G E 2 (MQ below (QR G E s.heap.size r) args s 0 0 (fr E s.heap.size)) 0 0 D 2 [(0, .ref (E.1 80)), (1, .int x1)] [] := by
  unfold b_X4_nextDigit_1 at h
  refine g_iload_n X 1 (i0 := 1) dX4_nextDigit_2 rfl rfl ?_
  refine g_bipush X (v := (9 : Int32)) dX4_nextDigit_3 (by decide) ?_
  refine g_icmp_gt X (tgt := 28) dX4_nextDigit_5 (by decide) (fun c5 => ?_) (fun c5 => ?_)
  · have h := (ite_s h).1 c5
    refine g_iconst X (v := (-1 : Int32)) dX4_nextDigit_28 (by decide) ?_
    exact g_iret X hr rfl dX4_nextDigit_29 (h2 _ (Option.some.inj h).symm)
  · have h := (ite_s h).2 c5
    refine g_aload_n X 0 (i0 := 0) dX4_nextDigit_8 rfl rfl ?_
    refine g_bipush X (v := (48 : Int32)) dX4_nextDigit_9 (by decide) ?_
    refine g_iload_n X 1 (i0 := 1) dX4_nextDigit_11 rfl rfl ?_
    refine g_iadd X dX4_nextDigit_12 ?_
    refine g_i2c X dX4_nextDigit_13 ?_
    obtain ⟨r3, D2, e1, h⟩ := cI_s h
    refine g_V X (As := [.int (((48 : Int32) + x1).toUInt32 % 65536).toInt32]) (rest := []) (c_X4_nextIs l G E (((48 : Int32) + x1).toUInt32 % 65536).toInt32 _ _ e1) 80 (wg_80 E _) rfl rfl kv_X4_43 ⟨rfl, rfl⟩ ⟨rfl, hd_X4_nextIs⟩ (⟨Nat.le_of_ble_eq_true rfl, Nat.le_of_ble_eq_true rfl⟩) rfl rfl (Nat.le_of_ble_eq_true rfl) dX4_nextDigit_14 ?_
    refine g_if_eq X (tgt := 22) dX4_nextDigit_17 (by decide) (fun c4 => ?_) (fun c4 => ?_)
    · have h := (ite_s h).1 c4
      refine g_iinc X 1 (v := (x1 + (1 : Int32))) (lv' := [(1, .int (x1 + (1 : Int32))), (0, .ref (E.1 80))]) dX4_nextDigit_22 rfl rfl (by decide) rfl ?_
      refine g_goto X (tgt := 2) dX4_nextDigit_25 (by decide) ?_
      refine g_sub (lv' := [(0, .ref (E.1 80)), (1, .int (x1 + (1 : Int32)))]) [1, 0] rfl ?_
      exact h1 _ (Option.some.inj h).symm
    · have h := (ite_s h).2 c4
      refine g_iload_n X 1 (i0 := 1) dX4_nextDigit_20 rfl rfl ?_
      exact g_iret X hr rfl dX4_nextDigit_21 (h2 _ (Option.some.inj h).symm)
set_option maxRecDepth 100000 in
set_option maxHeartbeats 4000000 in
theorem c_X4_nextDigit (l : Launch) (G : va_G) (E : EE)  (D : DD) (r : RT) (h : S_X4_nextDigit  D = some r) : MM l G E yX4_nextDigit cX4_nextDigit 2 (some .int) (rmm 2) [.ref (E.1 80)] D r := by
  unfold S_X4_nextDigit at h
  refine m_of rfl (Nat.le_of_ble_eq_true rfl) ?_
  intro p e s m args below meth c X hr
  exact run_G (T := T_X4_nextDigit) (HG := hg_X4_nextDigit p l e s m args below meth c G E r) (by
    intro k ls D o hT h1 h2
    unfold T_X4_nextDigit at hT
    split at hT
    · exact bl_X4_nextDigit_0 X hr  D o hT h1 h2
    · exact bl_X4_nextDigit_1 X hr _ D o hT h1 h2
    · cases hT) FUEL 0 [] D h
theorem hd_X4_nextDigit : yX4_nextDigit.cls ≠ "java/lang/invoke/MethodHandle" ∧ yX4_nextDigit.cls ≠ "java/lang/invoke/VarHandle" ∧ (parseMethodDescriptor yX4_nextDigit.desc).map (fun d => d.parameters.length) = some 0 := by decide +kernel
theorem wc_X4_nextDigit : Cond.code yX4_nextDigit cX4_nextDigit 2 (some .int) ∈ UT := ut 1273 (by decide +kernel) (by decide +kernel)
theorem we_X4_nextDigit : Cond.selects RX4 yX4_nextDigit yX4_nextDigit ∈ UT := ut 34 (by decide +kernel) (by decide +kernel)
theorem wm_X4_nextDigit : Cond.instanceMethod yX4_nextDigit ∈ UT := ut 1272 (by decide +kernel) (by decide +kernel)
theorem kv_X4_90 : GoodIn UT (wsV RX4 90 RX4 yX4_nextDigit (Cond.code yX4_nextDigit cX4_nextDigit 2 (some .int) :: UT)) := gu_V (ut 1270 (by decide +kernel) (by decide +kernel)) wm_X4_nextDigit we_X4_nextDigit wi_RX4 wc_X4_nextDigit
theorem ws_I_130 (E : EE) (D : DD) (v : Int32) : (wd E D).set 80 (E.1 80, .inr (4, [.ref (E.1 81), .ref (E.1 82), .ref (E.1 83), .int (D.1 129), .int v, .int (D.1 131)])) = wd E (setI D 130 v) := rfl
def S_X4_readNumber (a0 : Int32) (D : DD) : Option RT := (cI (S_X4_nextIs (32 : Int32) D) (fun r3 D2 => (if r3 = 0 then some (0, some (.int (-1 : Int32)), D2) else (cI (S_X4_nextDigit (setI D2 130 ((D2.1 130) + (1 : Int32)))) (fun r6 D5 => (if r6 = (-1 : Int32) then some (0, some (.int (-1 : Int32)), D5) else (if a0 ≤ (1 : Int32) then some (0, some (.int r6), (setI D5 130 ((D5.1 130) + (1 : Int32)))) else (cI (S_X4_nextDigit (setI D5 130 ((D5.1 130) + (1 : Int32)))) (fun r9 D8 => (if r9 = (-1 : Int32) then some (0, some (.int r6), D8) else some (0, some (.int ((r6 * (10 : Int32)) + r9)), (setI D8 130 ((D8.1 130) + (1 : Int32))))))))))))))
set_option maxRecDepth 100000 in
set_option maxHeartbeats 4000000 in
theorem c_X4_readNumber (l : Launch) (G : va_G) (E : EE) (a0 : Int32) (D : DD) (r : RT) (h : S_X4_readNumber a0 D = some r) : MM l G E yX4_readNumber cX4_readNumber 4 (some .int) (rmm 3) [.ref (E.1 80), .int a0] D r := by
  refine m_of rfl (Nat.le_of_ble_eq_true rfl) ?_
  intro p e s m args below meth c X hr
  unfold S_X4_readNumber at h
  refine g_aload_n X 0 (i0 := 0) dX4_readNumber_0 rfl rfl ?_
  refine g_bipush X (v := (32 : Int32)) dX4_readNumber_1 (by decide) ?_
  obtain ⟨r3, D2, e1, h⟩ := cI_s h
  refine g_V X (As := [.int (32 : Int32)]) (rest := []) (c_X4_nextIs l G E (32 : Int32) _ _ e1) 80 (wg_80 E _) rfl rfl kv_X4_43 ⟨rfl, rfl⟩ ⟨rfl, hd_X4_nextIs⟩ (⟨Nat.le_of_ble_eq_true rfl, Nat.le_of_ble_eq_true rfl⟩) rfl rfl (Nat.le_of_ble_eq_true rfl) dX4_readNumber_3 ?_
  refine g_if_ne X (tgt := 11) dX4_readNumber_6 (by decide) (fun c13 => ?_) (fun c13 => ?_)
  · have h := (ite_s h).2 c13
    refine g_aload_n X 0 (i0 := 0) dX4_readNumber_11 rfl rfl ?_
    refine g_dup X dX4_readNumber_12 rfl ?_
    refine g_get X (D := D2) (v := .int (D2.1 130)) (T := TX4) 80 uX4 (wg_80 E _) rfl 4 (by decide) fl_X4_33 rfl rfl dX4_readNumber_13 ?_
    refine g_iconst X (v := (1 : Int32)) dX4_readNumber_16 (by decide) ?_
    refine g_iadd X dX4_readNumber_17 ?_
    refine g_put X (D := D2) (v := .int ((D2.1 130) + (1 : Int32))) (T := TX4) (D' := (setI D2 130 ((D2.1 130) + (1 : Int32)))) 80 uX4 tyX4 tyX4_ok nmX4 (wg_80 E _) rfl 4 (by decide) fl_X4_33 rfl rfl rfl rfl (Nat.le_of_ble_eq_true rfl) (ws_I_130 E _ _) dX4_readNumber_18 ?_
    refine g_aload_n X 0 (i0 := 0) dX4_readNumber_21 rfl rfl ?_
    obtain ⟨r6, D5, e4, h⟩ := cI_s h
    refine g_V X (As := []) (rest := []) (c_X4_nextDigit l G E  _ _ e4) 80 (wg_80 E _) rfl rfl kv_X4_90 ⟨rfl, rfl⟩ ⟨rfl, hd_X4_nextDigit⟩ (⟨Nat.le_of_ble_eq_true rfl, Nat.le_of_ble_eq_true rfl⟩) rfl rfl (Nat.le_of_ble_eq_true rfl) dX4_readNumber_22 ?_
    refine g_istore_n X (i0 := 2) (lv' := [(2, .int r6), (0, .ref (E.1 80)), (1, .int a0)]) dX4_readNumber_25 rfl (by decide) rfl ?_
    refine g_iload_n X 0 (i0 := 2) dX4_readNumber_26 rfl rfl ?_
    refine g_iconst X (v := (-1 : Int32)) dX4_readNumber_27 (by decide) ?_
    refine g_icmp_ne X (tgt := 33) dX4_readNumber_28 (by decide) (fun c12 => ?_) (fun c12 => ?_)
    · have h := (ite_s h).2 c12
      refine g_aload_n X 1 (i0 := 0) dX4_readNumber_33 rfl rfl ?_
      refine g_dup X dX4_readNumber_34 rfl ?_
      refine g_get X (D := D5) (v := .int (D5.1 130)) (T := TX4) 80 uX4 (wg_80 E _) rfl 4 (by decide) fl_X4_33 rfl rfl dX4_readNumber_35 ?_
      refine g_iconst X (v := (1 : Int32)) dX4_readNumber_38 (by decide) ?_
      refine g_iadd X dX4_readNumber_39 ?_
      refine g_put X (D := D5) (v := .int ((D5.1 130) + (1 : Int32))) (T := TX4) (D' := (setI D5 130 ((D5.1 130) + (1 : Int32)))) 80 uX4 tyX4 tyX4_ok nmX4 (wg_80 E _) rfl 4 (by decide) fl_X4_33 rfl rfl rfl rfl (Nat.le_of_ble_eq_true rfl) (ws_I_130 E _ _) dX4_readNumber_40 ?_
      refine g_iload_n X 2 (i0 := 1) dX4_readNumber_43 rfl rfl ?_
      refine g_iconst X (v := (1 : Int32)) dX4_readNumber_44 (by decide) ?_
      refine g_icmp_le X (tgt := 55) dX4_readNumber_45 (by decide) (fun c11 => ?_) (fun c11 => ?_)
      · have h := (ite_s h).1 c11
        refine g_iconst X (v := (-1 : Int32)) dX4_readNumber_55 (by decide) ?_
        refine g_istore_n X (i0 := 3) (lv' := [(3, .int (-1 : Int32)), (2, .int r6), (0, .ref (E.1 80)), (1, .int a0)]) dX4_readNumber_56 rfl (by decide) rfl ?_
        refine g_iload_n X 0 (i0 := 3) dX4_readNumber_57 rfl rfl ?_
        refine g_iconst X (v := (-1 : Int32)) dX4_readNumber_58 (by decide) ?_
        refine g_icmp_ne X (tgt := 64) dX4_readNumber_59 (by decide) (fun q => absurd q (by decide)) (fun _ => ?_)
        refine g_iload_n X 1 (i0 := 2) dX4_readNumber_62 rfl rfl ?_
        exact g_iret X hr rfl dX4_readNumber_63 (Option.some.inj h)
      · have h := (ite_s h).2 c11
        refine g_aload_n X 1 (i0 := 0) dX4_readNumber_48 rfl rfl ?_
        obtain ⟨r9, D8, e7, h⟩ := cI_s h
        refine g_V X (As := []) (rest := []) (c_X4_nextDigit l G E  _ _ e7) 80 (wg_80 E _) rfl rfl kv_X4_90 ⟨rfl, rfl⟩ ⟨rfl, hd_X4_nextDigit⟩ (⟨Nat.le_of_ble_eq_true rfl, Nat.le_of_ble_eq_true rfl⟩) rfl rfl (Nat.le_of_ble_eq_true rfl) dX4_readNumber_49 ?_
        refine g_goto X (tgt := 56) dX4_readNumber_52 (by decide) ?_
        refine g_istore_n X (i0 := 3) (lv' := [(3, .int r9), (2, .int r6), (0, .ref (E.1 80)), (1, .int a0)]) dX4_readNumber_56 rfl (by decide) rfl ?_
        refine g_iload_n X 0 (i0 := 3) dX4_readNumber_57 rfl rfl ?_
        refine g_iconst X (v := (-1 : Int32)) dX4_readNumber_58 (by decide) ?_
        refine g_icmp_ne X (tgt := 64) dX4_readNumber_59 (by decide) (fun c10 => ?_) (fun c10 => ?_)
        · have h := (ite_s h).2 c10
          refine g_aload_n X 2 (i0 := 0) dX4_readNumber_64 rfl rfl ?_
          refine g_dup X dX4_readNumber_65 rfl ?_
          refine g_get X (D := D8) (v := .int (D8.1 130)) (T := TX4) 80 uX4 (wg_80 E _) rfl 4 (by decide) fl_X4_33 rfl rfl dX4_readNumber_66 ?_
          refine g_iconst X (v := (1 : Int32)) dX4_readNumber_69 (by decide) ?_
          refine g_iadd X dX4_readNumber_70 ?_
          refine g_put X (D := D8) (v := .int ((D8.1 130) + (1 : Int32))) (T := TX4) (D' := (setI D8 130 ((D8.1 130) + (1 : Int32)))) 80 uX4 tyX4 tyX4_ok nmX4 (wg_80 E _) rfl 4 (by decide) fl_X4_33 rfl rfl rfl rfl (Nat.le_of_ble_eq_true rfl) (ws_I_130 E _ _) dX4_readNumber_71 ?_
          refine g_iload_n X 1 (i0 := 2) dX4_readNumber_74 rfl rfl ?_
          refine g_bipush X (v := (10 : Int32)) dX4_readNumber_75 (by decide) ?_
          refine g_imul X dX4_readNumber_77 ?_
          refine g_iload_n X 0 (i0 := 3) dX4_readNumber_78 rfl rfl ?_
          refine g_iadd X dX4_readNumber_79 ?_
          exact g_iret X hr rfl dX4_readNumber_80 (Option.some.inj h)
        · have h := (ite_s h).1 c10
          refine g_iload_n X 1 (i0 := 2) dX4_readNumber_62 rfl rfl ?_
          exact g_iret X hr rfl dX4_readNumber_63 (Option.some.inj h)
    · have h := (ite_s h).1 c12
      refine g_iconst X (v := (-1 : Int32)) dX4_readNumber_31 (by decide) ?_
      exact g_iret X hr rfl dX4_readNumber_32 (Option.some.inj h)
  · have h := (ite_s h).1 c13
    refine g_iconst X (v := (-1 : Int32)) dX4_readNumber_9 (by decide) ?_
    exact g_iret X hr rfl dX4_readNumber_10 (Option.some.inj h)
theorem fl_X8_21 : Cond.fieldLink RX8 21 "StoneQuarry$QuarryState" "prices" "[I" ∈ UT := ut 125 (by decide +kernel) (by decide +kernel)
theorem kn_X8_64 : Cond.methodLinkNest RX8 64 yX12_inRange "StoneQuarry" ∈ NEST := nst 611 (by decide +kernel) rfl
theorem wg_5 (E : EE) (D : DD) : (wd E D)[5]? = some (E.1 5, .inl (E.2 0, 11, .inl (D.2.2.1 3))) := rfl
def S_X8_priceAt (a0 : Int32) (D : DD) : Option RT := (cI (S_X12_inRange a0 (1 : Int32) (10 : Int32) D) (fun r3 D2 => (if r3 = 0 then some (0, some (.int (0 : Int32)), D2) else (if inB a0 11 = true then some (0, some (.int ((D2.2.2.1 3) a0.toNatClampNeg)), D2) else none))))
set_option maxRecDepth 100000 in
set_option maxHeartbeats 4000000 in
theorem c_X8_priceAt (l : Launch) (G : va_G) (E : EE) (a0 : Int32) (D : DD) (r : RT) (h : S_X8_priceAt a0 D = some r) : MM l G E yX8_priceAt cX8_priceAt 2 (some .int) (rmm 1) [.ref (E.1 1), .int a0] D r := by
  refine m_of rfl (Nat.le_of_ble_eq_true rfl) ?_
  intro p e s m args below meth c X hr
  unfold S_X8_priceAt at h
  refine g_iload_n X 1 (i0 := 1) dX8_priceAt_0 rfl rfl ?_
  refine g_iconst X (v := (1 : Int32)) dX8_priceAt_1 (by decide) ?_
  refine g_bipush X (v := (10 : Int32)) dX8_priceAt_2 (by decide) ?_
  obtain ⟨r3, D2, e1, h⟩ := cI_s h
  refine g_SN X (As := [.int a0, .int (1 : Int32), .int (10 : Int32)]) (rest := []) (c_X12_inRange l G E a0 (1 : Int32) (10 : Int32) _ _ e1) wc_X12_inRange kn_X8_64 wi_RX12 wt_X12_inRange ⟨rfl, rfl⟩ hd_X12_inRange (⟨Nat.le_of_ble_eq_true rfl, Nat.le_of_ble_eq_true rfl⟩) rfl rfl (Nat.le_of_ble_eq_true rfl) dX8_priceAt_4 ?_
  refine g_if_eq X (tgt := 19) dX8_priceAt_7 (by decide) (fun c5 => ?_) (fun c5 => ?_)
  · have h := (ite_s h).1 c5
    refine g_iconst X (v := (0 : Int32)) dX8_priceAt_19 (by decide) ?_
    exact g_iret X hr rfl dX8_priceAt_20 (Option.some.inj h)
  · have h := (ite_s h).2 c5
    refine g_aload_n X 0 (i0 := 0) dX8_priceAt_10 rfl rfl ?_
    refine g_get X (D := D2) (v := .ref (E.1 5)) (T := TX8) 1 uX8 (wg_1 E _) rfl 3 (by decide) fl_X8_21 rfl rfl dX8_priceAt_11 ?_
    refine g_iload_n X 1 (i0 := 1) dX8_priceAt_14 rfl rfl ?_
    obtain ⟨b4, h⟩ := chk_s h
    refine g_iald X (D := D2) (f := (D2.2.2.1 3)) (i := a0) 5 (wg_5 E _) (inB_vp b4) dX8_priceAt_15 ?_
    refine g_goto X (tgt := 20) dX8_priceAt_16 (by decide) ?_
    exact g_iret X hr rfl dX8_priceAt_20 (Option.some.inj h)
theorem fl_X5_15 : Cond.fieldLink RX5 15 "StoneQuarry$Cuts" "pieces" "[I" ∈ UT := ut 267 (by decide +kernel) (by decide +kernel)
theorem fl_X5_9 : Cond.fieldLink RX5 9 "StoneQuarry$Cuts" "coins" "[I" ∈ UT := ut 266 (by decide +kernel) (by decide +kernel)
theorem hd_X8_priceAt : yX8_priceAt.cls ≠ "java/lang/invoke/MethodHandle" ∧ yX8_priceAt.cls ≠ "java/lang/invoke/VarHandle" ∧ (parseMethodDescriptor yX8_priceAt.desc).map (fun d => d.parameters.length) = some 1 := by decide +kernel
theorem wc_X8_priceAt : Cond.code yX8_priceAt cX8_priceAt 2 (some .int) ∈ UT := ut 610 (by decide +kernel) (by decide +kernel)
theorem we_X8_priceAt : Cond.selects RX8 yX8_priceAt yX8_priceAt ∈ UT := ut 609 (by decide +kernel) (by decide +kernel)
theorem wm_X8_priceAt : Cond.instanceMethod yX8_priceAt ∈ UT := ut 608 (by decide +kernel) (by decide +kernel)
theorem kv_X5_26 : GoodIn UT (wsV RX5 26 RX8 yX8_priceAt (Cond.code yX8_priceAt cX8_priceAt 2 (some .int) :: UT)) := gu_V (ut 607 (by decide +kernel) (by decide +kernel)) wm_X8_priceAt we_X8_priceAt wi_RX8 wc_X8_priceAt
theorem uX5 : ∀ w ∈ wsX50, w ∈ UT := ut_all (by decide +kernel) (by decide +kernel)
theorem wg_75 (E : EE) (D : DD) : (wd E D)[75]? = some (E.1 75, .inr (5, [.ref (E.1 76), .ref (E.1 77)])) := rfl
theorem wg_76 (E : EE) (D : DD) : (wd E D)[76]? = some (E.1 76, .inl (E.2 0, 31, .inl (D.2.2.1 62))) := rfl
theorem wg_77 (E : EE) (D : DD) : (wd E D)[77]? = some (E.1 77, .inl (E.2 0, 31, .inl (D.2.2.1 63))) := rfl
theorem ws_A_62 (E : EE) (D : DD) (f : Nat → Int32) : (wd E D).set 76 (E.1 76, .inl (E.2 0, 31, .inl f)) = wd E (setA D 62 f) := rfl
theorem ws_A_63 (E : EE) (D : DD) (f : Nat → Int32) : (wd E D).set 77 (E.1 77, .inl (E.2 0, 31, .inl f)) = wd E (setA D 63 f) := rfl
def b_X5_fillTable_0  (D : DD) : Option ((Nat × List Int32 × DD) ⊕ RT) := some (.inl (1, [(1 : Int32)], (setA (setA D 62 (upd (D.2.2.1 62) (0 : Int32).toNatClampNeg (0 : Int32))) 63 (upd (D.2.2.1 63) (0 : Int32).toNatClampNeg (0 : Int32)))))
def b_X5_fillTable_1 (x2 : Int32) (D : DD) : Option ((Nat × List Int32 × DD) ⊕ RT) := (if (30 : Int32) < x2 then some (.inr (0, none, D)) else (if inB x2 31 = true then (if inB x2 31 = true then some (.inl (2, [x2, (1 : Int32)], (setA (setA D 62 (upd (D.2.2.1 62) x2.toNatClampNeg (-1 : Int32))) 63 (upd (D.2.2.1 63) x2.toNatClampNeg (0 : Int32))))) else none) else none))
def b_X5_fillTable_2 (x2 : Int32) (x3 : Int32) (D : DD) : Option ((Nat × List Int32 × DD) ⊕ RT) := (if (10 : Int32) < x3 then some (.inl (1, [(x2 + (1 : Int32))], D)) else (if x2 < x3 then some (.inl (1, [(x2 + (1 : Int32))], D)) else (if inB (x2 - x3) 31 = true then (cI (S_X8_priceAt x3 D) (fun r7 D6 => (if inB (x2 - x3) 31 = true then (if inB x2 31 = true then (if ((D6.2.2.1 62) x2.toNatClampNeg) < (((D.2.2.1 62) (x2 - x3).toNatClampNeg) + r7) then some (.inl (3, [x2, x3, (((D.2.2.1 62) (x2 - x3).toNatClampNeg) + r7), (((D6.2.2.1 63) (x2 - x3).toNatClampNeg) + (1 : Int32))], D6)) else (if inB x2 31 = true then (if (((D.2.2.1 62) (x2 - x3).toNatClampNeg) + r7) = ((D6.2.2.1 62) x2.toNatClampNeg) then (if inB x2 31 = true then (if ((D6.2.2.1 63) x2.toNatClampNeg) ≤ (((D6.2.2.1 63) (x2 - x3).toNatClampNeg) + (1 : Int32)) then some (.inl (2, [x2, (x3 + (1 : Int32))], D6)) else some (.inl (3, [x2, x3, (((D.2.2.1 62) (x2 - x3).toNatClampNeg) + r7), (((D6.2.2.1 63) (x2 - x3).toNatClampNeg) + (1 : Int32))], D6))) else none) else some (.inl (2, [x2, (x3 + (1 : Int32))], D6))) else none)) else none) else none))) else none)))
def b_X5_fillTable_3 (x2 : Int32) (x3 : Int32) (x4 : Int32) (x5 : Int32) (D : DD) : Option ((Nat × List Int32 × DD) ⊕ RT) := (if inB x2 31 = true then (if inB x2 31 = true then some (.inl (2, [x2, (x3 + (1 : Int32))], (setA (setA D 62 (upd (D.2.2.1 62) x2.toNatClampNeg x4)) 63 (upd (D.2.2.1 63) x2.toNatClampNeg x5)))) else none) else none)
def T_X5_fillTable (k : Nat) (ls : List Int32) (D : DD) : Option ((Nat × List Int32 × DD) ⊕ RT) := match k, ls with
  | 0, [] => b_X5_fillTable_0  D
  | 1, [x2] => b_X5_fillTable_1 x2 D
  | 2, [x2, x3] => b_X5_fillTable_2 x2 x3 D
  | 3, [x2, x3, x4, x5] => b_X5_fillTable_3 x2 x3 x4 x5 D
  | _, _ => none
def S_X5_fillTable  (D : DD) : Option RT := run T_X5_fillTable FUEL 0 [] D
def hg_X5_fillTable (p : Program) (l : Launch) (e : Env) (s : State) (m : MethodId) (args : Array Value) (below : List Frame) (meth : Method) (c : Code) (G : va_G) (E : EE) (r : RT) (k : Nat) (ls : List Int32) (D : DD) : Prop := match k, ls with
  | 0, [] => GW p l e (rmm 2) s m args below meth c G E 6 (MQ below (QR G E s.heap.size r) args s 0 0 (fr E s.heap.size)) 0 0 D 0 [(0, .ref (E.1 75)), (1, .ref (E.1 1))] []
  | 1, [x2] => GW p l e (rmm 2) s m args below meth c G E 6 (MQ below (QR G E s.heap.size r) args s 0 0 (fr E s.heap.size)) 0 0 D 16 [(0, .ref (E.1 75)), (1, .ref (E.1 1)), (2, .int x2)] []
  | 2, [x2, x3] => GW p l e (rmm 2) s m args below meth c G E 6 (MQ below (QR G E s.heap.size r) args s 0 0 (fr E s.heap.size)) 0 0 D 38 [(0, .ref (E.1 75)), (1, .ref (E.1 1)), (2, .int x2), (3, .int x3)] []
  | 3, [x2, x3, x4, x5] => GW p l e (rmm 2) s m args below meth c G E 6 (MQ below (QR G E s.heap.size r) args s 0 0 (fr E s.heap.size)) 0 0 D 110 [(0, .ref (E.1 75)), (1, .ref (E.1 1)), (2, .int x2), (3, .int x3), (4, .int x4), (5, .int x5)] []
  | _, _ => True
set_option maxRecDepth 100000 in
set_option maxHeartbeats 4000000 in
theorem bl_X5_fillTable_0 {p : Program} {l : Launch} {e : Env} {s : State} {m : MethodId} {args : Array Value} {below : List Frame} {meth : Method} {c : Code} {G : va_G} {E : EE} {r : RT} (X : CX p s m args meth c cX5_fillTable RX5 6 G E) (hr : meth.sig.returnType = none)  (D : DD) (o : (Nat × List Int32 × DD) ⊕ RT) (h : b_X5_fillTable_0  D = some o) (h1 : ∀ x, o = .inl x → hg_X5_fillTable p l e s m args below meth c G E r x.1 x.2.1 x.2.2) (h2 : ∀ x, o = .inr x → x = r) : GW p l e (rmm 2) s m args below meth c G E 6 (MQ below (QR G E s.heap.size r) args s 0 0 (fr E s.heap.size)) 0 0 D 0 [(0, .ref (E.1 75)), (1, .ref (E.1 1))] [] := by
  unfold b_X5_fillTable_0 at h
  refine g_aload_n X 0 (i0 := 0) dX5_fillTable_0 rfl rfl ?_
  refine g_get X (D := D) (v := .ref (E.1 76)) (T := TX5) 75 uX5 (wg_75 E _) rfl 0 (by decide) fl_X5_9 rfl rfl dX5_fillTable_1 ?_
  refine g_iconst X (v := (0 : Int32)) dX5_fillTable_4 (by decide) ?_
  refine g_iconst X (v := (0 : Int32)) dX5_fillTable_5 (by decide) ?_
  refine g_iast X (D := D) (f := (D.2.2.1 62)) (i := (0 : Int32)) (x := (0 : Int32)) (D' := (setA D 62 (upd (D.2.2.1 62) (0 : Int32).toNatClampNeg (0 : Int32)))) 76 (wg_76 E _) (inB_vp (by decide)) (ws_A_62 E _ _) dX5_fillTable_6 ?_
  refine g_aload_n X 0 (i0 := 0) dX5_fillTable_7 rfl rfl ?_
  refine g_get X (D := (setA D 62 (upd (D.2.2.1 62) (0 : Int32).toNatClampNeg (0 : Int32)))) (v := .ref (E.1 77)) (T := TX5) 75 uX5 (wg_75 E _) rfl 1 (by decide) fl_X5_15 rfl rfl dX5_fillTable_8 ?_
  refine g_iconst X (v := (0 : Int32)) dX5_fillTable_11 (by decide) ?_
  refine g_iconst X (v := (0 : Int32)) dX5_fillTable_12 (by decide) ?_
  refine g_iast X (D := (setA D 62 (upd (D.2.2.1 62) (0 : Int32).toNatClampNeg (0 : Int32)))) (f := (D.2.2.1 63)) (i := (0 : Int32)) (x := (0 : Int32)) (D' := (setA (setA D 62 (upd (D.2.2.1 62) (0 : Int32).toNatClampNeg (0 : Int32))) 63 (upd (D.2.2.1 63) (0 : Int32).toNatClampNeg (0 : Int32)))) 77 (wg_77 E _) (inB_vp (by decide)) (ws_A_63 E _ _) dX5_fillTable_13 ?_
  refine g_iconst X (v := (1 : Int32)) dX5_fillTable_14 (by decide) ?_
  refine g_istore_n X (i0 := 2) (lv' := [(2, .int (1 : Int32)), (0, .ref (E.1 75)), (1, .ref (E.1 1))]) dX5_fillTable_15 rfl (by decide) rfl ?_
  refine g_sub (lv' := [(0, .ref (E.1 75)), (1, .ref (E.1 1)), (2, .int (1 : Int32))]) [1, 2, 0] rfl ?_
  exact h1 _ (Option.some.inj h).symm
set_option maxRecDepth 100000 in
set_option maxHeartbeats 4000000 in
theorem bl_X5_fillTable_1 {p : Program} {l : Launch} {e : Env} {s : State} {m : MethodId} {args : Array Value} {below : List Frame} {meth : Method} {c : Code} {G : va_G} {E : EE} {r : RT} (X : CX p s m args meth c cX5_fillTable RX5 6 G E) (hr : meth.sig.returnType = none) (x2 : Int32) (D : DD) (o : (Nat × List Int32 × DD) ⊕ RT) (h : b_X5_fillTable_1 x2 D = some o) (h1 : ∀ x, o = .inl x → hg_X5_fillTable p l e s m args below meth c G E r x.1 x.2.1 x.2.2) (h2 : ∀ x, o = .inr x → x = r) : GW p l e (rmm 2) s m args below meth c G E 6 (MQ below (QR G E s.heap.size r) args s 0 0 (fr E s.heap.size)) 0 0 D 16 [(0, .ref (E.1 75)), (1, .ref (E.1 1)), (2, .int x2)] [] := by
  unfold b_X5_fillTable_1 at h
  refine g_iload_n X 2 (i0 := 2) dX5_fillTable_16 rfl rfl ?_
  refine g_bipush X (v := (30 : Int32)) dX5_fillTable_17 (by decide) ?_
  refine g_icmp_gt X (tgt := 138) dX5_fillTable_19 (by decide) (fun c3 => ?_) (fun c3 => ?_)
  · have h := (ite_s h).1 c3
    exact g_vret X hr dX5_fillTable_138 (h2 _ (Option.some.inj h).symm)
  · have h := (ite_s h).2 c3
    refine g_aload_n X 0 (i0 := 0) dX5_fillTable_22 rfl rfl ?_
    refine g_get X (D := D) (v := .ref (E.1 76)) (T := TX5) 75 uX5 (wg_75 E _) rfl 0 (by decide) fl_X5_9 rfl rfl dX5_fillTable_23 ?_
    refine g_iload_n X 2 (i0 := 2) dX5_fillTable_26 rfl rfl ?_
    refine g_iconst X (v := (-1 : Int32)) dX5_fillTable_27 (by decide) ?_
    obtain ⟨b1, h⟩ := chk_s h
    refine g_iast X (D := D) (f := (D.2.2.1 62)) (i := x2) (x := (-1 : Int32)) (D' := (setA D 62 (upd (D.2.2.1 62) x2.toNatClampNeg (-1 : Int32)))) 76 (wg_76 E _) (inB_vp b1) (ws_A_62 E _ _) dX5_fillTable_28 ?_
    refine g_aload_n X 0 (i0 := 0) dX5_fillTable_29 rfl rfl ?_
    refine g_get X (D := (setA D 62 (upd (D.2.2.1 62) x2.toNatClampNeg (-1 : Int32)))) (v := .ref (E.1 77)) (T := TX5) 75 uX5 (wg_75 E _) rfl 1 (by decide) fl_X5_15 rfl rfl dX5_fillTable_30 ?_
    refine g_iload_n X 2 (i0 := 2) dX5_fillTable_33 rfl rfl ?_
    refine g_iconst X (v := (0 : Int32)) dX5_fillTable_34 (by decide) ?_
    obtain ⟨b2, h⟩ := chk_s h
    refine g_iast X (D := (setA D 62 (upd (D.2.2.1 62) x2.toNatClampNeg (-1 : Int32)))) (f := (D.2.2.1 63)) (i := x2) (x := (0 : Int32)) (D' := (setA (setA D 62 (upd (D.2.2.1 62) x2.toNatClampNeg (-1 : Int32))) 63 (upd (D.2.2.1 63) x2.toNatClampNeg (0 : Int32)))) 77 (wg_77 E _) (inB_vp b2) (ws_A_63 E _ _) dX5_fillTable_35 ?_
    refine g_iconst X (v := (1 : Int32)) dX5_fillTable_36 (by decide) ?_
    refine g_istore_n X (i0 := 3) (lv' := [(3, .int (1 : Int32)), (0, .ref (E.1 75)), (1, .ref (E.1 1)), (2, .int x2)]) dX5_fillTable_37 rfl (by decide) rfl ?_
    refine g_sub (lv' := [(0, .ref (E.1 75)), (1, .ref (E.1 1)), (2, .int x2), (3, .int (1 : Int32))]) [1, 2, 3, 0] rfl ?_
    exact h1 _ (Option.some.inj h).symm
set_option maxRecDepth 100000 in
set_option maxHeartbeats 4000000 in
theorem bl_X5_fillTable_2 {p : Program} {l : Launch} {e : Env} {s : State} {m : MethodId} {args : Array Value} {below : List Frame} {meth : Method} {c : Code} {G : va_G} {E : EE} {r : RT} (X : CX p s m args meth c cX5_fillTable RX5 6 G E) (hr : meth.sig.returnType = none) (x2 : Int32) (x3 : Int32) (D : DD) (o : (Nat × List Int32 × DD) ⊕ RT) (h : b_X5_fillTable_2 x2 x3 D = some o) (h1 : ∀ x, o = .inl x → hg_X5_fillTable p l e s m args below meth c G E r x.1 x.2.1 x.2.2) (h2 : ∀ x, o = .inr x → x = r) : GW p l e (rmm 2) s m args below meth c G E 6 (MQ below (QR G E s.heap.size r) args s 0 0 (fr E s.heap.size)) 0 0 D 38 [(0, .ref (E.1 75)), (1, .ref (E.1 1)), (2, .int x2), (3, .int x3)] [] := by
  unfold b_X5_fillTable_2 at h
  refine g_iload_n X 3 (i0 := 3) dX5_fillTable_38 rfl rfl ?_
  refine g_bipush X (v := (10 : Int32)) dX5_fillTable_39 (by decide) ?_
  refine g_icmp_gt X (tgt := 132) dX5_fillTable_41 (by decide) (fun c16 => ?_) (fun c16 => ?_)
  · have h := (ite_s h).1 c16
    refine g_iinc X 2 (v := (x2 + (1 : Int32))) (lv' := [(2, .int (x2 + (1 : Int32))), (0, .ref (E.1 75)), (1, .ref (E.1 1)), (3, .int x3)]) dX5_fillTable_132 rfl rfl (by decide) rfl ?_
    refine g_goto X (tgt := 16) dX5_fillTable_135 (by decide) ?_
    refine g_sub (lv' := [(0, .ref (E.1 75)), (1, .ref (E.1 1)), (2, .int (x2 + (1 : Int32)))]) [1, 2, 0] rfl ?_
    exact h1 _ (Option.some.inj h).symm
  · have h := (ite_s h).2 c16
    refine g_iload_n X 3 (i0 := 3) dX5_fillTable_44 rfl rfl ?_
    refine g_iload_n X 2 (i0 := 2) dX5_fillTable_45 rfl rfl ?_
    refine g_icmp_gt X (tgt := 132) dX5_fillTable_46 (by decide) (fun c15 => ?_) (fun c15 => ?_)
    · have h := (ite_s h).1 c15
      refine g_iinc X 2 (v := (x2 + (1 : Int32))) (lv' := [(2, .int (x2 + (1 : Int32))), (0, .ref (E.1 75)), (1, .ref (E.1 1)), (3, .int x3)]) dX5_fillTable_132 rfl rfl (by decide) rfl ?_
      refine g_goto X (tgt := 16) dX5_fillTable_135 (by decide) ?_
      refine g_sub (lv' := [(0, .ref (E.1 75)), (1, .ref (E.1 1)), (2, .int (x2 + (1 : Int32)))]) [1, 2, 0] rfl ?_
      exact h1 _ (Option.some.inj h).symm
    · have h := (ite_s h).2 c15
      refine g_aload_n X 0 (i0 := 0) dX5_fillTable_49 rfl rfl ?_
      refine g_get X (D := D) (v := .ref (E.1 76)) (T := TX5) 75 uX5 (wg_75 E _) rfl 0 (by decide) fl_X5_9 rfl rfl dX5_fillTable_50 ?_
      refine g_iload_n X 2 (i0 := 2) dX5_fillTable_53 rfl rfl ?_
      refine g_iload_n X 3 (i0 := 3) dX5_fillTable_54 rfl rfl ?_
      refine g_isub X dX5_fillTable_55 ?_
      obtain ⟨b4, h⟩ := chk_s h
      refine g_iald X (D := D) (f := (D.2.2.1 62)) (i := (x2 - x3)) 76 (wg_76 E _) (inB_vp b4) dX5_fillTable_56 ?_
      refine g_aload_n X 1 (i0 := 1) dX5_fillTable_57 rfl rfl ?_
      refine g_iload_n X 3 (i0 := 3) dX5_fillTable_58 rfl rfl ?_
      obtain ⟨r7, D6, e5, h⟩ := cI_s h
      refine g_V X (As := [.int x3]) (rest := [.int ((D.2.2.1 62) (x2 - x3).toNatClampNeg)]) (c_X8_priceAt l G E x3 _ _ e5) 1 (wg_1 E _) rfl rfl kv_X5_26 ⟨rfl, rfl⟩ ⟨rfl, hd_X8_priceAt⟩ (⟨Nat.le_of_ble_eq_true rfl, Nat.le_of_ble_eq_true rfl⟩) rfl rfl (Nat.le_of_ble_eq_true rfl) dX5_fillTable_59 ?_
      refine g_iadd X dX5_fillTable_62 ?_
      refine g_istore X (lv' := [(4, .int (((D.2.2.1 62) (x2 - x3).toNatClampNeg) + r7)), (0, .ref (E.1 75)), (1, .ref (E.1 1)), (2, .int x2), (3, .int x3)]) dX5_fillTable_63 (by decide) rfl ?_
      refine g_aload_n X 1 (i0 := 0) dX5_fillTable_65 rfl rfl ?_
      refine g_get X (D := D6) (v := .ref (E.1 77)) (T := TX5) 75 uX5 (wg_75 E _) rfl 1 (by decide) fl_X5_15 rfl rfl dX5_fillTable_66 ?_
      refine g_iload_n X 3 (i0 := 2) dX5_fillTable_69 rfl rfl ?_
      refine g_iload_n X 4 (i0 := 3) dX5_fillTable_70 rfl rfl ?_
      refine g_isub X dX5_fillTable_71 ?_
      obtain ⟨b8, h⟩ := chk_s h
      refine g_iald X (D := D6) (f := (D6.2.2.1 63)) (i := (x2 - x3)) 77 (wg_77 E _) (inB_vp b8) dX5_fillTable_72 ?_
      refine g_iconst X (v := (1 : Int32)) dX5_fillTable_73 (by decide) ?_
      refine g_iadd X dX5_fillTable_74 ?_
      refine g_istore X (lv' := [(5, .int (((D6.2.2.1 63) (x2 - x3).toNatClampNeg) + (1 : Int32))), (4, .int (((D.2.2.1 62) (x2 - x3).toNatClampNeg) + r7)), (0, .ref (E.1 75)), (1, .ref (E.1 1)), (2, .int x2), (3, .int x3)]) dX5_fillTable_75 (by decide) rfl ?_
      refine g_iload X 1 dX5_fillTable_77 rfl ?_
      refine g_aload_n X 2 (i0 := 0) dX5_fillTable_79 rfl rfl ?_
      refine g_get X (D := D6) (v := .ref (E.1 76)) (T := TX5) 75 uX5 (wg_75 E _) rfl 0 (by decide) fl_X5_9 rfl rfl dX5_fillTable_80 ?_
      refine g_iload_n X 4 (i0 := 2) dX5_fillTable_83 rfl rfl ?_
      obtain ⟨b9, h⟩ := chk_s h
      refine g_iald X (D := D6) (f := (D6.2.2.1 62)) (i := x2) 76 (wg_76 E _) (inB_vp b9) dX5_fillTable_84 ?_
      refine g_icmp_gt X (tgt := 110) dX5_fillTable_85 (by decide) (fun c14 => ?_) (fun c14 => ?_)
      · have h := (ite_s h).1 c14
        refine g_sub (lv' := [(0, .ref (E.1 75)), (1, .ref (E.1 1)), (2, .int x2), (3, .int x3), (4, .int (((D.2.2.1 62) (x2 - x3).toNatClampNeg) + r7)), (5, .int (((D6.2.2.1 63) (x2 - x3).toNatClampNeg) + (1 : Int32)))]) [2, 3, 4, 5, 1, 0] rfl ?_
        exact h1 _ (Option.some.inj h).symm
      · have h := (ite_s h).2 c14
        refine g_iload X 1 dX5_fillTable_88 rfl ?_
        refine g_aload_n X 2 (i0 := 0) dX5_fillTable_90 rfl rfl ?_
        refine g_get X (D := D6) (v := .ref (E.1 76)) (T := TX5) 75 uX5 (wg_75 E _) rfl 0 (by decide) fl_X5_9 rfl rfl dX5_fillTable_91 ?_
        refine g_iload_n X 4 (i0 := 2) dX5_fillTable_94 rfl rfl ?_
        obtain ⟨b10, h⟩ := chk_s h
        refine g_iald X (D := D6) (f := (D6.2.2.1 62)) (i := x2) 76 (wg_76 E _) (inB_vp b10) dX5_fillTable_95 ?_
        refine g_icmp_ne X (tgt := 126) dX5_fillTable_96 (by decide) (fun c13 => ?_) (fun c13 => ?_)
        · have h := (ite_s h).2 c13
          refine g_iinc X 5 (v := (x3 + (1 : Int32))) (lv' := [(3, .int (x3 + (1 : Int32))), (5, .int (((D6.2.2.1 63) (x2 - x3).toNatClampNeg) + (1 : Int32))), (4, .int (((D.2.2.1 62) (x2 - x3).toNatClampNeg) + r7)), (0, .ref (E.1 75)), (1, .ref (E.1 1)), (2, .int x2)]) dX5_fillTable_126 rfl rfl (by decide) rfl ?_
          refine g_goto X (tgt := 38) dX5_fillTable_129 (by decide) ?_
          refine g_sub (lv' := [(0, .ref (E.1 75)), (1, .ref (E.1 1)), (2, .int x2), (3, .int (x3 + (1 : Int32)))]) [3, 4, 5, 0] rfl ?_
          exact h1 _ (Option.some.inj h).symm
        · have h := (ite_s h).1 c13
          refine g_iload X 0 dX5_fillTable_99 rfl ?_
          refine g_aload_n X 2 (i0 := 0) dX5_fillTable_101 rfl rfl ?_
          refine g_get X (D := D6) (v := .ref (E.1 77)) (T := TX5) 75 uX5 (wg_75 E _) rfl 1 (by decide) fl_X5_15 rfl rfl dX5_fillTable_102 ?_
          refine g_iload_n X 4 (i0 := 2) dX5_fillTable_105 rfl rfl ?_
          obtain ⟨b11, h⟩ := chk_s h
          refine g_iald X (D := D6) (f := (D6.2.2.1 63)) (i := x2) 77 (wg_77 E _) (inB_vp b11) dX5_fillTable_106 ?_
          refine g_icmp_ge X (tgt := 126) dX5_fillTable_107 (by decide) (fun c12 => ?_) (fun c12 => ?_)
          · have h := (ite_s h).1 c12
            refine g_iinc X 5 (v := (x3 + (1 : Int32))) (lv' := [(3, .int (x3 + (1 : Int32))), (5, .int (((D6.2.2.1 63) (x2 - x3).toNatClampNeg) + (1 : Int32))), (4, .int (((D.2.2.1 62) (x2 - x3).toNatClampNeg) + r7)), (0, .ref (E.1 75)), (1, .ref (E.1 1)), (2, .int x2)]) dX5_fillTable_126 rfl rfl (by decide) rfl ?_
            refine g_goto X (tgt := 38) dX5_fillTable_129 (by decide) ?_
            refine g_sub (lv' := [(0, .ref (E.1 75)), (1, .ref (E.1 1)), (2, .int x2), (3, .int (x3 + (1 : Int32)))]) [3, 4, 5, 0] rfl ?_
            exact h1 _ (Option.some.inj h).symm
          · have h := (ite_s h).2 c12
            refine g_sub (lv' := [(0, .ref (E.1 75)), (1, .ref (E.1 1)), (2, .int x2), (3, .int x3), (4, .int (((D.2.2.1 62) (x2 - x3).toNatClampNeg) + r7)), (5, .int (((D6.2.2.1 63) (x2 - x3).toNatClampNeg) + (1 : Int32)))]) [2, 3, 4, 5, 1, 0] rfl ?_
            exact h1 _ (Option.some.inj h).symm
set_option maxRecDepth 100000 in
set_option maxHeartbeats 4000000 in
theorem bl_X5_fillTable_3 {p : Program} {l : Launch} {e : Env} {s : State} {m : MethodId} {args : Array Value} {below : List Frame} {meth : Method} {c : Code} {G : va_G} {E : EE} {r : RT} (X : CX p s m args meth c cX5_fillTable RX5 6 G E) (hr : meth.sig.returnType = none) (x2 : Int32) (x3 : Int32) (x4 : Int32) (x5 : Int32) (D : DD) (o : (Nat × List Int32 × DD) ⊕ RT) (h : b_X5_fillTable_3 x2 x3 x4 x5 D = some o) (h1 : ∀ x, o = .inl x → hg_X5_fillTable p l e s m args below meth c G E r x.1 x.2.1 x.2.2) (h2 : ∀ x, o = .inr x → x = r) : GW p l e (rmm 2) s m args below meth c G E 6 (MQ below (QR G E s.heap.size r) args s 0 0 (fr E s.heap.size)) 0 0 D 110 [(0, .ref (E.1 75)), (1, .ref (E.1 1)), (2, .int x2), (3, .int x3), (4, .int x4), (5, .int x5)] [] := by
  unfold b_X5_fillTable_3 at h
  refine g_aload_n X 0 (i0 := 0) dX5_fillTable_110 rfl rfl ?_
  refine g_get X (D := D) (v := .ref (E.1 76)) (T := TX5) 75 uX5 (wg_75 E _) rfl 0 (by decide) fl_X5_9 rfl rfl dX5_fillTable_111 ?_
  refine g_iload_n X 2 (i0 := 2) dX5_fillTable_114 rfl rfl ?_
  refine g_iload X 4 dX5_fillTable_115 rfl ?_
  obtain ⟨b17, h⟩ := chk_s h
  refine g_iast X (D := D) (f := (D.2.2.1 62)) (i := x2) (x := x4) (D' := (setA D 62 (upd (D.2.2.1 62) x2.toNatClampNeg x4))) 76 (wg_76 E _) (inB_vp b17) (ws_A_62 E _ _) dX5_fillTable_117 ?_
  refine g_aload_n X 0 (i0 := 0) dX5_fillTable_118 rfl rfl ?_
  refine g_get X (D := (setA D 62 (upd (D.2.2.1 62) x2.toNatClampNeg x4))) (v := .ref (E.1 77)) (T := TX5) 75 uX5 (wg_75 E _) rfl 1 (by decide) fl_X5_15 rfl rfl dX5_fillTable_119 ?_
  refine g_iload_n X 2 (i0 := 2) dX5_fillTable_122 rfl rfl ?_
  refine g_iload X 5 dX5_fillTable_123 rfl ?_
  obtain ⟨b18, h⟩ := chk_s h
  refine g_iast X (D := (setA D 62 (upd (D.2.2.1 62) x2.toNatClampNeg x4))) (f := (D.2.2.1 63)) (i := x2) (x := x5) (D' := (setA (setA D 62 (upd (D.2.2.1 62) x2.toNatClampNeg x4)) 63 (upd (D.2.2.1 63) x2.toNatClampNeg x5))) 77 (wg_77 E _) (inB_vp b18) (ws_A_63 E _ _) dX5_fillTable_125 ?_
  refine g_iinc X 3 (v := (x3 + (1 : Int32))) (lv' := [(3, .int (x3 + (1 : Int32))), (0, .ref (E.1 75)), (1, .ref (E.1 1)), (2, .int x2), (4, .int x4), (5, .int x5)]) dX5_fillTable_126 rfl rfl (by decide) rfl ?_
  refine g_goto X (tgt := 38) dX5_fillTable_129 (by decide) ?_
  refine g_sub (lv' := [(0, .ref (E.1 75)), (1, .ref (E.1 1)), (2, .int x2), (3, .int (x3 + (1 : Int32)))]) [1, 2, 3, 0] rfl ?_
  exact h1 _ (Option.some.inj h).symm
set_option maxRecDepth 100000 in
set_option maxHeartbeats 4000000 in
theorem c_X5_fillTable (l : Launch) (G : va_G) (E : EE)  (D : DD) (r : RT) (h : S_X5_fillTable  D = some r) : MM l G E yX5_fillTable cX5_fillTable 6 none (rmm 2) [.ref (E.1 75), .ref (E.1 1)] D r := by
  unfold S_X5_fillTable at h
  refine m_of rfl (Nat.le_of_ble_eq_true rfl) ?_
  intro p e s m args below meth c X hr
  exact run_G (T := T_X5_fillTable) (HG := hg_X5_fillTable p l e s m args below meth c G E r) (by
    intro k ls D o hT h1 h2
    unfold T_X5_fillTable at hT
    split at hT
    · exact bl_X5_fillTable_0 X hr  D o hT h1 h2
    · exact bl_X5_fillTable_1 X hr _ D o hT h1 h2
    · exact bl_X5_fillTable_2 X hr _ _ D o hT h1 h2
    · exact bl_X5_fillTable_3 X hr _ _ _ _ D o hT h1 h2
    · cases hT) FUEL 0 [] D h
theorem hd_X5_fillTable : yX5_fillTable.cls ≠ "java/lang/invoke/MethodHandle" ∧ yX5_fillTable.cls ≠ "java/lang/invoke/VarHandle" ∧ (parseMethodDescriptor yX5_fillTable.desc).map (fun d => d.parameters.length) = some 1 := by decide +kernel
theorem kn_X5_22 : Cond.methodLinkNest RX5 22 yX12_inRange "StoneQuarry" ∈ NEST := nst 621 (by decide +kernel) rfl
theorem wc_X5_fillTable : Cond.code yX5_fillTable cX5_fillTable 6 none ∈ UT := ut 620 (by decide +kernel) (by decide +kernel)
theorem we_X5_fillTable : Cond.selects RX5 yX5_fillTable yX5_fillTable ∈ UT := ut 16 (by decide +kernel) (by decide +kernel)
theorem wi_RX5 : Cond.initialized RX5 ∈ UT := ut 84 (by decide +kernel) (by decide +kernel)
theorem wm_X5_fillTable : Cond.instanceMethod yX5_fillTable ∈ UT := ut 619 (by decide +kernel) (by decide +kernel)
theorem kv_X5_18 : GoodIn UT (wsV RX5 18 RX5 yX5_fillTable (Cond.code yX5_fillTable cX5_fillTable 6 none :: UT)) := gu_V (ut 617 (by decide +kernel) (by decide +kernel)) wm_X5_fillTable we_X5_fillTable wi_RX5 wc_X5_fillTable
def S_X5_coinsByTable (a1 : Int32) (D : DD) : Option RT := (cV (S_X5_fillTable D) (fun D2 => (cI (S_X12_inRange a1 (0 : Int32) (30 : Int32) D2) (fun r5 D4 => (if r5 = 0 then some (0, some (.int (0 : Int32)), D4) else (if inB a1 31 = true then some (0, some (.int ((D4.2.2.1 62) a1.toNatClampNeg)), D4) else none))))))
set_option maxRecDepth 100000 in
set_option maxHeartbeats 4000000 in
theorem c_X5_coinsByTable (l : Launch) (G : va_G) (E : EE) (a1 : Int32) (D : DD) (r : RT) (h : S_X5_coinsByTable a1 D = some r) : MM l G E yX5_coinsByTable cX5_coinsByTable 3 (some .int) (rmm 3) [.ref (E.1 75), .ref (E.1 1), .int a1] D r := by
  refine m_of rfl (Nat.le_of_ble_eq_true rfl) ?_
  intro p e s m args below meth c X hr
  unfold S_X5_coinsByTable at h
  refine g_aload_n X 0 (i0 := 0) dX5_coinsByTable_0 rfl rfl ?_
  refine g_aload_n X 1 (i0 := 1) dX5_coinsByTable_1 rfl rfl ?_
  obtain ⟨D2, e1, h⟩ := cV_s h
  refine g_V X (As := [.ref (E.1 1)]) (rest := []) (c_X5_fillTable l G E  _ _ e1) 75 (wg_75 E _) rfl rfl kv_X5_18 ⟨rfl, rfl⟩ ⟨rfl, hd_X5_fillTable⟩ (⟨Nat.le_of_ble_eq_true rfl, Nat.le_of_ble_eq_true rfl⟩) rfl rfl (Nat.le_of_ble_eq_true rfl) dX5_coinsByTable_2 ?_
  refine g_iload_n X 2 (i0 := 2) dX5_coinsByTable_5 rfl rfl ?_
  refine g_iconst X (v := (0 : Int32)) dX5_coinsByTable_6 (by decide) ?_
  refine g_bipush X (v := (30 : Int32)) dX5_coinsByTable_7 (by decide) ?_
  obtain ⟨r5, D4, e3, h⟩ := cI_s h
  refine g_SN X (As := [.int a1, .int (0 : Int32), .int (30 : Int32)]) (rest := []) (c_X12_inRange l G E a1 (0 : Int32) (30 : Int32) _ _ e3) wc_X12_inRange kn_X5_22 wi_RX12 wt_X12_inRange ⟨rfl, rfl⟩ hd_X12_inRange (⟨Nat.le_of_ble_eq_true rfl, Nat.le_of_ble_eq_true rfl⟩) rfl rfl (Nat.le_of_ble_eq_true rfl) dX5_coinsByTable_9 ?_
  refine g_if_eq X (tgt := 24) dX5_coinsByTable_12 (by decide) (fun c7 => ?_) (fun c7 => ?_)
  · have h := (ite_s h).1 c7
    refine g_iconst X (v := (0 : Int32)) dX5_coinsByTable_24 (by decide) ?_
    exact g_iret X hr rfl dX5_coinsByTable_25 (Option.some.inj h)
  · have h := (ite_s h).2 c7
    refine g_aload_n X 0 (i0 := 0) dX5_coinsByTable_15 rfl rfl ?_
    refine g_get X (D := D4) (v := .ref (E.1 76)) (T := TX5) 75 uX5 (wg_75 E _) rfl 0 (by decide) fl_X5_9 rfl rfl dX5_coinsByTable_16 ?_
    refine g_iload_n X 2 (i0 := 2) dX5_coinsByTable_19 rfl rfl ?_
    obtain ⟨b6, h⟩ := chk_s h
    refine g_iald X (D := D4) (f := (D4.2.2.1 62)) (i := a1) 76 (wg_76 E _) (inB_vp b6) dX5_coinsByTable_20 ?_
    refine g_goto X (tgt := 25) dX5_coinsByTable_21 (by decide) ?_
    exact g_iret X hr rfl dX5_coinsByTable_25 (Option.some.inj h)
def S_X5_piecesByTable (a1 : Int32) (D : DD) : Option RT := (cV (S_X5_fillTable D) (fun D2 => (cI (S_X12_inRange a1 (0 : Int32) (30 : Int32) D2) (fun r5 D4 => (if r5 = 0 then some (0, some (.int (0 : Int32)), D4) else (if inB a1 31 = true then some (0, some (.int ((D4.2.2.1 63) a1.toNatClampNeg)), D4) else none))))))
set_option maxRecDepth 100000 in
set_option maxHeartbeats 4000000 in
theorem c_X5_piecesByTable (l : Launch) (G : va_G) (E : EE) (a1 : Int32) (D : DD) (r : RT) (h : S_X5_piecesByTable a1 D = some r) : MM l G E yX5_piecesByTable cX5_piecesByTable 3 (some .int) (rmm 3) [.ref (E.1 75), .ref (E.1 1), .int a1] D r := by
  refine m_of rfl (Nat.le_of_ble_eq_true rfl) ?_
  intro p e s m args below meth c X hr
  unfold S_X5_piecesByTable at h
  refine g_aload_n X 0 (i0 := 0) dX5_piecesByTable_0 rfl rfl ?_
  refine g_aload_n X 1 (i0 := 1) dX5_piecesByTable_1 rfl rfl ?_
  obtain ⟨D2, e1, h⟩ := cV_s h
  refine g_V X (As := [.ref (E.1 1)]) (rest := []) (c_X5_fillTable l G E  _ _ e1) 75 (wg_75 E _) rfl rfl kv_X5_18 ⟨rfl, rfl⟩ ⟨rfl, hd_X5_fillTable⟩ (⟨Nat.le_of_ble_eq_true rfl, Nat.le_of_ble_eq_true rfl⟩) rfl rfl (Nat.le_of_ble_eq_true rfl) dX5_piecesByTable_2 ?_
  refine g_iload_n X 2 (i0 := 2) dX5_piecesByTable_5 rfl rfl ?_
  refine g_iconst X (v := (0 : Int32)) dX5_piecesByTable_6 (by decide) ?_
  refine g_bipush X (v := (30 : Int32)) dX5_piecesByTable_7 (by decide) ?_
  obtain ⟨r5, D4, e3, h⟩ := cI_s h
  refine g_SN X (As := [.int a1, .int (0 : Int32), .int (30 : Int32)]) (rest := []) (c_X12_inRange l G E a1 (0 : Int32) (30 : Int32) _ _ e3) wc_X12_inRange kn_X5_22 wi_RX12 wt_X12_inRange ⟨rfl, rfl⟩ hd_X12_inRange (⟨Nat.le_of_ble_eq_true rfl, Nat.le_of_ble_eq_true rfl⟩) rfl rfl (Nat.le_of_ble_eq_true rfl) dX5_piecesByTable_9 ?_
  refine g_if_eq X (tgt := 24) dX5_piecesByTable_12 (by decide) (fun c7 => ?_) (fun c7 => ?_)
  · have h := (ite_s h).1 c7
    refine g_iconst X (v := (0 : Int32)) dX5_piecesByTable_24 (by decide) ?_
    exact g_iret X hr rfl dX5_piecesByTable_25 (Option.some.inj h)
  · have h := (ite_s h).2 c7
    refine g_aload_n X 0 (i0 := 0) dX5_piecesByTable_15 rfl rfl ?_
    refine g_get X (D := D4) (v := .ref (E.1 77)) (T := TX5) 75 uX5 (wg_75 E _) rfl 1 (by decide) fl_X5_15 rfl rfl dX5_piecesByTable_16 ?_
    refine g_iload_n X 2 (i0 := 2) dX5_piecesByTable_19 rfl rfl ?_
    obtain ⟨b6, h⟩ := chk_s h
    refine g_iald X (D := D4) (f := (D4.2.2.1 63)) (i := a1) 77 (wg_77 E _) (inB_vp b6) dX5_piecesByTable_20 ?_
    refine g_goto X (tgt := 25) dX5_piecesByTable_21 (by decide) ?_
    exact g_iret X hr rfl dX5_piecesByTable_25 (Option.some.inj h)
theorem hd_X5_tryPieces : yX5_tryPieces.cls ≠ "java/lang/invoke/MethodHandle" ∧ yX5_tryPieces.cls ≠ "java/lang/invoke/VarHandle" ∧ (parseMethodDescriptor yX5_tryPieces.desc).map (fun d => d.parameters.length) = some 4 := by decide +kernel
theorem wc_X5_tryPieces : Cond.code yX5_tryPieces cX5_tryPieces 6 (some .int) ∈ UT := ut 606 (by decide +kernel) (by decide +kernel)
theorem wt_X5_tryPieces : Cond.static yX5_tryPieces ∈ UT := ut 605 (by decide +kernel) (by decide +kernel)
theorem ks_X5_32 : GoodIn UT (va_wsS RX5 32 yX5_tryPieces (Cond.code yX5_tryPieces cX5_tryPieces 6 (some .int) :: UT)) := gu_S (ut 604 (by decide +kernel) (by decide +kernel)) wt_X5_tryPieces wi_RX5 wc_X5_tryPieces
theorem wl_X5_36 : Cond.methodLink RX5 36 Lib.Math.max.name ∈ UT := ut 612 (by decide +kernel) (by decide +kernel)
def b_X5_tryPieces_0 (rc : Int32 → Int32 → Int32 →  DD → Option RT) (a1 : Int32) (a2 : Int32) (a3 : Int32) (D : DD) : Option ((Nat × List Int32 × DD) ⊕ RT) := (if a3 ≤ (30 : Int32) then some (.inl (1, [a1, a2, a3, (0 : Int32), (1 : Int32)], D)) else some (.inr (0, some (.int (0 : Int32)), D)))
def b_X5_tryPieces_1 (rc : Int32 → Int32 → Int32 →  DD → Option RT) (x1 : Int32) (x2 : Int32) (x3 : Int32) (x4 : Int32) (x5 : Int32) (D : DD) : Option ((Nat × List Int32 × DD) ⊕ RT) := (if x2 < x5 then some (.inr (0, some (.int x4), D)) else (if x1 < x5 then some (.inr (0, some (.int x4), D)) else (cI (S_X8_priceAt x5 D) (fun r4 D3 => (cI (rc (x1 - x5) x5 (x3 + (1 : Int32)) D3) (fun r7 D6 => some (.inl (1, [x1, x2, x3, (if x4 < (r4 + r7) then (r4 + r7) else x4), (x5 + (1 : Int32))], D6))))))))
def T_X5_tryPieces (rc : Int32 → Int32 → Int32 →  DD → Option RT) (k : Nat) (ls : List Int32) (D : DD) : Option ((Nat × List Int32 × DD) ⊕ RT) := match k, ls with
  | 0, [a1, a2, a3] => b_X5_tryPieces_0 rc a1 a2 a3 D
  | 1, [x1, x2, x3, x4, x5] => b_X5_tryPieces_1 rc x1 x2 x3 x4 x5 D
  | _, _ => none
def S_X5_tryPieces : Nat → Int32 → Int32 → Int32 → DD → Option RT
  | 0 => fun _ _ _ _ => none
  | d + 1 => fun a1 a2 a3 D => run (T_X5_tryPieces (S_X5_tryPieces d)) FUEL 0 [a1, a2, a3] D
def hg_X5_tryPieces (d : Nat) (p : Program) (l : Launch) (e : Env) (s : State) (m : MethodId) (args : Array Value) (below : List Frame) (meth : Method) (c : Code) (G : va_G) (E : EE) (r : RT) (k : Nat) (ls : List Int32) (D : DD) : Prop := match k, ls with
  | 0, [a1, a2, a3] => GW p l e (rmm (2 + d)) s m args below meth c G E 6 (MQ below (QR G E s.heap.size r) args s 0 0 (fr E s.heap.size)) 0 0 D 0 [(0, .ref (E.1 1)), (1, .int a1), (2, .int a2), (3, .int a3)] []
  | 1, [x1, x2, x3, x4, x5] => GW p l e (rmm (2 + d)) s m args below meth c G E 6 (MQ below (QR G E s.heap.size r) args s 0 0 (fr E s.heap.size)) 0 0 D 14 [(0, .ref (E.1 1)), (1, .int x1), (2, .int x2), (3, .int x3), (4, .int x4), (5, .int x5)] []
  | _, _ => True
set_option maxRecDepth 100000 in
set_option maxHeartbeats 4000000 in
theorem bl_X5_tryPieces_0 {p : Program} {l : Launch} {e : Env} {s : State} {m : MethodId} {args : Array Value} {below : List Frame} {meth : Method} {c : Code} {G : va_G} {E : EE} {r : RT} (d : Nat) {rc : Int32 → Int32 → Int32 → DD → Option RT} (ih : ∀ (a1 : Int32) (a2 : Int32) (a3 : Int32) (D : DD) (r : RT), rc a1 a2 a3 D = some r → MM l G E yX5_tryPieces cX5_tryPieces 6 (some .int) (rmm (2 + d)) [.ref (E.1 1), .int a1, .int a2, .int a3] D r) (X : CX p s m args meth c cX5_tryPieces RX5 6 G E) (hr : meth.sig.returnType = (some .int)) (a1 : Int32) (a2 : Int32) (a3 : Int32) (D : DD) (o : (Nat × List Int32 × DD) ⊕ RT) (h : b_X5_tryPieces_0 rc a1 a2 a3 D = some o) (h1 : ∀ x, o = .inl x → hg_X5_tryPieces (d + 1) p l e s m args below meth c G E r x.1 x.2.1 x.2.2) (h2 : ∀ x, o = .inr x → x = r) : GW p l e (rmm (2 + (d + 1))) s m args below meth c G E 6 (MQ below (QR G E s.heap.size r) args s 0 0 (fr E s.heap.size)) 0 0 D 0 [(0, .ref (E.1 1)), (1, .int a1), (2, .int a2), (3, .int a3)] [] := by
  unfold b_X5_tryPieces_0 at h
  refine g_iload_n X 3 (i0 := 3) dX5_tryPieces_0 rfl rfl ?_
  refine g_bipush X (v := (30 : Int32)) dX5_tryPieces_1 (by decide) ?_
  refine g_icmp_le X (tgt := 8) dX5_tryPieces_3 (by decide) (fun c1 => ?_) (fun c1 => ?_)
  · have h := (ite_s h).1 c1
    refine g_iconst X (v := (0 : Int32)) dX5_tryPieces_8 (by decide) ?_
    refine g_istore X (lv' := [(4, .int (0 : Int32)), (0, .ref (E.1 1)), (1, .int a1), (2, .int a2), (3, .int a3)]) dX5_tryPieces_9 (by decide) rfl ?_
    refine g_iconst X (v := (1 : Int32)) dX5_tryPieces_11 (by decide) ?_
    refine g_istore X (lv' := [(5, .int (1 : Int32)), (4, .int (0 : Int32)), (0, .ref (E.1 1)), (1, .int a1), (2, .int a2), (3, .int a3)]) dX5_tryPieces_12 (by decide) rfl ?_
    refine g_sub (lv' := [(0, .ref (E.1 1)), (1, .int a1), (2, .int a2), (3, .int a3), (4, .int (0 : Int32)), (5, .int (1 : Int32))]) [2, 3, 4, 5, 1, 0] rfl ?_
    exact h1 _ (Option.some.inj h).symm
  · have h := (ite_s h).2 c1
    refine g_iconst X (v := (0 : Int32)) dX5_tryPieces_6 (by decide) ?_
    exact g_iret X hr rfl dX5_tryPieces_7 (h2 _ (Option.some.inj h).symm)
set_option maxRecDepth 100000 in
set_option maxHeartbeats 4000000 in
theorem bl_X5_tryPieces_1 {p : Program} {l : Launch} {e : Env} {s : State} {m : MethodId} {args : Array Value} {below : List Frame} {meth : Method} {c : Code} {G : va_G} {E : EE} {r : RT} (d : Nat) {rc : Int32 → Int32 → Int32 → DD → Option RT} (ih : ∀ (a1 : Int32) (a2 : Int32) (a3 : Int32) (D : DD) (r : RT), rc a1 a2 a3 D = some r → MM l G E yX5_tryPieces cX5_tryPieces 6 (some .int) (rmm (2 + d)) [.ref (E.1 1), .int a1, .int a2, .int a3] D r) (X : CX p s m args meth c cX5_tryPieces RX5 6 G E) (hr : meth.sig.returnType = (some .int)) (x1 : Int32) (x2 : Int32) (x3 : Int32) (x4 : Int32) (x5 : Int32) (D : DD) (o : (Nat × List Int32 × DD) ⊕ RT) (h : b_X5_tryPieces_1 rc x1 x2 x3 x4 x5 D = some o) (h1 : ∀ x, o = .inl x → hg_X5_tryPieces (d + 1) p l e s m args below meth c G E r x.1 x.2.1 x.2.2) (h2 : ∀ x, o = .inr x → x = r) : GW p l e (rmm (2 + (d + 1))) s m args below meth c G E 6 (MQ below (QR G E s.heap.size r) args s 0 0 (fr E s.heap.size)) 0 0 D 14 [(0, .ref (E.1 1)), (1, .int x1), (2, .int x2), (3, .int x3), (4, .int x4), (5, .int x5)] [] := by
  unfold b_X5_tryPieces_1 at h
  refine g_iload X 5 dX5_tryPieces_14 rfl ?_
  refine g_iload_n X 2 (i0 := 2) dX5_tryPieces_16 rfl rfl ?_
  refine g_icmp_gt X (tgt := 59) dX5_tryPieces_17 (by decide) (fun c9 => ?_) (fun c9 => ?_)
  · have h := (ite_s h).1 c9
    refine g_iload X 4 dX5_tryPieces_59 rfl ?_
    exact g_iret X hr rfl dX5_tryPieces_61 (h2 _ (Option.some.inj h).symm)
  · have h := (ite_s h).2 c9
    refine g_iload X 5 dX5_tryPieces_20 rfl ?_
    refine g_iload_n X 1 (i0 := 1) dX5_tryPieces_22 rfl rfl ?_
    refine g_icmp_gt X (tgt := 59) dX5_tryPieces_23 (by decide) (fun c8 => ?_) (fun c8 => ?_)
    · have h := (ite_s h).1 c8
      refine g_iload X 4 dX5_tryPieces_59 rfl ?_
      exact g_iret X hr rfl dX5_tryPieces_61 (h2 _ (Option.some.inj h).symm)
    · have h := (ite_s h).2 c8
      refine g_iload X 4 dX5_tryPieces_26 rfl ?_
      refine g_aload_n X 0 (i0 := 0) dX5_tryPieces_28 rfl rfl ?_
      refine g_iload X 5 dX5_tryPieces_29 rfl ?_
      obtain ⟨r4, D3, e2, h⟩ := cI_s h
      refine g_V X (As := [.int x5]) (rest := [.int x4]) (c_X8_priceAt l G E x5 _ _ e2) 1 (wg_1 E _) rfl rfl kv_X5_26 ⟨rfl, rfl⟩ ⟨rfl, hd_X8_priceAt⟩ (rmm_lt (by omega)) rfl rfl (Nat.le_of_ble_eq_true rfl) dX5_tryPieces_31 ?_
      refine g_aload_n X 0 (i0 := 0) dX5_tryPieces_34 rfl rfl ?_
      refine g_iload_n X 1 (i0 := 1) dX5_tryPieces_35 rfl rfl ?_
      refine g_iload X 5 dX5_tryPieces_36 rfl ?_
      refine g_isub X dX5_tryPieces_38 ?_
      refine g_iload X 5 dX5_tryPieces_39 rfl ?_
      refine g_iload_n X 3 (i0 := 3) dX5_tryPieces_41 rfl rfl ?_
      refine g_iconst X (v := (1 : Int32)) dX5_tryPieces_42 (by decide) ?_
      refine g_iadd X dX5_tryPieces_43 ?_
      obtain ⟨r7, D6, e5, h⟩ := cI_s h
      refine g_S X (As := [.ref (E.1 1), .int (x1 - x5), .int x5, .int (x3 + (1 : Int32))]) (rest := [.int r4, .int x4]) (ih (x1 - x5) x5 (x3 + (1 : Int32)) _ _ e5) ks_X5_32 ⟨rfl, rfl⟩ hd_X5_tryPieces (rmm_lt (by omega)) rfl rfl (Nat.le_of_ble_eq_true rfl) dX5_tryPieces_44 ?_
      refine g_iadd X dX5_tryPieces_47 ?_
      refine g_max X wl_X5_36 wm_max wi_math wc_max (Nat.le_of_ble_eq_true rfl) (Nat.le_of_ble_eq_true rfl) dX5_tryPieces_48 ?_
      refine g_istore X (lv' := [(4, .int (if x4 < (r4 + r7) then (r4 + r7) else x4)), (0, .ref (E.1 1)), (1, .int x1), (2, .int x2), (3, .int x3), (5, .int x5)]) dX5_tryPieces_51 (by decide) rfl ?_
      refine g_iinc X 5 (v := (x5 + (1 : Int32))) (lv' := [(5, .int (x5 + (1 : Int32))), (4, .int (if x4 < (r4 + r7) then (r4 + r7) else x4)), (0, .ref (E.1 1)), (1, .int x1), (2, .int x2), (3, .int x3)]) dX5_tryPieces_53 rfl rfl (by decide) rfl ?_
      refine g_goto X (tgt := 14) dX5_tryPieces_56 (by decide) ?_
      refine g_sub (lv' := [(0, .ref (E.1 1)), (1, .int x1), (2, .int x2), (3, .int x3), (4, .int (if x4 < (r4 + r7) then (r4 + r7) else x4)), (5, .int (x5 + (1 : Int32)))]) [2, 3, 4, 5, 1, 0] rfl ?_
      exact h1 _ (Option.some.inj h).symm
set_option maxRecDepth 100000 in
set_option maxHeartbeats 4000000 in
theorem c_X5_tryPieces (l : Launch) (G : va_G) (E : EE) : ∀ (d : Nat) (a1 : Int32) (a2 : Int32) (a3 : Int32) (D : DD) (r : RT) (h : S_X5_tryPieces d a1 a2 a3 D = some r), MM l G E yX5_tryPieces cX5_tryPieces 6 (some .int) (rmm (2 + d)) [.ref (E.1 1), .int a1, .int a2, .int a3] D r := by
  intro d
  induction d with
  | zero => intro a1 a2 a3 D r h; cases h
  | succ d ih =>
    intro a1 a2 a3 D r h
    simp only [S_X5_tryPieces] at h
    refine m_of rfl (Nat.le_of_ble_eq_true rfl) ?_
    intro p e s m args below meth c X hr
    exact run_G (T := T_X5_tryPieces (S_X5_tryPieces d)) (HG := hg_X5_tryPieces (d + 1) p l e s m args below meth c G E r) (by
      intro k ls D o hT h1 h2
      unfold T_X5_tryPieces at hT
      split at hT
      · exact bl_X5_tryPieces_0 d ih X hr _ _ _ D o hT h1 h2
      · exact bl_X5_tryPieces_1 d ih X hr _ _ _ _ _ D o hT h1 h2
      · cases hT) FUEL 0 [a1, a2, a3] D h
def S_X5_coinsByTrial (a1 : Int32) (D : DD) : Option RT := (cI (S_X5_tryPieces 40 a1 (10 : Int32) (0 : Int32) D) (fun r3 D2 => some (0, some (.int r3), D2)))
set_option maxRecDepth 100000 in
set_option maxHeartbeats 4000000 in
theorem c_X5_coinsByTrial (l : Launch) (G : va_G) (E : EE) (a1 : Int32) (D : DD) (r : RT) (h : S_X5_coinsByTrial a1 D = some r) : MM l G E yX5_coinsByTrial cX5_coinsByTrial 2 (some .int) (rmm 43) [.ref (E.1 1), .int a1] D r := by
  refine m_of rfl (Nat.le_of_ble_eq_true rfl) ?_
  intro p e s m args below meth c X hr
  unfold S_X5_coinsByTrial at h
  refine g_aload_n X 0 (i0 := 0) dX5_coinsByTrial_0 rfl rfl ?_
  refine g_iload_n X 1 (i0 := 1) dX5_coinsByTrial_1 rfl rfl ?_
  refine g_bipush X (v := (10 : Int32)) dX5_coinsByTrial_2 (by decide) ?_
  refine g_iconst X (v := (0 : Int32)) dX5_coinsByTrial_4 (by decide) ?_
  obtain ⟨r3, D2, e1, h⟩ := cI_s h
  refine g_S X (As := [.ref (E.1 1), .int a1, .int (10 : Int32), .int (0 : Int32)]) (rest := []) (c_X5_tryPieces l G E 40 a1 (10 : Int32) (0 : Int32) _ _ e1) ks_X5_32 ⟨rfl, rfl⟩ hd_X5_tryPieces (⟨Nat.le_of_ble_eq_true rfl, Nat.le_of_ble_eq_true rfl⟩) rfl rfl (Nat.le_of_ble_eq_true rfl) dX5_coinsByTrial_5 ?_
  exact g_iret X hr rfl dX5_coinsByTrial_8 (Option.some.inj h)
theorem fl_X6_11 : Cond.fieldLink RX6 11 "StoneQuarry$History" "ring" "[LStoneQuarry$QuarryState;" ∈ UT := ut 166 (by decide +kernel) (by decide +kernel)
theorem kn_X6_39 : Cond.methodLinkNest RX6 39 yX12_inRange "StoneQuarry" ∈ NEST := nst 742 (by decide +kernel) rfl
theorem uX6 : ∀ w ∈ wsX60, w ∈ UT := ut_all (by decide +kernel) (by decide +kernel)
theorem wg_16 (E : EE) (D : DD) : (wd E D)[16]? = some (E.1 16, .inr (6, [.ref (E.1 17), .int (D.1 123), .int (D.1 124)])) := rfl
theorem wg_17 (E : EE) (D : DD) : (wd E D)[17]? = some (E.1 17, .inl (E.2 3, 8, .inr (.inr (.inr (.inr (fun j => if j < 8 then some (E.1 (18 + 5 * j)) else none)))))) := rfl
def S_X6_placeAt (a0 : Int32) (D : DD) : Option RT := (cI (S_X12_inRange a0 (0 : Int32) (7 : Int32) D) (fun r3 D2 => (if r3 = 0 then some (0, some .null, D2) else (if inB a0 8 = true then some (0, some (.ref (18 + 5 * a0.toNatClampNeg)), D2) else none))))
set_option maxRecDepth 100000 in
set_option maxHeartbeats 4000000 in
theorem c_X6_placeAt (l : Launch) (G : va_G) (E : EE) (a0 : Int32) (D : DD) (r : RT) (h : S_X6_placeAt a0 D = some r) : MM l G E yX6_placeAt cX6_placeAt 2 (some (.object "StoneQuarry$QuarryState")) (rmm 1) [.ref (E.1 16), .int a0] D r := by
  refine m_of rfl (Nat.le_of_ble_eq_true rfl) ?_
  intro p e s m args below meth c X hr
  unfold S_X6_placeAt at h
  refine g_iload_n X 1 (i0 := 1) dX6_placeAt_0 rfl rfl ?_
  refine g_iconst X (v := (0 : Int32)) dX6_placeAt_1 (by decide) ?_
  refine g_bipush X (v := (7 : Int32)) dX6_placeAt_2 (by decide) ?_
  obtain ⟨r3, D2, e1, h⟩ := cI_s h
  refine g_SN X (As := [.int a0, .int (0 : Int32), .int (7 : Int32)]) (rest := []) (c_X12_inRange l G E a0 (0 : Int32) (7 : Int32) _ _ e1) wc_X12_inRange kn_X6_39 wi_RX12 wt_X12_inRange ⟨rfl, rfl⟩ hd_X12_inRange (⟨Nat.le_of_ble_eq_true rfl, Nat.le_of_ble_eq_true rfl⟩) rfl rfl (Nat.le_of_ble_eq_true rfl) dX6_placeAt_4 ?_
  refine g_if_eq X (tgt := 19) dX6_placeAt_7 (by decide) (fun c5 => ?_) (fun c5 => ?_)
  · have h := (ite_s h).1 c5
    refine g_null X dX6_placeAt_19 ?_
    exact g_aretN X hr dX6_placeAt_20 (Option.some.inj h)
  · have h := (ite_s h).2 c5
    refine g_aload_n X 0 (i0 := 0) dX6_placeAt_10 rfl rfl ?_
    refine g_get X (D := D2) (v := .ref (E.1 17)) (T := TX6) 16 uX6 (wg_16 E _) rfl 0 (by decide) fl_X6_11 rfl rfl dX6_placeAt_11 ?_
    refine g_iload_n X 1 (i0 := 1) dX6_placeAt_14 rfl rfl ?_
    obtain ⟨b4, h⟩ := chk_s h
    refine g_aaldR X (D := D2) (i := a0) 17 (wg_17 E _) (inB_vp b4) dX6_placeAt_15 ?_
    refine g_goto X (tgt := 20) dX6_placeAt_16 (by decide) ?_
    exact g_aret X (q := (18 + 5 * a0.toNatClampNeg)) hr dX6_placeAt_20 (Option.some.inj h)
theorem fl_X8_40 : Cond.fieldLink RX8 40 "StoneQuarry$QuarryState" "stock" "I" ∈ UT := ut 129 (by decide +kernel) (by decide +kernel)
theorem fl_X8_43 : Cond.fieldLink RX8 43 "StoneQuarry$QuarryState" "quarriedStone" "I" ∈ UT := ut 131 (by decide +kernel) (by decide +kernel)
theorem fl_X8_46 : Cond.fieldLink RX8 46 "StoneQuarry$QuarryState" "soldStone" "I" ∈ UT := ut 133 (by decide +kernel) (by decide +kernel)
theorem fl_X8_49 : Cond.fieldLink RX8 49 "StoneQuarry$QuarryState" "purse" "J" ∈ UT := ut 135 (by decide +kernel) (by decide +kernel)
theorem wg_18 (E : EE) (D : DD) : (wd E D)[18]? = some (E.1 18, .inr (8, [.ref (E.1 19), .ref (E.1 20), .ref (E.1 21), .ref (E.1 22), .int (D.1 30), .int (D.1 31), .int (D.1 32), .int (D.1 33), .long (D.2.1 3)])) := rfl
theorem wg_19 (E : EE) (D : DD) : (wd E D)[19]? = some (E.1 19, .inl (E.2 0, 36, .inl (D.2.2.1 12))) := rfl
theorem wg_20 (E : EE) (D : DD) : (wd E D)[20]? = some (E.1 20, .inl (E.2 0, 6, .inl (D.2.2.1 13))) := rfl
theorem wg_21 (E : EE) (D : DD) : (wd E D)[21]? = some (E.1 21, .inl (E.2 0, 6, .inl (D.2.2.1 14))) := rfl
theorem wg_22 (E : EE) (D : DD) : (wd E D)[22]? = some (E.1 22, .inl (E.2 0, 11, .inl (D.2.2.1 15))) := rfl
theorem wi_sys : Cond.initialized "java/lang/System" ∈ UT := ut 93 (by decide +kernel) (by decide +kernel)
theorem wl_X8_30 : Cond.methodLink RX8 30 arraycopyName ∈ UT := ut 630 (by decide +kernel) (by decide +kernel)
theorem wn_copy : Cond.native arraycopyName ∈ UT := ut 463 (by decide +kernel) (by decide +kernel)
theorem ws_A_12 (E : EE) (D : DD) (f : Nat → Int32) : (wd E D).set 19 (E.1 19, .inl (E.2 0, 36, .inl f)) = wd E (setA D 12 f) := rfl
theorem ws_A_13 (E : EE) (D : DD) (f : Nat → Int32) : (wd E D).set 20 (E.1 20, .inl (E.2 0, 6, .inl f)) = wd E (setA D 13 f) := rfl
theorem ws_A_14 (E : EE) (D : DD) (f : Nat → Int32) : (wd E D).set 21 (E.1 21, .inl (E.2 0, 6, .inl f)) = wd E (setA D 14 f) := rfl
theorem ws_A_15 (E : EE) (D : DD) (f : Nat → Int32) : (wd E D).set 22 (E.1 22, .inl (E.2 0, 11, .inl f)) = wd E (setA D 15 f) := rfl
theorem ws_I_30 (E : EE) (D : DD) (v : Int32) : (wd E D).set 18 (E.1 18, .inr (8, [.ref (E.1 19), .ref (E.1 20), .ref (E.1 21), .ref (E.1 22), .int v, .int (D.1 31), .int (D.1 32), .int (D.1 33), .long (D.2.1 3)])) = wd E (setI D 30 v) := rfl
theorem ws_I_31 (E : EE) (D : DD) (v : Int32) : (wd E D).set 18 (E.1 18, .inr (8, [.ref (E.1 19), .ref (E.1 20), .ref (E.1 21), .ref (E.1 22), .int (D.1 30), .int v, .int (D.1 32), .int (D.1 33), .long (D.2.1 3)])) = wd E (setI D 31 v) := rfl
theorem ws_I_32 (E : EE) (D : DD) (v : Int32) : (wd E D).set 18 (E.1 18, .inr (8, [.ref (E.1 19), .ref (E.1 20), .ref (E.1 21), .ref (E.1 22), .int (D.1 30), .int (D.1 31), .int v, .int (D.1 33), .long (D.2.1 3)])) = wd E (setI D 32 v) := rfl
theorem ws_I_33 (E : EE) (D : DD) (v : Int32) : (wd E D).set 18 (E.1 18, .inr (8, [.ref (E.1 19), .ref (E.1 20), .ref (E.1 21), .ref (E.1 22), .int (D.1 30), .int (D.1 31), .int (D.1 32), .int v, .long (D.2.1 3)])) = wd E (setI D 33 v) := rfl
theorem ws_J_3 (E : EE) (D : DD) (v : Int64) : (wd E D).set 18 (E.1 18, .inr (8, [.ref (E.1 19), .ref (E.1 20), .ref (E.1 21), .ref (E.1 22), .int (D.1 30), .int (D.1 31), .int (D.1 32), .int (D.1 33), .long v])) = wd E (setJ D 3 v) := rfl
theorem ws_copy : Cond.static arraycopyName ∈ UT := ut 462 (by decide +kernel) (by decide +kernel)
def S_X8_copyFrom_ring0_state  (D : DD) : Option RT := some (0, none, (setJ (setI (setI (setI (setI (setA (setA (setA (setA D 12 (va_cpy (D.2.2.1 0) (D.2.2.1 12) (0 : Int32).toNatClampNeg (0 : Int32).toNatClampNeg (36 : Int32).toNatClampNeg)) 13 (va_cpy (D.2.2.1 1) (D.2.2.1 13) (0 : Int32).toNatClampNeg (0 : Int32).toNatClampNeg (6 : Int32).toNatClampNeg)) 14 (va_cpy (D.2.2.1 2) (D.2.2.1 14) (0 : Int32).toNatClampNeg (0 : Int32).toNatClampNeg (6 : Int32).toNatClampNeg)) 15 (va_cpy (D.2.2.1 3) (D.2.2.1 15) (0 : Int32).toNatClampNeg (0 : Int32).toNatClampNeg (11 : Int32).toNatClampNeg)) 30 (D.1 0)) 31 (D.1 1)) 32 (D.1 2)) 33 (D.1 3)) 3 (D.2.1 0)))
set_option maxRecDepth 100000 in
set_option maxHeartbeats 4000000 in
theorem c_X8_copyFrom_ring0_state (l : Launch) (G : va_G) (E : EE)  (D : DD) (r : RT) (h : S_X8_copyFrom_ring0_state  D = some r) : MM l G E yX8_copyFrom cX8_copyFrom 2 none (rmm 1) [.ref (E.1 18), .ref (E.1 1)] D r := by
  refine m_of rfl (Nat.le_of_ble_eq_true rfl) ?_
  intro p e s m args below meth c X hr
  unfold S_X8_copyFrom_ring0_state at h
  refine g_aload_n X 1 (i0 := 1) dX8_copyFrom_0 rfl rfl ?_
  refine g_get X (D := D) (v := .ref (E.1 2)) (T := TX8) 1 uX8 (wg_1 E _) rfl 0 (by decide) fl_X8_9 rfl rfl dX8_copyFrom_1 ?_
  refine g_iconst X (v := (0 : Int32)) dX8_copyFrom_4 (by decide) ?_
  refine g_aload_n X 0 (i0 := 0) dX8_copyFrom_5 rfl rfl ?_
  refine g_get X (D := D) (v := .ref (E.1 19)) (T := TX8) 18 uX8 (wg_18 E _) rfl 0 (by decide) fl_X8_9 rfl rfl dX8_copyFrom_6 ?_
  refine g_iconst X (v := (0 : Int32)) dX8_copyFrom_9 (by decide) ?_
  refine g_bipush X (v := (36 : Int32)) dX8_copyFrom_10 (by decide) ?_
  refine g_copyi X (D := D) (f := (D.2.2.1 0)) (g := (D.2.2.1 12)) (sp := (0 : Int32)) (dp := (0 : Int32)) (n := (36 : Int32)) (D' := (setA D 12 (va_cpy (D.2.2.1 0) (D.2.2.1 12) (0 : Int32).toNatClampNeg (0 : Int32).toNatClampNeg (36 : Int32).toNatClampNeg))) wl_X8_30 wn_copy ws_copy wi_sys 2 19 (wg_2 E _) (wg_19 E _) (by decide) (by decide) (by decide) (by decide) (by decide) (ws_A_12 E _ _) (Nat.le_of_ble_eq_true rfl) (Nat.le_of_ble_eq_true rfl) dX8_copyFrom_12 ?_
  refine g_aload_n X 1 (i0 := 1) dX8_copyFrom_15 rfl rfl ?_
  refine g_get X (D := (setA D 12 (va_cpy (D.2.2.1 0) (D.2.2.1 12) (0 : Int32).toNatClampNeg (0 : Int32).toNatClampNeg (36 : Int32).toNatClampNeg))) (v := .ref (E.1 3)) (T := TX8) 1 uX8 (wg_1 E _) rfl 1 (by decide) fl_X8_15 rfl rfl dX8_copyFrom_16 ?_
  refine g_iconst X (v := (0 : Int32)) dX8_copyFrom_19 (by decide) ?_
  refine g_aload_n X 0 (i0 := 0) dX8_copyFrom_20 rfl rfl ?_
  refine g_get X (D := (setA D 12 (va_cpy (D.2.2.1 0) (D.2.2.1 12) (0 : Int32).toNatClampNeg (0 : Int32).toNatClampNeg (36 : Int32).toNatClampNeg))) (v := .ref (E.1 20)) (T := TX8) 18 uX8 (wg_18 E _) rfl 1 (by decide) fl_X8_15 rfl rfl dX8_copyFrom_21 ?_
  refine g_iconst X (v := (0 : Int32)) dX8_copyFrom_24 (by decide) ?_
  refine g_bipush X (v := (6 : Int32)) dX8_copyFrom_25 (by decide) ?_
  refine g_copyi X (D := (setA D 12 (va_cpy (D.2.2.1 0) (D.2.2.1 12) (0 : Int32).toNatClampNeg (0 : Int32).toNatClampNeg (36 : Int32).toNatClampNeg))) (f := (D.2.2.1 1)) (g := (D.2.2.1 13)) (sp := (0 : Int32)) (dp := (0 : Int32)) (n := (6 : Int32)) (D' := (setA (setA D 12 (va_cpy (D.2.2.1 0) (D.2.2.1 12) (0 : Int32).toNatClampNeg (0 : Int32).toNatClampNeg (36 : Int32).toNatClampNeg)) 13 (va_cpy (D.2.2.1 1) (D.2.2.1 13) (0 : Int32).toNatClampNeg (0 : Int32).toNatClampNeg (6 : Int32).toNatClampNeg))) wl_X8_30 wn_copy ws_copy wi_sys 3 20 (wg_3 E _) (wg_20 E _) (by decide) (by decide) (by decide) (by decide) (by decide) (ws_A_13 E _ _) (Nat.le_of_ble_eq_true rfl) (Nat.le_of_ble_eq_true rfl) dX8_copyFrom_27 ?_
  refine g_aload_n X 1 (i0 := 1) dX8_copyFrom_30 rfl rfl ?_
  refine g_get X (D := (setA (setA D 12 (va_cpy (D.2.2.1 0) (D.2.2.1 12) (0 : Int32).toNatClampNeg (0 : Int32).toNatClampNeg (36 : Int32).toNatClampNeg)) 13 (va_cpy (D.2.2.1 1) (D.2.2.1 13) (0 : Int32).toNatClampNeg (0 : Int32).toNatClampNeg (6 : Int32).toNatClampNeg))) (v := .ref (E.1 4)) (T := TX8) 1 uX8 (wg_1 E _) rfl 2 (by decide) fl_X8_18 rfl rfl dX8_copyFrom_31 ?_
  refine g_iconst X (v := (0 : Int32)) dX8_copyFrom_34 (by decide) ?_
  refine g_aload_n X 0 (i0 := 0) dX8_copyFrom_35 rfl rfl ?_
  refine g_get X (D := (setA (setA D 12 (va_cpy (D.2.2.1 0) (D.2.2.1 12) (0 : Int32).toNatClampNeg (0 : Int32).toNatClampNeg (36 : Int32).toNatClampNeg)) 13 (va_cpy (D.2.2.1 1) (D.2.2.1 13) (0 : Int32).toNatClampNeg (0 : Int32).toNatClampNeg (6 : Int32).toNatClampNeg))) (v := .ref (E.1 21)) (T := TX8) 18 uX8 (wg_18 E _) rfl 2 (by decide) fl_X8_18 rfl rfl dX8_copyFrom_36 ?_
  refine g_iconst X (v := (0 : Int32)) dX8_copyFrom_39 (by decide) ?_
  refine g_bipush X (v := (6 : Int32)) dX8_copyFrom_40 (by decide) ?_
  refine g_copyi X (D := (setA (setA D 12 (va_cpy (D.2.2.1 0) (D.2.2.1 12) (0 : Int32).toNatClampNeg (0 : Int32).toNatClampNeg (36 : Int32).toNatClampNeg)) 13 (va_cpy (D.2.2.1 1) (D.2.2.1 13) (0 : Int32).toNatClampNeg (0 : Int32).toNatClampNeg (6 : Int32).toNatClampNeg))) (f := (D.2.2.1 2)) (g := (D.2.2.1 14)) (sp := (0 : Int32)) (dp := (0 : Int32)) (n := (6 : Int32)) (D' := (setA (setA (setA D 12 (va_cpy (D.2.2.1 0) (D.2.2.1 12) (0 : Int32).toNatClampNeg (0 : Int32).toNatClampNeg (36 : Int32).toNatClampNeg)) 13 (va_cpy (D.2.2.1 1) (D.2.2.1 13) (0 : Int32).toNatClampNeg (0 : Int32).toNatClampNeg (6 : Int32).toNatClampNeg)) 14 (va_cpy (D.2.2.1 2) (D.2.2.1 14) (0 : Int32).toNatClampNeg (0 : Int32).toNatClampNeg (6 : Int32).toNatClampNeg))) wl_X8_30 wn_copy ws_copy wi_sys 4 21 (wg_4 E _) (wg_21 E _) (by decide) (by decide) (by decide) (by decide) (by decide) (ws_A_14 E _ _) (Nat.le_of_ble_eq_true rfl) (Nat.le_of_ble_eq_true rfl) dX8_copyFrom_42 ?_
  refine g_aload_n X 1 (i0 := 1) dX8_copyFrom_45 rfl rfl ?_
  refine g_get X (D := (setA (setA (setA D 12 (va_cpy (D.2.2.1 0) (D.2.2.1 12) (0 : Int32).toNatClampNeg (0 : Int32).toNatClampNeg (36 : Int32).toNatClampNeg)) 13 (va_cpy (D.2.2.1 1) (D.2.2.1 13) (0 : Int32).toNatClampNeg (0 : Int32).toNatClampNeg (6 : Int32).toNatClampNeg)) 14 (va_cpy (D.2.2.1 2) (D.2.2.1 14) (0 : Int32).toNatClampNeg (0 : Int32).toNatClampNeg (6 : Int32).toNatClampNeg))) (v := .ref (E.1 5)) (T := TX8) 1 uX8 (wg_1 E _) rfl 3 (by decide) fl_X8_21 rfl rfl dX8_copyFrom_46 ?_
  refine g_iconst X (v := (0 : Int32)) dX8_copyFrom_49 (by decide) ?_
  refine g_aload_n X 0 (i0 := 0) dX8_copyFrom_50 rfl rfl ?_
  refine g_get X (D := (setA (setA (setA D 12 (va_cpy (D.2.2.1 0) (D.2.2.1 12) (0 : Int32).toNatClampNeg (0 : Int32).toNatClampNeg (36 : Int32).toNatClampNeg)) 13 (va_cpy (D.2.2.1 1) (D.2.2.1 13) (0 : Int32).toNatClampNeg (0 : Int32).toNatClampNeg (6 : Int32).toNatClampNeg)) 14 (va_cpy (D.2.2.1 2) (D.2.2.1 14) (0 : Int32).toNatClampNeg (0 : Int32).toNatClampNeg (6 : Int32).toNatClampNeg))) (v := .ref (E.1 22)) (T := TX8) 18 uX8 (wg_18 E _) rfl 3 (by decide) fl_X8_21 rfl rfl dX8_copyFrom_51 ?_
  refine g_iconst X (v := (0 : Int32)) dX8_copyFrom_54 (by decide) ?_
  refine g_bipush X (v := (11 : Int32)) dX8_copyFrom_55 (by decide) ?_
  refine g_copyi X (D := (setA (setA (setA D 12 (va_cpy (D.2.2.1 0) (D.2.2.1 12) (0 : Int32).toNatClampNeg (0 : Int32).toNatClampNeg (36 : Int32).toNatClampNeg)) 13 (va_cpy (D.2.2.1 1) (D.2.2.1 13) (0 : Int32).toNatClampNeg (0 : Int32).toNatClampNeg (6 : Int32).toNatClampNeg)) 14 (va_cpy (D.2.2.1 2) (D.2.2.1 14) (0 : Int32).toNatClampNeg (0 : Int32).toNatClampNeg (6 : Int32).toNatClampNeg))) (f := (D.2.2.1 3)) (g := (D.2.2.1 15)) (sp := (0 : Int32)) (dp := (0 : Int32)) (n := (11 : Int32)) (D' := (setA (setA (setA (setA D 12 (va_cpy (D.2.2.1 0) (D.2.2.1 12) (0 : Int32).toNatClampNeg (0 : Int32).toNatClampNeg (36 : Int32).toNatClampNeg)) 13 (va_cpy (D.2.2.1 1) (D.2.2.1 13) (0 : Int32).toNatClampNeg (0 : Int32).toNatClampNeg (6 : Int32).toNatClampNeg)) 14 (va_cpy (D.2.2.1 2) (D.2.2.1 14) (0 : Int32).toNatClampNeg (0 : Int32).toNatClampNeg (6 : Int32).toNatClampNeg)) 15 (va_cpy (D.2.2.1 3) (D.2.2.1 15) (0 : Int32).toNatClampNeg (0 : Int32).toNatClampNeg (11 : Int32).toNatClampNeg))) wl_X8_30 wn_copy ws_copy wi_sys 5 22 (wg_5 E _) (wg_22 E _) (by decide) (by decide) (by decide) (by decide) (by decide) (ws_A_15 E _ _) (Nat.le_of_ble_eq_true rfl) (Nat.le_of_ble_eq_true rfl) dX8_copyFrom_57 ?_
  refine g_aload_n X 0 (i0 := 0) dX8_copyFrom_60 rfl rfl ?_
  refine g_aload_n X 1 (i0 := 1) dX8_copyFrom_61 rfl rfl ?_
  refine g_get X (D := (setA (setA (setA (setA D 12 (va_cpy (D.2.2.1 0) (D.2.2.1 12) (0 : Int32).toNatClampNeg (0 : Int32).toNatClampNeg (36 : Int32).toNatClampNeg)) 13 (va_cpy (D.2.2.1 1) (D.2.2.1 13) (0 : Int32).toNatClampNeg (0 : Int32).toNatClampNeg (6 : Int32).toNatClampNeg)) 14 (va_cpy (D.2.2.1 2) (D.2.2.1 14) (0 : Int32).toNatClampNeg (0 : Int32).toNatClampNeg (6 : Int32).toNatClampNeg)) 15 (va_cpy (D.2.2.1 3) (D.2.2.1 15) (0 : Int32).toNatClampNeg (0 : Int32).toNatClampNeg (11 : Int32).toNatClampNeg))) (v := .int (D.1 0)) (T := TX8) 1 uX8 (wg_1 E _) rfl 4 (by decide) fl_X8_36 rfl rfl dX8_copyFrom_62 ?_
  refine g_put X (D := (setA (setA (setA (setA D 12 (va_cpy (D.2.2.1 0) (D.2.2.1 12) (0 : Int32).toNatClampNeg (0 : Int32).toNatClampNeg (36 : Int32).toNatClampNeg)) 13 (va_cpy (D.2.2.1 1) (D.2.2.1 13) (0 : Int32).toNatClampNeg (0 : Int32).toNatClampNeg (6 : Int32).toNatClampNeg)) 14 (va_cpy (D.2.2.1 2) (D.2.2.1 14) (0 : Int32).toNatClampNeg (0 : Int32).toNatClampNeg (6 : Int32).toNatClampNeg)) 15 (va_cpy (D.2.2.1 3) (D.2.2.1 15) (0 : Int32).toNatClampNeg (0 : Int32).toNatClampNeg (11 : Int32).toNatClampNeg))) (v := .int (D.1 0)) (T := TX8) (D' := (setI (setA (setA (setA (setA D 12 (va_cpy (D.2.2.1 0) (D.2.2.1 12) (0 : Int32).toNatClampNeg (0 : Int32).toNatClampNeg (36 : Int32).toNatClampNeg)) 13 (va_cpy (D.2.2.1 1) (D.2.2.1 13) (0 : Int32).toNatClampNeg (0 : Int32).toNatClampNeg (6 : Int32).toNatClampNeg)) 14 (va_cpy (D.2.2.1 2) (D.2.2.1 14) (0 : Int32).toNatClampNeg (0 : Int32).toNatClampNeg (6 : Int32).toNatClampNeg)) 15 (va_cpy (D.2.2.1 3) (D.2.2.1 15) (0 : Int32).toNatClampNeg (0 : Int32).toNatClampNeg (11 : Int32).toNatClampNeg)) 30 (D.1 0))) 18 uX8 tyX8 tyX8_ok nmX8 (wg_18 E _) rfl 4 (by decide) fl_X8_36 rfl rfl rfl rfl (Nat.le_of_ble_eq_true rfl) (ws_I_30 E _ _) dX8_copyFrom_65 ?_
  refine g_aload_n X 0 (i0 := 0) dX8_copyFrom_68 rfl rfl ?_
  refine g_aload_n X 1 (i0 := 1) dX8_copyFrom_69 rfl rfl ?_
  refine g_get X (D := (setI (setA (setA (setA (setA D 12 (va_cpy (D.2.2.1 0) (D.2.2.1 12) (0 : Int32).toNatClampNeg (0 : Int32).toNatClampNeg (36 : Int32).toNatClampNeg)) 13 (va_cpy (D.2.2.1 1) (D.2.2.1 13) (0 : Int32).toNatClampNeg (0 : Int32).toNatClampNeg (6 : Int32).toNatClampNeg)) 14 (va_cpy (D.2.2.1 2) (D.2.2.1 14) (0 : Int32).toNatClampNeg (0 : Int32).toNatClampNeg (6 : Int32).toNatClampNeg)) 15 (va_cpy (D.2.2.1 3) (D.2.2.1 15) (0 : Int32).toNatClampNeg (0 : Int32).toNatClampNeg (11 : Int32).toNatClampNeg)) 30 (D.1 0))) (v := .int (D.1 1)) (T := TX8) 1 uX8 (wg_1 E _) rfl 5 (by decide) fl_X8_40 rfl rfl dX8_copyFrom_70 ?_
  refine g_put X (D := (setI (setA (setA (setA (setA D 12 (va_cpy (D.2.2.1 0) (D.2.2.1 12) (0 : Int32).toNatClampNeg (0 : Int32).toNatClampNeg (36 : Int32).toNatClampNeg)) 13 (va_cpy (D.2.2.1 1) (D.2.2.1 13) (0 : Int32).toNatClampNeg (0 : Int32).toNatClampNeg (6 : Int32).toNatClampNeg)) 14 (va_cpy (D.2.2.1 2) (D.2.2.1 14) (0 : Int32).toNatClampNeg (0 : Int32).toNatClampNeg (6 : Int32).toNatClampNeg)) 15 (va_cpy (D.2.2.1 3) (D.2.2.1 15) (0 : Int32).toNatClampNeg (0 : Int32).toNatClampNeg (11 : Int32).toNatClampNeg)) 30 (D.1 0))) (v := .int (D.1 1)) (T := TX8) (D' := (setI (setI (setA (setA (setA (setA D 12 (va_cpy (D.2.2.1 0) (D.2.2.1 12) (0 : Int32).toNatClampNeg (0 : Int32).toNatClampNeg (36 : Int32).toNatClampNeg)) 13 (va_cpy (D.2.2.1 1) (D.2.2.1 13) (0 : Int32).toNatClampNeg (0 : Int32).toNatClampNeg (6 : Int32).toNatClampNeg)) 14 (va_cpy (D.2.2.1 2) (D.2.2.1 14) (0 : Int32).toNatClampNeg (0 : Int32).toNatClampNeg (6 : Int32).toNatClampNeg)) 15 (va_cpy (D.2.2.1 3) (D.2.2.1 15) (0 : Int32).toNatClampNeg (0 : Int32).toNatClampNeg (11 : Int32).toNatClampNeg)) 30 (D.1 0)) 31 (D.1 1))) 18 uX8 tyX8 tyX8_ok nmX8 (wg_18 E _) rfl 5 (by decide) fl_X8_40 rfl rfl rfl rfl (Nat.le_of_ble_eq_true rfl) (ws_I_31 E _ _) dX8_copyFrom_73 ?_
  refine g_aload_n X 0 (i0 := 0) dX8_copyFrom_76 rfl rfl ?_
  refine g_aload_n X 1 (i0 := 1) dX8_copyFrom_77 rfl rfl ?_
  refine g_get X (D := (setI (setI (setA (setA (setA (setA D 12 (va_cpy (D.2.2.1 0) (D.2.2.1 12) (0 : Int32).toNatClampNeg (0 : Int32).toNatClampNeg (36 : Int32).toNatClampNeg)) 13 (va_cpy (D.2.2.1 1) (D.2.2.1 13) (0 : Int32).toNatClampNeg (0 : Int32).toNatClampNeg (6 : Int32).toNatClampNeg)) 14 (va_cpy (D.2.2.1 2) (D.2.2.1 14) (0 : Int32).toNatClampNeg (0 : Int32).toNatClampNeg (6 : Int32).toNatClampNeg)) 15 (va_cpy (D.2.2.1 3) (D.2.2.1 15) (0 : Int32).toNatClampNeg (0 : Int32).toNatClampNeg (11 : Int32).toNatClampNeg)) 30 (D.1 0)) 31 (D.1 1))) (v := .int (D.1 2)) (T := TX8) 1 uX8 (wg_1 E _) rfl 6 (by decide) fl_X8_43 rfl rfl dX8_copyFrom_78 ?_
  refine g_put X (D := (setI (setI (setA (setA (setA (setA D 12 (va_cpy (D.2.2.1 0) (D.2.2.1 12) (0 : Int32).toNatClampNeg (0 : Int32).toNatClampNeg (36 : Int32).toNatClampNeg)) 13 (va_cpy (D.2.2.1 1) (D.2.2.1 13) (0 : Int32).toNatClampNeg (0 : Int32).toNatClampNeg (6 : Int32).toNatClampNeg)) 14 (va_cpy (D.2.2.1 2) (D.2.2.1 14) (0 : Int32).toNatClampNeg (0 : Int32).toNatClampNeg (6 : Int32).toNatClampNeg)) 15 (va_cpy (D.2.2.1 3) (D.2.2.1 15) (0 : Int32).toNatClampNeg (0 : Int32).toNatClampNeg (11 : Int32).toNatClampNeg)) 30 (D.1 0)) 31 (D.1 1))) (v := .int (D.1 2)) (T := TX8) (D' := (setI (setI (setI (setA (setA (setA (setA D 12 (va_cpy (D.2.2.1 0) (D.2.2.1 12) (0 : Int32).toNatClampNeg (0 : Int32).toNatClampNeg (36 : Int32).toNatClampNeg)) 13 (va_cpy (D.2.2.1 1) (D.2.2.1 13) (0 : Int32).toNatClampNeg (0 : Int32).toNatClampNeg (6 : Int32).toNatClampNeg)) 14 (va_cpy (D.2.2.1 2) (D.2.2.1 14) (0 : Int32).toNatClampNeg (0 : Int32).toNatClampNeg (6 : Int32).toNatClampNeg)) 15 (va_cpy (D.2.2.1 3) (D.2.2.1 15) (0 : Int32).toNatClampNeg (0 : Int32).toNatClampNeg (11 : Int32).toNatClampNeg)) 30 (D.1 0)) 31 (D.1 1)) 32 (D.1 2))) 18 uX8 tyX8 tyX8_ok nmX8 (wg_18 E _) rfl 6 (by decide) fl_X8_43 rfl rfl rfl rfl (Nat.le_of_ble_eq_true rfl) (ws_I_32 E _ _) dX8_copyFrom_81 ?_
  refine g_aload_n X 0 (i0 := 0) dX8_copyFrom_84 rfl rfl ?_
  refine g_aload_n X 1 (i0 := 1) dX8_copyFrom_85 rfl rfl ?_
  refine g_get X (D := (setI (setI (setI (setA (setA (setA (setA D 12 (va_cpy (D.2.2.1 0) (D.2.2.1 12) (0 : Int32).toNatClampNeg (0 : Int32).toNatClampNeg (36 : Int32).toNatClampNeg)) 13 (va_cpy (D.2.2.1 1) (D.2.2.1 13) (0 : Int32).toNatClampNeg (0 : Int32).toNatClampNeg (6 : Int32).toNatClampNeg)) 14 (va_cpy (D.2.2.1 2) (D.2.2.1 14) (0 : Int32).toNatClampNeg (0 : Int32).toNatClampNeg (6 : Int32).toNatClampNeg)) 15 (va_cpy (D.2.2.1 3) (D.2.2.1 15) (0 : Int32).toNatClampNeg (0 : Int32).toNatClampNeg (11 : Int32).toNatClampNeg)) 30 (D.1 0)) 31 (D.1 1)) 32 (D.1 2))) (v := .int (D.1 3)) (T := TX8) 1 uX8 (wg_1 E _) rfl 7 (by decide) fl_X8_46 rfl rfl dX8_copyFrom_86 ?_
  refine g_put X (D := (setI (setI (setI (setA (setA (setA (setA D 12 (va_cpy (D.2.2.1 0) (D.2.2.1 12) (0 : Int32).toNatClampNeg (0 : Int32).toNatClampNeg (36 : Int32).toNatClampNeg)) 13 (va_cpy (D.2.2.1 1) (D.2.2.1 13) (0 : Int32).toNatClampNeg (0 : Int32).toNatClampNeg (6 : Int32).toNatClampNeg)) 14 (va_cpy (D.2.2.1 2) (D.2.2.1 14) (0 : Int32).toNatClampNeg (0 : Int32).toNatClampNeg (6 : Int32).toNatClampNeg)) 15 (va_cpy (D.2.2.1 3) (D.2.2.1 15) (0 : Int32).toNatClampNeg (0 : Int32).toNatClampNeg (11 : Int32).toNatClampNeg)) 30 (D.1 0)) 31 (D.1 1)) 32 (D.1 2))) (v := .int (D.1 3)) (T := TX8) (D' := (setI (setI (setI (setI (setA (setA (setA (setA D 12 (va_cpy (D.2.2.1 0) (D.2.2.1 12) (0 : Int32).toNatClampNeg (0 : Int32).toNatClampNeg (36 : Int32).toNatClampNeg)) 13 (va_cpy (D.2.2.1 1) (D.2.2.1 13) (0 : Int32).toNatClampNeg (0 : Int32).toNatClampNeg (6 : Int32).toNatClampNeg)) 14 (va_cpy (D.2.2.1 2) (D.2.2.1 14) (0 : Int32).toNatClampNeg (0 : Int32).toNatClampNeg (6 : Int32).toNatClampNeg)) 15 (va_cpy (D.2.2.1 3) (D.2.2.1 15) (0 : Int32).toNatClampNeg (0 : Int32).toNatClampNeg (11 : Int32).toNatClampNeg)) 30 (D.1 0)) 31 (D.1 1)) 32 (D.1 2)) 33 (D.1 3))) 18 uX8 tyX8 tyX8_ok nmX8 (wg_18 E _) rfl 7 (by decide) fl_X8_46 rfl rfl rfl rfl (Nat.le_of_ble_eq_true rfl) (ws_I_33 E _ _) dX8_copyFrom_89 ?_
  refine g_aload_n X 0 (i0 := 0) dX8_copyFrom_92 rfl rfl ?_
  refine g_aload_n X 1 (i0 := 1) dX8_copyFrom_93 rfl rfl ?_
  refine g_get X (D := (setI (setI (setI (setI (setA (setA (setA (setA D 12 (va_cpy (D.2.2.1 0) (D.2.2.1 12) (0 : Int32).toNatClampNeg (0 : Int32).toNatClampNeg (36 : Int32).toNatClampNeg)) 13 (va_cpy (D.2.2.1 1) (D.2.2.1 13) (0 : Int32).toNatClampNeg (0 : Int32).toNatClampNeg (6 : Int32).toNatClampNeg)) 14 (va_cpy (D.2.2.1 2) (D.2.2.1 14) (0 : Int32).toNatClampNeg (0 : Int32).toNatClampNeg (6 : Int32).toNatClampNeg)) 15 (va_cpy (D.2.2.1 3) (D.2.2.1 15) (0 : Int32).toNatClampNeg (0 : Int32).toNatClampNeg (11 : Int32).toNatClampNeg)) 30 (D.1 0)) 31 (D.1 1)) 32 (D.1 2)) 33 (D.1 3))) (v := .long (D.2.1 0)) (T := TX8) 1 uX8 (wg_1 E _) rfl 8 (by decide) fl_X8_49 rfl rfl dX8_copyFrom_94 ?_
  refine g_put X (D := (setI (setI (setI (setI (setA (setA (setA (setA D 12 (va_cpy (D.2.2.1 0) (D.2.2.1 12) (0 : Int32).toNatClampNeg (0 : Int32).toNatClampNeg (36 : Int32).toNatClampNeg)) 13 (va_cpy (D.2.2.1 1) (D.2.2.1 13) (0 : Int32).toNatClampNeg (0 : Int32).toNatClampNeg (6 : Int32).toNatClampNeg)) 14 (va_cpy (D.2.2.1 2) (D.2.2.1 14) (0 : Int32).toNatClampNeg (0 : Int32).toNatClampNeg (6 : Int32).toNatClampNeg)) 15 (va_cpy (D.2.2.1 3) (D.2.2.1 15) (0 : Int32).toNatClampNeg (0 : Int32).toNatClampNeg (11 : Int32).toNatClampNeg)) 30 (D.1 0)) 31 (D.1 1)) 32 (D.1 2)) 33 (D.1 3))) (v := .long (D.2.1 0)) (T := TX8) (D' := (setJ (setI (setI (setI (setI (setA (setA (setA (setA D 12 (va_cpy (D.2.2.1 0) (D.2.2.1 12) (0 : Int32).toNatClampNeg (0 : Int32).toNatClampNeg (36 : Int32).toNatClampNeg)) 13 (va_cpy (D.2.2.1 1) (D.2.2.1 13) (0 : Int32).toNatClampNeg (0 : Int32).toNatClampNeg (6 : Int32).toNatClampNeg)) 14 (va_cpy (D.2.2.1 2) (D.2.2.1 14) (0 : Int32).toNatClampNeg (0 : Int32).toNatClampNeg (6 : Int32).toNatClampNeg)) 15 (va_cpy (D.2.2.1 3) (D.2.2.1 15) (0 : Int32).toNatClampNeg (0 : Int32).toNatClampNeg (11 : Int32).toNatClampNeg)) 30 (D.1 0)) 31 (D.1 1)) 32 (D.1 2)) 33 (D.1 3)) 3 (D.2.1 0))) 18 uX8 tyX8 tyX8_ok nmX8 (wg_18 E _) rfl 8 (by decide) fl_X8_49 rfl rfl rfl rfl (Nat.le_of_ble_eq_true rfl) (ws_J_3 E _ _) dX8_copyFrom_97 ?_
  exact g_vret X hr dX8_copyFrom_100 (Option.some.inj h)
theorem wg_23 (E : EE) (D : DD) : (wd E D)[23]? = some (E.1 23, .inr (8, [.ref (E.1 24), .ref (E.1 25), .ref (E.1 26), .ref (E.1 27), .int (D.1 40), .int (D.1 41), .int (D.1 42), .int (D.1 43), .long (D.2.1 4)])) := rfl
theorem wg_24 (E : EE) (D : DD) : (wd E D)[24]? = some (E.1 24, .inl (E.2 0, 36, .inl (D.2.2.1 16))) := rfl
theorem wg_25 (E : EE) (D : DD) : (wd E D)[25]? = some (E.1 25, .inl (E.2 0, 6, .inl (D.2.2.1 17))) := rfl
theorem wg_26 (E : EE) (D : DD) : (wd E D)[26]? = some (E.1 26, .inl (E.2 0, 6, .inl (D.2.2.1 18))) := rfl
theorem wg_27 (E : EE) (D : DD) : (wd E D)[27]? = some (E.1 27, .inl (E.2 0, 11, .inl (D.2.2.1 19))) := rfl
theorem ws_A_16 (E : EE) (D : DD) (f : Nat → Int32) : (wd E D).set 24 (E.1 24, .inl (E.2 0, 36, .inl f)) = wd E (setA D 16 f) := rfl
theorem ws_A_17 (E : EE) (D : DD) (f : Nat → Int32) : (wd E D).set 25 (E.1 25, .inl (E.2 0, 6, .inl f)) = wd E (setA D 17 f) := rfl
theorem ws_A_18 (E : EE) (D : DD) (f : Nat → Int32) : (wd E D).set 26 (E.1 26, .inl (E.2 0, 6, .inl f)) = wd E (setA D 18 f) := rfl
theorem ws_A_19 (E : EE) (D : DD) (f : Nat → Int32) : (wd E D).set 27 (E.1 27, .inl (E.2 0, 11, .inl f)) = wd E (setA D 19 f) := rfl
theorem ws_I_40 (E : EE) (D : DD) (v : Int32) : (wd E D).set 23 (E.1 23, .inr (8, [.ref (E.1 24), .ref (E.1 25), .ref (E.1 26), .ref (E.1 27), .int v, .int (D.1 41), .int (D.1 42), .int (D.1 43), .long (D.2.1 4)])) = wd E (setI D 40 v) := rfl
theorem ws_I_41 (E : EE) (D : DD) (v : Int32) : (wd E D).set 23 (E.1 23, .inr (8, [.ref (E.1 24), .ref (E.1 25), .ref (E.1 26), .ref (E.1 27), .int (D.1 40), .int v, .int (D.1 42), .int (D.1 43), .long (D.2.1 4)])) = wd E (setI D 41 v) := rfl
theorem ws_I_42 (E : EE) (D : DD) (v : Int32) : (wd E D).set 23 (E.1 23, .inr (8, [.ref (E.1 24), .ref (E.1 25), .ref (E.1 26), .ref (E.1 27), .int (D.1 40), .int (D.1 41), .int v, .int (D.1 43), .long (D.2.1 4)])) = wd E (setI D 42 v) := rfl
theorem ws_I_43 (E : EE) (D : DD) (v : Int32) : (wd E D).set 23 (E.1 23, .inr (8, [.ref (E.1 24), .ref (E.1 25), .ref (E.1 26), .ref (E.1 27), .int (D.1 40), .int (D.1 41), .int (D.1 42), .int v, .long (D.2.1 4)])) = wd E (setI D 43 v) := rfl
theorem ws_J_4 (E : EE) (D : DD) (v : Int64) : (wd E D).set 23 (E.1 23, .inr (8, [.ref (E.1 24), .ref (E.1 25), .ref (E.1 26), .ref (E.1 27), .int (D.1 40), .int (D.1 41), .int (D.1 42), .int (D.1 43), .long v])) = wd E (setJ D 4 v) := rfl
def S_X8_copyFrom_ring1_state  (D : DD) : Option RT := some (0, none, (setJ (setI (setI (setI (setI (setA (setA (setA (setA D 16 (va_cpy (D.2.2.1 0) (D.2.2.1 16) (0 : Int32).toNatClampNeg (0 : Int32).toNatClampNeg (36 : Int32).toNatClampNeg)) 17 (va_cpy (D.2.2.1 1) (D.2.2.1 17) (0 : Int32).toNatClampNeg (0 : Int32).toNatClampNeg (6 : Int32).toNatClampNeg)) 18 (va_cpy (D.2.2.1 2) (D.2.2.1 18) (0 : Int32).toNatClampNeg (0 : Int32).toNatClampNeg (6 : Int32).toNatClampNeg)) 19 (va_cpy (D.2.2.1 3) (D.2.2.1 19) (0 : Int32).toNatClampNeg (0 : Int32).toNatClampNeg (11 : Int32).toNatClampNeg)) 40 (D.1 0)) 41 (D.1 1)) 42 (D.1 2)) 43 (D.1 3)) 4 (D.2.1 0)))
set_option maxRecDepth 100000 in
set_option maxHeartbeats 4000000 in
theorem c_X8_copyFrom_ring1_state (l : Launch) (G : va_G) (E : EE)  (D : DD) (r : RT) (h : S_X8_copyFrom_ring1_state  D = some r) : MM l G E yX8_copyFrom cX8_copyFrom 2 none (rmm 1) [.ref (E.1 23), .ref (E.1 1)] D r := by
  refine m_of rfl (Nat.le_of_ble_eq_true rfl) ?_
  intro p e s m args below meth c X hr
  unfold S_X8_copyFrom_ring1_state at h
  refine g_aload_n X 1 (i0 := 1) dX8_copyFrom_0 rfl rfl ?_
  refine g_get X (D := D) (v := .ref (E.1 2)) (T := TX8) 1 uX8 (wg_1 E _) rfl 0 (by decide) fl_X8_9 rfl rfl dX8_copyFrom_1 ?_
  refine g_iconst X (v := (0 : Int32)) dX8_copyFrom_4 (by decide) ?_
  refine g_aload_n X 0 (i0 := 0) dX8_copyFrom_5 rfl rfl ?_
  refine g_get X (D := D) (v := .ref (E.1 24)) (T := TX8) 23 uX8 (wg_23 E _) rfl 0 (by decide) fl_X8_9 rfl rfl dX8_copyFrom_6 ?_
  refine g_iconst X (v := (0 : Int32)) dX8_copyFrom_9 (by decide) ?_
  refine g_bipush X (v := (36 : Int32)) dX8_copyFrom_10 (by decide) ?_
  refine g_copyi X (D := D) (f := (D.2.2.1 0)) (g := (D.2.2.1 16)) (sp := (0 : Int32)) (dp := (0 : Int32)) (n := (36 : Int32)) (D' := (setA D 16 (va_cpy (D.2.2.1 0) (D.2.2.1 16) (0 : Int32).toNatClampNeg (0 : Int32).toNatClampNeg (36 : Int32).toNatClampNeg))) wl_X8_30 wn_copy ws_copy wi_sys 2 24 (wg_2 E _) (wg_24 E _) (by decide) (by decide) (by decide) (by decide) (by decide) (ws_A_16 E _ _) (Nat.le_of_ble_eq_true rfl) (Nat.le_of_ble_eq_true rfl) dX8_copyFrom_12 ?_
  refine g_aload_n X 1 (i0 := 1) dX8_copyFrom_15 rfl rfl ?_
  refine g_get X (D := (setA D 16 (va_cpy (D.2.2.1 0) (D.2.2.1 16) (0 : Int32).toNatClampNeg (0 : Int32).toNatClampNeg (36 : Int32).toNatClampNeg))) (v := .ref (E.1 3)) (T := TX8) 1 uX8 (wg_1 E _) rfl 1 (by decide) fl_X8_15 rfl rfl dX8_copyFrom_16 ?_
  refine g_iconst X (v := (0 : Int32)) dX8_copyFrom_19 (by decide) ?_
  refine g_aload_n X 0 (i0 := 0) dX8_copyFrom_20 rfl rfl ?_
  refine g_get X (D := (setA D 16 (va_cpy (D.2.2.1 0) (D.2.2.1 16) (0 : Int32).toNatClampNeg (0 : Int32).toNatClampNeg (36 : Int32).toNatClampNeg))) (v := .ref (E.1 25)) (T := TX8) 23 uX8 (wg_23 E _) rfl 1 (by decide) fl_X8_15 rfl rfl dX8_copyFrom_21 ?_
  refine g_iconst X (v := (0 : Int32)) dX8_copyFrom_24 (by decide) ?_
  refine g_bipush X (v := (6 : Int32)) dX8_copyFrom_25 (by decide) ?_
  refine g_copyi X (D := (setA D 16 (va_cpy (D.2.2.1 0) (D.2.2.1 16) (0 : Int32).toNatClampNeg (0 : Int32).toNatClampNeg (36 : Int32).toNatClampNeg))) (f := (D.2.2.1 1)) (g := (D.2.2.1 17)) (sp := (0 : Int32)) (dp := (0 : Int32)) (n := (6 : Int32)) (D' := (setA (setA D 16 (va_cpy (D.2.2.1 0) (D.2.2.1 16) (0 : Int32).toNatClampNeg (0 : Int32).toNatClampNeg (36 : Int32).toNatClampNeg)) 17 (va_cpy (D.2.2.1 1) (D.2.2.1 17) (0 : Int32).toNatClampNeg (0 : Int32).toNatClampNeg (6 : Int32).toNatClampNeg))) wl_X8_30 wn_copy ws_copy wi_sys 3 25 (wg_3 E _) (wg_25 E _) (by decide) (by decide) (by decide) (by decide) (by decide) (ws_A_17 E _ _) (Nat.le_of_ble_eq_true rfl) (Nat.le_of_ble_eq_true rfl) dX8_copyFrom_27 ?_
  refine g_aload_n X 1 (i0 := 1) dX8_copyFrom_30 rfl rfl ?_
  refine g_get X (D := (setA (setA D 16 (va_cpy (D.2.2.1 0) (D.2.2.1 16) (0 : Int32).toNatClampNeg (0 : Int32).toNatClampNeg (36 : Int32).toNatClampNeg)) 17 (va_cpy (D.2.2.1 1) (D.2.2.1 17) (0 : Int32).toNatClampNeg (0 : Int32).toNatClampNeg (6 : Int32).toNatClampNeg))) (v := .ref (E.1 4)) (T := TX8) 1 uX8 (wg_1 E _) rfl 2 (by decide) fl_X8_18 rfl rfl dX8_copyFrom_31 ?_
  refine g_iconst X (v := (0 : Int32)) dX8_copyFrom_34 (by decide) ?_
  refine g_aload_n X 0 (i0 := 0) dX8_copyFrom_35 rfl rfl ?_
  refine g_get X (D := (setA (setA D 16 (va_cpy (D.2.2.1 0) (D.2.2.1 16) (0 : Int32).toNatClampNeg (0 : Int32).toNatClampNeg (36 : Int32).toNatClampNeg)) 17 (va_cpy (D.2.2.1 1) (D.2.2.1 17) (0 : Int32).toNatClampNeg (0 : Int32).toNatClampNeg (6 : Int32).toNatClampNeg))) (v := .ref (E.1 26)) (T := TX8) 23 uX8 (wg_23 E _) rfl 2 (by decide) fl_X8_18 rfl rfl dX8_copyFrom_36 ?_
  refine g_iconst X (v := (0 : Int32)) dX8_copyFrom_39 (by decide) ?_
  refine g_bipush X (v := (6 : Int32)) dX8_copyFrom_40 (by decide) ?_
  refine g_copyi X (D := (setA (setA D 16 (va_cpy (D.2.2.1 0) (D.2.2.1 16) (0 : Int32).toNatClampNeg (0 : Int32).toNatClampNeg (36 : Int32).toNatClampNeg)) 17 (va_cpy (D.2.2.1 1) (D.2.2.1 17) (0 : Int32).toNatClampNeg (0 : Int32).toNatClampNeg (6 : Int32).toNatClampNeg))) (f := (D.2.2.1 2)) (g := (D.2.2.1 18)) (sp := (0 : Int32)) (dp := (0 : Int32)) (n := (6 : Int32)) (D' := (setA (setA (setA D 16 (va_cpy (D.2.2.1 0) (D.2.2.1 16) (0 : Int32).toNatClampNeg (0 : Int32).toNatClampNeg (36 : Int32).toNatClampNeg)) 17 (va_cpy (D.2.2.1 1) (D.2.2.1 17) (0 : Int32).toNatClampNeg (0 : Int32).toNatClampNeg (6 : Int32).toNatClampNeg)) 18 (va_cpy (D.2.2.1 2) (D.2.2.1 18) (0 : Int32).toNatClampNeg (0 : Int32).toNatClampNeg (6 : Int32).toNatClampNeg))) wl_X8_30 wn_copy ws_copy wi_sys 4 26 (wg_4 E _) (wg_26 E _) (by decide) (by decide) (by decide) (by decide) (by decide) (ws_A_18 E _ _) (Nat.le_of_ble_eq_true rfl) (Nat.le_of_ble_eq_true rfl) dX8_copyFrom_42 ?_
  refine g_aload_n X 1 (i0 := 1) dX8_copyFrom_45 rfl rfl ?_
  refine g_get X (D := (setA (setA (setA D 16 (va_cpy (D.2.2.1 0) (D.2.2.1 16) (0 : Int32).toNatClampNeg (0 : Int32).toNatClampNeg (36 : Int32).toNatClampNeg)) 17 (va_cpy (D.2.2.1 1) (D.2.2.1 17) (0 : Int32).toNatClampNeg (0 : Int32).toNatClampNeg (6 : Int32).toNatClampNeg)) 18 (va_cpy (D.2.2.1 2) (D.2.2.1 18) (0 : Int32).toNatClampNeg (0 : Int32).toNatClampNeg (6 : Int32).toNatClampNeg))) (v := .ref (E.1 5)) (T := TX8) 1 uX8 (wg_1 E _) rfl 3 (by decide) fl_X8_21 rfl rfl dX8_copyFrom_46 ?_
  refine g_iconst X (v := (0 : Int32)) dX8_copyFrom_49 (by decide) ?_
  refine g_aload_n X 0 (i0 := 0) dX8_copyFrom_50 rfl rfl ?_
  refine g_get X (D := (setA (setA (setA D 16 (va_cpy (D.2.2.1 0) (D.2.2.1 16) (0 : Int32).toNatClampNeg (0 : Int32).toNatClampNeg (36 : Int32).toNatClampNeg)) 17 (va_cpy (D.2.2.1 1) (D.2.2.1 17) (0 : Int32).toNatClampNeg (0 : Int32).toNatClampNeg (6 : Int32).toNatClampNeg)) 18 (va_cpy (D.2.2.1 2) (D.2.2.1 18) (0 : Int32).toNatClampNeg (0 : Int32).toNatClampNeg (6 : Int32).toNatClampNeg))) (v := .ref (E.1 27)) (T := TX8) 23 uX8 (wg_23 E _) rfl 3 (by decide) fl_X8_21 rfl rfl dX8_copyFrom_51 ?_
  refine g_iconst X (v := (0 : Int32)) dX8_copyFrom_54 (by decide) ?_
  refine g_bipush X (v := (11 : Int32)) dX8_copyFrom_55 (by decide) ?_
  refine g_copyi X (D := (setA (setA (setA D 16 (va_cpy (D.2.2.1 0) (D.2.2.1 16) (0 : Int32).toNatClampNeg (0 : Int32).toNatClampNeg (36 : Int32).toNatClampNeg)) 17 (va_cpy (D.2.2.1 1) (D.2.2.1 17) (0 : Int32).toNatClampNeg (0 : Int32).toNatClampNeg (6 : Int32).toNatClampNeg)) 18 (va_cpy (D.2.2.1 2) (D.2.2.1 18) (0 : Int32).toNatClampNeg (0 : Int32).toNatClampNeg (6 : Int32).toNatClampNeg))) (f := (D.2.2.1 3)) (g := (D.2.2.1 19)) (sp := (0 : Int32)) (dp := (0 : Int32)) (n := (11 : Int32)) (D' := (setA (setA (setA (setA D 16 (va_cpy (D.2.2.1 0) (D.2.2.1 16) (0 : Int32).toNatClampNeg (0 : Int32).toNatClampNeg (36 : Int32).toNatClampNeg)) 17 (va_cpy (D.2.2.1 1) (D.2.2.1 17) (0 : Int32).toNatClampNeg (0 : Int32).toNatClampNeg (6 : Int32).toNatClampNeg)) 18 (va_cpy (D.2.2.1 2) (D.2.2.1 18) (0 : Int32).toNatClampNeg (0 : Int32).toNatClampNeg (6 : Int32).toNatClampNeg)) 19 (va_cpy (D.2.2.1 3) (D.2.2.1 19) (0 : Int32).toNatClampNeg (0 : Int32).toNatClampNeg (11 : Int32).toNatClampNeg))) wl_X8_30 wn_copy ws_copy wi_sys 5 27 (wg_5 E _) (wg_27 E _) (by decide) (by decide) (by decide) (by decide) (by decide) (ws_A_19 E _ _) (Nat.le_of_ble_eq_true rfl) (Nat.le_of_ble_eq_true rfl) dX8_copyFrom_57 ?_
  refine g_aload_n X 0 (i0 := 0) dX8_copyFrom_60 rfl rfl ?_
  refine g_aload_n X 1 (i0 := 1) dX8_copyFrom_61 rfl rfl ?_
  refine g_get X (D := (setA (setA (setA (setA D 16 (va_cpy (D.2.2.1 0) (D.2.2.1 16) (0 : Int32).toNatClampNeg (0 : Int32).toNatClampNeg (36 : Int32).toNatClampNeg)) 17 (va_cpy (D.2.2.1 1) (D.2.2.1 17) (0 : Int32).toNatClampNeg (0 : Int32).toNatClampNeg (6 : Int32).toNatClampNeg)) 18 (va_cpy (D.2.2.1 2) (D.2.2.1 18) (0 : Int32).toNatClampNeg (0 : Int32).toNatClampNeg (6 : Int32).toNatClampNeg)) 19 (va_cpy (D.2.2.1 3) (D.2.2.1 19) (0 : Int32).toNatClampNeg (0 : Int32).toNatClampNeg (11 : Int32).toNatClampNeg))) (v := .int (D.1 0)) (T := TX8) 1 uX8 (wg_1 E _) rfl 4 (by decide) fl_X8_36 rfl rfl dX8_copyFrom_62 ?_
  refine g_put X (D := (setA (setA (setA (setA D 16 (va_cpy (D.2.2.1 0) (D.2.2.1 16) (0 : Int32).toNatClampNeg (0 : Int32).toNatClampNeg (36 : Int32).toNatClampNeg)) 17 (va_cpy (D.2.2.1 1) (D.2.2.1 17) (0 : Int32).toNatClampNeg (0 : Int32).toNatClampNeg (6 : Int32).toNatClampNeg)) 18 (va_cpy (D.2.2.1 2) (D.2.2.1 18) (0 : Int32).toNatClampNeg (0 : Int32).toNatClampNeg (6 : Int32).toNatClampNeg)) 19 (va_cpy (D.2.2.1 3) (D.2.2.1 19) (0 : Int32).toNatClampNeg (0 : Int32).toNatClampNeg (11 : Int32).toNatClampNeg))) (v := .int (D.1 0)) (T := TX8) (D' := (setI (setA (setA (setA (setA D 16 (va_cpy (D.2.2.1 0) (D.2.2.1 16) (0 : Int32).toNatClampNeg (0 : Int32).toNatClampNeg (36 : Int32).toNatClampNeg)) 17 (va_cpy (D.2.2.1 1) (D.2.2.1 17) (0 : Int32).toNatClampNeg (0 : Int32).toNatClampNeg (6 : Int32).toNatClampNeg)) 18 (va_cpy (D.2.2.1 2) (D.2.2.1 18) (0 : Int32).toNatClampNeg (0 : Int32).toNatClampNeg (6 : Int32).toNatClampNeg)) 19 (va_cpy (D.2.2.1 3) (D.2.2.1 19) (0 : Int32).toNatClampNeg (0 : Int32).toNatClampNeg (11 : Int32).toNatClampNeg)) 40 (D.1 0))) 23 uX8 tyX8 tyX8_ok nmX8 (wg_23 E _) rfl 4 (by decide) fl_X8_36 rfl rfl rfl rfl (Nat.le_of_ble_eq_true rfl) (ws_I_40 E _ _) dX8_copyFrom_65 ?_
  refine g_aload_n X 0 (i0 := 0) dX8_copyFrom_68 rfl rfl ?_
  refine g_aload_n X 1 (i0 := 1) dX8_copyFrom_69 rfl rfl ?_
  refine g_get X (D := (setI (setA (setA (setA (setA D 16 (va_cpy (D.2.2.1 0) (D.2.2.1 16) (0 : Int32).toNatClampNeg (0 : Int32).toNatClampNeg (36 : Int32).toNatClampNeg)) 17 (va_cpy (D.2.2.1 1) (D.2.2.1 17) (0 : Int32).toNatClampNeg (0 : Int32).toNatClampNeg (6 : Int32).toNatClampNeg)) 18 (va_cpy (D.2.2.1 2) (D.2.2.1 18) (0 : Int32).toNatClampNeg (0 : Int32).toNatClampNeg (6 : Int32).toNatClampNeg)) 19 (va_cpy (D.2.2.1 3) (D.2.2.1 19) (0 : Int32).toNatClampNeg (0 : Int32).toNatClampNeg (11 : Int32).toNatClampNeg)) 40 (D.1 0))) (v := .int (D.1 1)) (T := TX8) 1 uX8 (wg_1 E _) rfl 5 (by decide) fl_X8_40 rfl rfl dX8_copyFrom_70 ?_
  refine g_put X (D := (setI (setA (setA (setA (setA D 16 (va_cpy (D.2.2.1 0) (D.2.2.1 16) (0 : Int32).toNatClampNeg (0 : Int32).toNatClampNeg (36 : Int32).toNatClampNeg)) 17 (va_cpy (D.2.2.1 1) (D.2.2.1 17) (0 : Int32).toNatClampNeg (0 : Int32).toNatClampNeg (6 : Int32).toNatClampNeg)) 18 (va_cpy (D.2.2.1 2) (D.2.2.1 18) (0 : Int32).toNatClampNeg (0 : Int32).toNatClampNeg (6 : Int32).toNatClampNeg)) 19 (va_cpy (D.2.2.1 3) (D.2.2.1 19) (0 : Int32).toNatClampNeg (0 : Int32).toNatClampNeg (11 : Int32).toNatClampNeg)) 40 (D.1 0))) (v := .int (D.1 1)) (T := TX8) (D' := (setI (setI (setA (setA (setA (setA D 16 (va_cpy (D.2.2.1 0) (D.2.2.1 16) (0 : Int32).toNatClampNeg (0 : Int32).toNatClampNeg (36 : Int32).toNatClampNeg)) 17 (va_cpy (D.2.2.1 1) (D.2.2.1 17) (0 : Int32).toNatClampNeg (0 : Int32).toNatClampNeg (6 : Int32).toNatClampNeg)) 18 (va_cpy (D.2.2.1 2) (D.2.2.1 18) (0 : Int32).toNatClampNeg (0 : Int32).toNatClampNeg (6 : Int32).toNatClampNeg)) 19 (va_cpy (D.2.2.1 3) (D.2.2.1 19) (0 : Int32).toNatClampNeg (0 : Int32).toNatClampNeg (11 : Int32).toNatClampNeg)) 40 (D.1 0)) 41 (D.1 1))) 23 uX8 tyX8 tyX8_ok nmX8 (wg_23 E _) rfl 5 (by decide) fl_X8_40 rfl rfl rfl rfl (Nat.le_of_ble_eq_true rfl) (ws_I_41 E _ _) dX8_copyFrom_73 ?_
  refine g_aload_n X 0 (i0 := 0) dX8_copyFrom_76 rfl rfl ?_
  refine g_aload_n X 1 (i0 := 1) dX8_copyFrom_77 rfl rfl ?_
  refine g_get X (D := (setI (setI (setA (setA (setA (setA D 16 (va_cpy (D.2.2.1 0) (D.2.2.1 16) (0 : Int32).toNatClampNeg (0 : Int32).toNatClampNeg (36 : Int32).toNatClampNeg)) 17 (va_cpy (D.2.2.1 1) (D.2.2.1 17) (0 : Int32).toNatClampNeg (0 : Int32).toNatClampNeg (6 : Int32).toNatClampNeg)) 18 (va_cpy (D.2.2.1 2) (D.2.2.1 18) (0 : Int32).toNatClampNeg (0 : Int32).toNatClampNeg (6 : Int32).toNatClampNeg)) 19 (va_cpy (D.2.2.1 3) (D.2.2.1 19) (0 : Int32).toNatClampNeg (0 : Int32).toNatClampNeg (11 : Int32).toNatClampNeg)) 40 (D.1 0)) 41 (D.1 1))) (v := .int (D.1 2)) (T := TX8) 1 uX8 (wg_1 E _) rfl 6 (by decide) fl_X8_43 rfl rfl dX8_copyFrom_78 ?_
  refine g_put X (D := (setI (setI (setA (setA (setA (setA D 16 (va_cpy (D.2.2.1 0) (D.2.2.1 16) (0 : Int32).toNatClampNeg (0 : Int32).toNatClampNeg (36 : Int32).toNatClampNeg)) 17 (va_cpy (D.2.2.1 1) (D.2.2.1 17) (0 : Int32).toNatClampNeg (0 : Int32).toNatClampNeg (6 : Int32).toNatClampNeg)) 18 (va_cpy (D.2.2.1 2) (D.2.2.1 18) (0 : Int32).toNatClampNeg (0 : Int32).toNatClampNeg (6 : Int32).toNatClampNeg)) 19 (va_cpy (D.2.2.1 3) (D.2.2.1 19) (0 : Int32).toNatClampNeg (0 : Int32).toNatClampNeg (11 : Int32).toNatClampNeg)) 40 (D.1 0)) 41 (D.1 1))) (v := .int (D.1 2)) (T := TX8) (D' := (setI (setI (setI (setA (setA (setA (setA D 16 (va_cpy (D.2.2.1 0) (D.2.2.1 16) (0 : Int32).toNatClampNeg (0 : Int32).toNatClampNeg (36 : Int32).toNatClampNeg)) 17 (va_cpy (D.2.2.1 1) (D.2.2.1 17) (0 : Int32).toNatClampNeg (0 : Int32).toNatClampNeg (6 : Int32).toNatClampNeg)) 18 (va_cpy (D.2.2.1 2) (D.2.2.1 18) (0 : Int32).toNatClampNeg (0 : Int32).toNatClampNeg (6 : Int32).toNatClampNeg)) 19 (va_cpy (D.2.2.1 3) (D.2.2.1 19) (0 : Int32).toNatClampNeg (0 : Int32).toNatClampNeg (11 : Int32).toNatClampNeg)) 40 (D.1 0)) 41 (D.1 1)) 42 (D.1 2))) 23 uX8 tyX8 tyX8_ok nmX8 (wg_23 E _) rfl 6 (by decide) fl_X8_43 rfl rfl rfl rfl (Nat.le_of_ble_eq_true rfl) (ws_I_42 E _ _) dX8_copyFrom_81 ?_
  refine g_aload_n X 0 (i0 := 0) dX8_copyFrom_84 rfl rfl ?_
  refine g_aload_n X 1 (i0 := 1) dX8_copyFrom_85 rfl rfl ?_
  refine g_get X (D := (setI (setI (setI (setA (setA (setA (setA D 16 (va_cpy (D.2.2.1 0) (D.2.2.1 16) (0 : Int32).toNatClampNeg (0 : Int32).toNatClampNeg (36 : Int32).toNatClampNeg)) 17 (va_cpy (D.2.2.1 1) (D.2.2.1 17) (0 : Int32).toNatClampNeg (0 : Int32).toNatClampNeg (6 : Int32).toNatClampNeg)) 18 (va_cpy (D.2.2.1 2) (D.2.2.1 18) (0 : Int32).toNatClampNeg (0 : Int32).toNatClampNeg (6 : Int32).toNatClampNeg)) 19 (va_cpy (D.2.2.1 3) (D.2.2.1 19) (0 : Int32).toNatClampNeg (0 : Int32).toNatClampNeg (11 : Int32).toNatClampNeg)) 40 (D.1 0)) 41 (D.1 1)) 42 (D.1 2))) (v := .int (D.1 3)) (T := TX8) 1 uX8 (wg_1 E _) rfl 7 (by decide) fl_X8_46 rfl rfl dX8_copyFrom_86 ?_
  refine g_put X (D := (setI (setI (setI (setA (setA (setA (setA D 16 (va_cpy (D.2.2.1 0) (D.2.2.1 16) (0 : Int32).toNatClampNeg (0 : Int32).toNatClampNeg (36 : Int32).toNatClampNeg)) 17 (va_cpy (D.2.2.1 1) (D.2.2.1 17) (0 : Int32).toNatClampNeg (0 : Int32).toNatClampNeg (6 : Int32).toNatClampNeg)) 18 (va_cpy (D.2.2.1 2) (D.2.2.1 18) (0 : Int32).toNatClampNeg (0 : Int32).toNatClampNeg (6 : Int32).toNatClampNeg)) 19 (va_cpy (D.2.2.1 3) (D.2.2.1 19) (0 : Int32).toNatClampNeg (0 : Int32).toNatClampNeg (11 : Int32).toNatClampNeg)) 40 (D.1 0)) 41 (D.1 1)) 42 (D.1 2))) (v := .int (D.1 3)) (T := TX8) (D' := (setI (setI (setI (setI (setA (setA (setA (setA D 16 (va_cpy (D.2.2.1 0) (D.2.2.1 16) (0 : Int32).toNatClampNeg (0 : Int32).toNatClampNeg (36 : Int32).toNatClampNeg)) 17 (va_cpy (D.2.2.1 1) (D.2.2.1 17) (0 : Int32).toNatClampNeg (0 : Int32).toNatClampNeg (6 : Int32).toNatClampNeg)) 18 (va_cpy (D.2.2.1 2) (D.2.2.1 18) (0 : Int32).toNatClampNeg (0 : Int32).toNatClampNeg (6 : Int32).toNatClampNeg)) 19 (va_cpy (D.2.2.1 3) (D.2.2.1 19) (0 : Int32).toNatClampNeg (0 : Int32).toNatClampNeg (11 : Int32).toNatClampNeg)) 40 (D.1 0)) 41 (D.1 1)) 42 (D.1 2)) 43 (D.1 3))) 23 uX8 tyX8 tyX8_ok nmX8 (wg_23 E _) rfl 7 (by decide) fl_X8_46 rfl rfl rfl rfl (Nat.le_of_ble_eq_true rfl) (ws_I_43 E _ _) dX8_copyFrom_89 ?_
  refine g_aload_n X 0 (i0 := 0) dX8_copyFrom_92 rfl rfl ?_
  refine g_aload_n X 1 (i0 := 1) dX8_copyFrom_93 rfl rfl ?_
  refine g_get X (D := (setI (setI (setI (setI (setA (setA (setA (setA D 16 (va_cpy (D.2.2.1 0) (D.2.2.1 16) (0 : Int32).toNatClampNeg (0 : Int32).toNatClampNeg (36 : Int32).toNatClampNeg)) 17 (va_cpy (D.2.2.1 1) (D.2.2.1 17) (0 : Int32).toNatClampNeg (0 : Int32).toNatClampNeg (6 : Int32).toNatClampNeg)) 18 (va_cpy (D.2.2.1 2) (D.2.2.1 18) (0 : Int32).toNatClampNeg (0 : Int32).toNatClampNeg (6 : Int32).toNatClampNeg)) 19 (va_cpy (D.2.2.1 3) (D.2.2.1 19) (0 : Int32).toNatClampNeg (0 : Int32).toNatClampNeg (11 : Int32).toNatClampNeg)) 40 (D.1 0)) 41 (D.1 1)) 42 (D.1 2)) 43 (D.1 3))) (v := .long (D.2.1 0)) (T := TX8) 1 uX8 (wg_1 E _) rfl 8 (by decide) fl_X8_49 rfl rfl dX8_copyFrom_94 ?_
  refine g_put X (D := (setI (setI (setI (setI (setA (setA (setA (setA D 16 (va_cpy (D.2.2.1 0) (D.2.2.1 16) (0 : Int32).toNatClampNeg (0 : Int32).toNatClampNeg (36 : Int32).toNatClampNeg)) 17 (va_cpy (D.2.2.1 1) (D.2.2.1 17) (0 : Int32).toNatClampNeg (0 : Int32).toNatClampNeg (6 : Int32).toNatClampNeg)) 18 (va_cpy (D.2.2.1 2) (D.2.2.1 18) (0 : Int32).toNatClampNeg (0 : Int32).toNatClampNeg (6 : Int32).toNatClampNeg)) 19 (va_cpy (D.2.2.1 3) (D.2.2.1 19) (0 : Int32).toNatClampNeg (0 : Int32).toNatClampNeg (11 : Int32).toNatClampNeg)) 40 (D.1 0)) 41 (D.1 1)) 42 (D.1 2)) 43 (D.1 3))) (v := .long (D.2.1 0)) (T := TX8) (D' := (setJ (setI (setI (setI (setI (setA (setA (setA (setA D 16 (va_cpy (D.2.2.1 0) (D.2.2.1 16) (0 : Int32).toNatClampNeg (0 : Int32).toNatClampNeg (36 : Int32).toNatClampNeg)) 17 (va_cpy (D.2.2.1 1) (D.2.2.1 17) (0 : Int32).toNatClampNeg (0 : Int32).toNatClampNeg (6 : Int32).toNatClampNeg)) 18 (va_cpy (D.2.2.1 2) (D.2.2.1 18) (0 : Int32).toNatClampNeg (0 : Int32).toNatClampNeg (6 : Int32).toNatClampNeg)) 19 (va_cpy (D.2.2.1 3) (D.2.2.1 19) (0 : Int32).toNatClampNeg (0 : Int32).toNatClampNeg (11 : Int32).toNatClampNeg)) 40 (D.1 0)) 41 (D.1 1)) 42 (D.1 2)) 43 (D.1 3)) 4 (D.2.1 0))) 23 uX8 tyX8 tyX8_ok nmX8 (wg_23 E _) rfl 8 (by decide) fl_X8_49 rfl rfl rfl rfl (Nat.le_of_ble_eq_true rfl) (ws_J_4 E _ _) dX8_copyFrom_97 ?_
  exact g_vret X hr dX8_copyFrom_100 (Option.some.inj h)
