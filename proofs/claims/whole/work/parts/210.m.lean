theorem hd_X13_vein : yX13_vein.cls ≠ "java/lang/invoke/MethodHandle" ∧ yX13_vein.cls ≠ "java/lang/invoke/VarHandle" ∧ (parseMethodDescriptor yX13_vein.desc).map (fun d => d.parameters.length) = some 1 := by decide +kernel
theorem wc_X13_vein : Cond.code yX13_vein cX13_vein 7 (some .int) ∈ UT := ut 1512 (by decide +kernel) (by decide +kernel)
theorem we_X13_vein : Cond.selects RX13 yX13_vein yX13_vein ∈ UT := ut 47 (by decide +kernel) (by decide +kernel)
theorem wm_X13_vein : Cond.instanceMethod yX13_vein ∈ UT := ut 1511 (by decide +kernel) (by decide +kernel)
theorem kv_X13_118 : GoodIn UT (wsV RX13 118 RX13 yX13_vein (Cond.code yX13_vein cX13_vein 7 (some .int) :: UT)) := gu_V (ut 1509 (by decide +kernel) (by decide +kernel)) wm_X13_vein we_X13_vein wi_RX13 wc_X13_vein
def b_X13_veinCount_0 (a0 : Int32) (D : DD) : Option ((Nat × List Int32 × DD) ⊕ RT) := (cI (S_X13_isIn a0 (1 : Int32) (9 : Int32) D) (fun r3 D2 => (if r3 = 0 then (if (1 : Int32) = 0 then some (.inl (1, [a0, (0 : Int32), (0 : Int32)], (setI D2 140 (1 : Int32)))) else some (.inr (0, some (.int (0 : Int32)), (setI D2 140 (1 : Int32))))) else (if (0 : Int32) = 0 then some (.inl (1, [a0, (0 : Int32), (0 : Int32)], (setI D2 140 (0 : Int32)))) else some (.inr (0, some (.int (0 : Int32)), (setI D2 140 (0 : Int32))))))))
def b_X13_veinCount_1 (x1 : Int32) (x2 : Int32) (x3 : Int32) (D : DD) : Option ((Nat × List Int32 × DD) ⊕ RT) := (if (36 : Int32) ≤ x3 then some (.inr (0, some (.int x2), D)) else (cI (S_X13_hard x3 D) (fun r9 D8 => (if r9 = x1 then (cI (S_X13_vein x3 D8) (fun r12 D11 => some (.inl (2, [x1, x2, x3, (0 : Int32)], D11)))) else some (.inl (1, [x1, x2, (x3 + (1 : Int32))], D8))))))
def b_X13_veinCount_2 (x1 : Int32) (x2 : Int32) (x3 : Int32) (x5 : Int32) (D : DD) : Option ((Nat × List Int32 × DD) ⊕ RT) := (if inB x5 36 = true then (if ((D.2.2.1 74) x5.toNatClampNeg) = 0 then some (.inl (2, [x1, x2, x3, (x5 + (1 : Int32))], D)) else (if x5 = x3 then some (.inl (1, [x1, (x2 + (1 : Int32)), (x3 + (1 : Int32))], D)) else some (.inl (1, [x1, (x2 + (0 : Int32)), (x3 + (1 : Int32))], D)))) else none)
def T_X13_veinCount (k : Nat) (ls : List Int32) (D : DD) : Option ((Nat × List Int32 × DD) ⊕ RT) := match k, ls with
  | 0, [a0] => b_X13_veinCount_0 a0 D
  | 1, [x1, x2, x3] => b_X13_veinCount_1 x1 x2 x3 D
  | 2, [x1, x2, x3, x5] => b_X13_veinCount_2 x1 x2 x3 x5 D
  | _, _ => none
def S_X13_veinCount (a0 : Int32) (D : DD) : Option RT := run T_X13_veinCount FUEL 0 [a0] D
def hg_X13_veinCount (p : Program) (l : Launch) (e : Env) (s : State) (m : MethodId) (args : Array Value) (below : List Frame) (meth : Method) (c : Code) (G : va_G) (E : EE) (r : RT) (k : Nat) (ls : List Int32) (D : DD) : Prop := match k, ls with
  | 0, [a0] => GW p l e (rmm 2) s m args below meth c G E 6 (MQ below (QR G E s.heap.size r) args s 0 0 (fr E s.heap.size)) 0 0 D 0 [(0, .ref (E.1 84)), (1, .int a0)] []
  | 1, [x1, x2, x3] => GW p l e (rmm 2) s m args below meth c G E 6 (MQ below (QR G E s.heap.size r) args s 0 0 (fr E s.heap.size)) 0 0 D 32 [(0, .ref (E.1 84)), (1, .int x1), (2, .int x2), (3, .int x3)] []
  | 2, [x1, x2, x3, x5] => GW p l e (rmm 2) s m args below meth c G E 6 (MQ below (QR G E s.heap.size r) args s 0 0 (fr E s.heap.size)) 0 0 D 60 [(0, .ref (E.1 84)), (1, .int x1), (2, .int x2), (3, .int x3), (5, .int x5)] []
  | _, _ => True
set_option maxRecDepth 100000 in
set_option maxHeartbeats 4000000 in
theorem bl_X13_veinCount_0 {p : Program} {l : Launch} {e : Env} {s : State} {m : MethodId} {args : Array Value} {below : List Frame} {meth : Method} {c : Code} {G : va_G} {E : EE} {r : RT} (X : CX p s m args meth c cX13_veinCount RX13 6 G E) (hr : meth.sig.returnType = (some .int)) (a0 : Int32) (D : DD) (o : (Nat × List Int32 × DD) ⊕ RT) (h : b_X13_veinCount_0 a0 D = some o) (h1 : ∀ x, o = .inl x → hg_X13_veinCount p l e s m args below meth c G E r x.1 x.2.1 x.2.2) (h2 : ∀ x, o = .inr x → x = r) : GW p l e (rmm 2) s m args below meth c G E 6 (MQ below (QR G E s.heap.size r) args s 0 0 (fr E s.heap.size)) 0 0 D 0 [(0, .ref (E.1 84)), (1, .int a0)] [] := by
  unfold b_X13_veinCount_0 at h
  refine g_aload_n X 0 (i0 := 0) dX13_veinCount_0 rfl rfl ?_
  refine g_iload_n X 1 (i0 := 1) dX13_veinCount_1 rfl rfl ?_
  refine g_iconst X (v := (1 : Int32)) dX13_veinCount_2 (by decide) ?_
  refine g_bipush X (v := (9 : Int32)) dX13_veinCount_3 (by decide) ?_
  obtain ⟨r3, D2, e1, h⟩ := cI_s h
  refine g_S X (As := [.int a0, .int (1 : Int32), .int (9 : Int32)]) (rest := [.ref (E.1 84)]) (c_X13_isIn l G E a0 (1 : Int32) (9 : Int32) _ _ e1) ks_X13_69 ⟨rfl, rfl⟩ hd_X13_isIn (⟨Nat.le_of_ble_eq_true rfl, Nat.le_of_ble_eq_true rfl⟩) rfl rfl (Nat.le_of_ble_eq_true rfl) dX13_veinCount_5 ?_
  refine g_if_eq X (tgt := 15) dX13_veinCount_8 (by decide) (fun c6 => ?_) (fun c6 => ?_)
  · have h := (ite_s h).1 c6
    refine g_iconst X (v := (1 : Int32)) dX13_veinCount_15 (by decide) ?_
    refine g_put X (D := D2) (v := .int (1 : Int32)) (T := TX13) (D' := (setI D2 140 (1 : Int32))) 84 uX13 tyX13 tyX13_ok nmX13 (wg_84 E _) rfl 0 (by decide) fl_X13_59 rfl rfl rfl rfl (Nat.le_of_ble_eq_true rfl) (ws_I_140 E _ _) dX13_veinCount_16 ?_
    refine g_aload_n X 0 (i0 := 0) dX13_veinCount_19 rfl rfl ?_
    refine g_get X (D := (setI D2 140 (1 : Int32))) (v := .int (1 : Int32)) (T := TX13) 84 uX13 (wg_84 E _) rfl 0 (by decide) fl_X13_59 rfl rfl dX13_veinCount_20 ?_
    refine g_if_eq X (tgt := 28) dX13_veinCount_23 (by decide) (fun c4 => ?_) (fun c4 => ?_)
    · have h := (ite_s h).1 c4
      refine g_iconst X (v := (0 : Int32)) dX13_veinCount_28 (by decide) ?_
      refine g_istore_n X (i0 := 2) (lv' := [(2, .int (0 : Int32)), (0, .ref (E.1 84)), (1, .int a0)]) dX13_veinCount_29 rfl (by decide) rfl ?_
      refine g_iconst X (v := (0 : Int32)) dX13_veinCount_30 (by decide) ?_
      refine g_istore_n X (i0 := 3) (lv' := [(3, .int (0 : Int32)), (2, .int (0 : Int32)), (0, .ref (E.1 84)), (1, .int a0)]) dX13_veinCount_31 rfl (by decide) rfl ?_
      refine g_sub (lv' := [(0, .ref (E.1 84)), (1, .int a0), (2, .int (0 : Int32)), (3, .int (0 : Int32))]) [2, 3, 1, 0] rfl ?_
      exact h1 _ (Option.some.inj h).symm
    · have h := (ite_s h).2 c4
      refine g_iconst X (v := (0 : Int32)) dX13_veinCount_26 (by decide) ?_
      exact g_iret X hr rfl dX13_veinCount_27 (h2 _ (Option.some.inj h).symm)
  · have h := (ite_s h).2 c6
    refine g_iconst X (v := (0 : Int32)) dX13_veinCount_11 (by decide) ?_
    refine g_goto X (tgt := 16) dX13_veinCount_12 (by decide) ?_
    refine g_put X (D := D2) (v := .int (0 : Int32)) (T := TX13) (D' := (setI D2 140 (0 : Int32))) 84 uX13 tyX13 tyX13_ok nmX13 (wg_84 E _) rfl 0 (by decide) fl_X13_59 rfl rfl rfl rfl (Nat.le_of_ble_eq_true rfl) (ws_I_140 E _ _) dX13_veinCount_16 ?_
    refine g_aload_n X 0 (i0 := 0) dX13_veinCount_19 rfl rfl ?_
    refine g_get X (D := (setI D2 140 (0 : Int32))) (v := .int (0 : Int32)) (T := TX13) 84 uX13 (wg_84 E _) rfl 0 (by decide) fl_X13_59 rfl rfl dX13_veinCount_20 ?_
    refine g_if_eq X (tgt := 28) dX13_veinCount_23 (by decide) (fun c5 => ?_) (fun c5 => ?_)
    · have h := (ite_s h).1 c5
      refine g_iconst X (v := (0 : Int32)) dX13_veinCount_28 (by decide) ?_
      refine g_istore_n X (i0 := 2) (lv' := [(2, .int (0 : Int32)), (0, .ref (E.1 84)), (1, .int a0)]) dX13_veinCount_29 rfl (by decide) rfl ?_
      refine g_iconst X (v := (0 : Int32)) dX13_veinCount_30 (by decide) ?_
      refine g_istore_n X (i0 := 3) (lv' := [(3, .int (0 : Int32)), (2, .int (0 : Int32)), (0, .ref (E.1 84)), (1, .int a0)]) dX13_veinCount_31 rfl (by decide) rfl ?_
      refine g_sub (lv' := [(0, .ref (E.1 84)), (1, .int a0), (2, .int (0 : Int32)), (3, .int (0 : Int32))]) [2, 3, 1, 0] rfl ?_
      exact h1 _ (Option.some.inj h).symm
    · have h := (ite_s h).2 c5
      refine g_iconst X (v := (0 : Int32)) dX13_veinCount_26 (by decide) ?_
      exact g_iret X hr rfl dX13_veinCount_27 (h2 _ (Option.some.inj h).symm)
set_option maxRecDepth 100000 in
set_option maxHeartbeats 4000000 in
theorem bl_X13_veinCount_1 {p : Program} {l : Launch} {e : Env} {s : State} {m : MethodId} {args : Array Value} {below : List Frame} {meth : Method} {c : Code} {G : va_G} {E : EE} {r : RT} (X : CX p s m args meth c cX13_veinCount RX13 6 G E) (hr : meth.sig.returnType = (some .int)) (x1 : Int32) (x2 : Int32) (x3 : Int32) (D : DD) (o : (Nat × List Int32 × DD) ⊕ RT) (h : b_X13_veinCount_1 x1 x2 x3 D = some o) (h1 : ∀ x, o = .inl x → hg_X13_veinCount p l e s m args below meth c G E r x.1 x.2.1 x.2.2) (h2 : ∀ x, o = .inr x → x = r) : GW p l e (rmm 2) s m args below meth c G E 6 (MQ below (QR G E s.heap.size r) args s 0 0 (fr E s.heap.size)) 0 0 D 32 [(0, .ref (E.1 84)), (1, .int x1), (2, .int x2), (3, .int x3)] [] := by
  unfold b_X13_veinCount_1 at h
  refine g_iload_n X 3 (i0 := 3) dX13_veinCount_32 rfl rfl ?_
  refine g_bipush X (v := (36 : Int32)) dX13_veinCount_33 (by decide) ?_
  refine g_icmp_ge X (tgt := 96) dX13_veinCount_35 (by decide) (fun c14 => ?_) (fun c14 => ?_)
  · have h := (ite_s h).1 c14
    refine g_iload_n X 2 (i0 := 2) dX13_veinCount_96 rfl rfl ?_
    exact g_iret X hr rfl dX13_veinCount_97 (h2 _ (Option.some.inj h).symm)
  · have h := (ite_s h).2 c14
    refine g_aload_n X 0 (i0 := 0) dX13_veinCount_38 rfl rfl ?_
    refine g_iload_n X 3 (i0 := 3) dX13_veinCount_39 rfl rfl ?_
    obtain ⟨r9, D8, e7, h⟩ := cI_s h
    refine g_V X (As := [.int x3]) (rest := []) (c_X13_hard l G E x3 _ _ e7) 84 (wg_84 E _) rfl rfl kv_X13_88 ⟨rfl, rfl⟩ ⟨rfl, hd_X13_hard⟩ (⟨Nat.le_of_ble_eq_true rfl, Nat.le_of_ble_eq_true rfl⟩) rfl rfl (Nat.le_of_ble_eq_true rfl) dX13_veinCount_40 ?_
    refine g_iload_n X 1 (i0 := 1) dX13_veinCount_43 rfl rfl ?_
    refine g_icmp_eq X (tgt := 50) dX13_veinCount_44 (by decide) (fun c13 => ?_) (fun c13 => ?_)
    · have h := (ite_s h).1 c13
      refine g_aload_n X 0 (i0 := 0) dX13_veinCount_50 rfl rfl ?_
      refine g_iload_n X 3 (i0 := 3) dX13_veinCount_51 rfl rfl ?_
      obtain ⟨r12, D11, e10, h⟩ := cI_s h
      refine g_V X (As := [.int x3]) (rest := []) (c_X13_vein l G E x3 _ _ e10) 84 (wg_84 E _) rfl rfl kv_X13_118 ⟨rfl, rfl⟩ ⟨rfl, hd_X13_vein⟩ (⟨Nat.le_of_ble_eq_true rfl, Nat.le_of_ble_eq_true rfl⟩) rfl rfl (Nat.le_of_ble_eq_true rfl) dX13_veinCount_52 ?_
      refine g_istore X (lv' := [(4, .int r12), (0, .ref (E.1 84)), (1, .int x1), (2, .int x2), (3, .int x3)]) dX13_veinCount_55 (by decide) rfl ?_
      refine g_iconst X (v := (0 : Int32)) dX13_veinCount_57 (by decide) ?_
      refine g_istore X (lv' := [(5, .int (0 : Int32)), (4, .int r12), (0, .ref (E.1 84)), (1, .int x1), (2, .int x2), (3, .int x3)]) dX13_veinCount_58 (by decide) rfl ?_
      refine g_sub (lv' := [(0, .ref (E.1 84)), (1, .int x1), (2, .int x2), (3, .int x3), (5, .int (0 : Int32))]) [2, 3, 4, 5, 0] rfl ?_
      exact h1 _ (Option.some.inj h).symm
    · have h := (ite_s h).2 c13
      refine g_goto X (tgt := 90) dX13_veinCount_47 (by decide) ?_
      refine g_iinc X 3 (v := (x3 + (1 : Int32))) (lv' := [(3, .int (x3 + (1 : Int32))), (0, .ref (E.1 84)), (1, .int x1), (2, .int x2)]) dX13_veinCount_90 rfl rfl (by decide) rfl ?_
      refine g_goto X (tgt := 32) dX13_veinCount_93 (by decide) ?_
      refine g_sub (lv' := [(0, .ref (E.1 84)), (1, .int x1), (2, .int x2), (3, .int (x3 + (1 : Int32)))]) [1, 2, 3, 0] rfl ?_
      exact h1 _ (Option.some.inj h).symm
set_option maxRecDepth 100000 in
set_option maxHeartbeats 4000000 in
theorem bl_X13_veinCount_2 {p : Program} {l : Launch} {e : Env} {s : State} {m : MethodId} {args : Array Value} {below : List Frame} {meth : Method} {c : Code} {G : va_G} {E : EE} {r : RT} (X : CX p s m args meth c cX13_veinCount RX13 6 G E) (hr : meth.sig.returnType = (some .int)) (x1 : Int32) (x2 : Int32) (x3 : Int32) (x5 : Int32) (D : DD) (o : (Nat × List Int32 × DD) ⊕ RT) (h : b_X13_veinCount_2 x1 x2 x3 x5 D = some o) (h1 : ∀ x, o = .inl x → hg_X13_veinCount p l e s m args below meth c G E r x.1 x.2.1 x.2.2) (h2 : ∀ x, o = .inr x → x = r) : GW p l e (rmm 2) s m args below meth c G E 6 (MQ below (QR G E s.heap.size r) args s 0 0 (fr E s.heap.size)) 0 0 D 60 [(0, .ref (E.1 84)), (1, .int x1), (2, .int x2), (3, .int x3), (5, .int x5)] [] := by
  unfold b_X13_veinCount_2 at h
  refine g_aload_n X 0 (i0 := 0) dX13_veinCount_60 rfl rfl ?_
  refine g_get X (D := D) (v := .ref (E.1 89)) (T := TX13) 84 uX13 (wg_84 E _) rfl 9 (by decide) fl_X13_29 rfl rfl dX13_veinCount_61 ?_
  refine g_iload X 4 dX13_veinCount_64 rfl ?_
  obtain ⟨b15, h⟩ := chk_s h
  refine g_iald X (D := D) (f := (D.2.2.1 74)) (i := x5) 89 (wg_89 E _) (inB_vp b15) dX13_veinCount_66 ?_
  refine g_if_ne X (tgt := 76) dX13_veinCount_67 (by decide) (fun c17 => ?_) (fun c17 => ?_)
  · have h := (ite_s h).2 c17
    refine g_iload_n X 2 (i0 := 2) dX13_veinCount_76 rfl rfl ?_
    refine g_iload X 4 dX13_veinCount_77 rfl ?_
    refine g_iload_n X 3 (i0 := 3) dX13_veinCount_79 rfl rfl ?_
    refine g_icmp_ne X (tgt := 87) dX13_veinCount_80 (by decide) (fun c16 => ?_) (fun c16 => ?_)
    · have h := (ite_s h).2 c16
      refine g_iconst X (v := (0 : Int32)) dX13_veinCount_87 (by decide) ?_
      refine g_iadd X dX13_veinCount_88 ?_
      refine g_istore_n X (i0 := 2) (lv' := [(2, .int (x2 + (0 : Int32))), (0, .ref (E.1 84)), (1, .int x1), (3, .int x3), (5, .int x5)]) dX13_veinCount_89 rfl (by decide) rfl ?_
      refine g_iinc X 3 (v := (x3 + (1 : Int32))) (lv' := [(3, .int (x3 + (1 : Int32))), (2, .int (x2 + (0 : Int32))), (0, .ref (E.1 84)), (1, .int x1), (5, .int x5)]) dX13_veinCount_90 rfl rfl (by decide) rfl ?_
      refine g_goto X (tgt := 32) dX13_veinCount_93 (by decide) ?_
      refine g_sub (lv' := [(0, .ref (E.1 84)), (1, .int x1), (2, .int (x2 + (0 : Int32))), (3, .int (x3 + (1 : Int32)))]) [2, 3, 1, 0] rfl ?_
      exact h1 _ (Option.some.inj h).symm
    · have h := (ite_s h).1 c16
      refine g_iconst X (v := (1 : Int32)) dX13_veinCount_83 (by decide) ?_
      refine g_goto X (tgt := 88) dX13_veinCount_84 (by decide) ?_
      refine g_iadd X dX13_veinCount_88 ?_
      refine g_istore_n X (i0 := 2) (lv' := [(2, .int (x2 + (1 : Int32))), (0, .ref (E.1 84)), (1, .int x1), (3, .int x3), (5, .int x5)]) dX13_veinCount_89 rfl (by decide) rfl ?_
      refine g_iinc X 3 (v := (x3 + (1 : Int32))) (lv' := [(3, .int (x3 + (1 : Int32))), (2, .int (x2 + (1 : Int32))), (0, .ref (E.1 84)), (1, .int x1), (5, .int x5)]) dX13_veinCount_90 rfl rfl (by decide) rfl ?_
      refine g_goto X (tgt := 32) dX13_veinCount_93 (by decide) ?_
      refine g_sub (lv' := [(0, .ref (E.1 84)), (1, .int x1), (2, .int (x2 + (1 : Int32))), (3, .int (x3 + (1 : Int32)))]) [2, 3, 1, 0] rfl ?_
      exact h1 _ (Option.some.inj h).symm
  · have h := (ite_s h).1 c17
    refine g_iinc X 4 (v := (x5 + (1 : Int32))) (lv' := [(5, .int (x5 + (1 : Int32))), (0, .ref (E.1 84)), (1, .int x1), (2, .int x2), (3, .int x3)]) dX13_veinCount_70 rfl rfl (by decide) rfl ?_
    refine g_goto X (tgt := 60) dX13_veinCount_73 (by decide) ?_
    refine g_sub (lv' := [(0, .ref (E.1 84)), (1, .int x1), (2, .int x2), (3, .int x3), (5, .int (x5 + (1 : Int32)))]) [1, 2, 3, 4, 0] rfl ?_
    exact h1 _ (Option.some.inj h).symm
set_option maxRecDepth 100000 in
set_option maxHeartbeats 4000000 in
theorem c_X13_veinCount (l : Launch) (G : va_G) (E : EE) (a0 : Int32) (D : DD) (r : RT) (h : S_X13_veinCount a0 D = some r) : MM l G E yX13_veinCount cX13_veinCount 6 (some .int) (rmm 2) [.ref (E.1 84), .int a0] D r := by
  unfold S_X13_veinCount at h
  refine m_of rfl (Nat.le_of_ble_eq_true rfl) ?_
  intro p e s m args below meth c X hr
  exact run_G (T := T_X13_veinCount) (HG := hg_X13_veinCount p l e s m args below meth c G E r) (by
    intro k ls D o hT h1 h2
    unfold T_X13_veinCount at hT
    split at hT
    · exact bl_X13_veinCount_0 X hr _ D o hT h1 h2
    · exact bl_X13_veinCount_1 X hr _ _ _ D o hT h1 h2
    · exact bl_X13_veinCount_2 X hr _ _ _ _ D o hT h1 h2
    · cases hT) FUEL 0 [a0] D h
def S_X13_veinSize (a0 : Int32) (a1 : Int32) (D : DD) : Option RT := (cI (S_X13_isCell a0 a1 D) (fun r3 D2 => (if r3 = 0 then (if (1 : Int32) = 0 then (cI (S_X13_cell a0 a1 (setI D2 140 (1 : Int32))) (fun r27 D26 => (cI (S_X13_vein r27 D26) (fun r30 D29 => some (0, some (.int r30), D29))))) else some (0, some (.int (0 : Int32)), (setI D2 140 (1 : Int32)))) else (cI (S_X13_cell a0 a1 D2) (fun r6 D5 => (cI (S_X13_hard r6 D5) (fun r9 D8 => (if r9 = 0 then (if (2 : Int32) = 0 then (cI (S_X13_cell a0 a1 (setI D8 140 (2 : Int32))) (fun r19 D18 => (cI (S_X13_vein r19 D18) (fun r22 D21 => some (0, some (.int r22), D21))))) else some (0, some (.int (0 : Int32)), (setI D8 140 (2 : Int32)))) else (if (0 : Int32) = 0 then (cI (S_X13_cell a0 a1 (setI D8 140 (0 : Int32))) (fun r12 D11 => (cI (S_X13_vein r12 D11) (fun r15 D14 => some (0, some (.int r15), D14))))) else some (0, some (.int (0 : Int32)), (setI D8 140 (0 : Int32))))))))))))
set_option maxRecDepth 100000 in
set_option maxHeartbeats 4000000 in
theorem c_X13_veinSize (l : Launch) (G : va_G) (E : EE) (a0 : Int32) (a1 : Int32) (D : DD) (r : RT) (h : S_X13_veinSize a0 a1 D = some r) : MM l G E yX13_veinSize cX13_veinSize 3 (some .int) (rmm 2) [.ref (E.1 84), .int a0, .int a1] D r := by
  refine m_of rfl (Nat.le_of_ble_eq_true rfl) ?_
  intro p e s m args below meth c X hr
  unfold S_X13_veinSize at h
  refine g_aload_n X 0 (i0 := 0) dX13_veinSize_0 rfl rfl ?_
  refine g_iload_n X 1 (i0 := 1) dX13_veinSize_1 rfl rfl ?_
  refine g_iload_n X 2 (i0 := 2) dX13_veinSize_2 rfl rfl ?_
  obtain ⟨r3, D2, e1, h⟩ := cI_s h
  refine g_S X (As := [.int a0, .int a1]) (rest := [.ref (E.1 84)]) (c_X13_isCell l G E a0 a1 _ _ e1) ks_X13_77 ⟨rfl, rfl⟩ hd_X13_isCell (⟨Nat.le_of_ble_eq_true rfl, Nat.le_of_ble_eq_true rfl⟩) rfl rfl (Nat.le_of_ble_eq_true rfl) dX13_veinSize_3 ?_
  refine g_if_ne X (tgt := 13) dX13_veinSize_6 (by decide) (fun c32 => ?_) (fun c32 => ?_)
  · have h := (ite_s h).2 c32
    refine g_aload_n X 0 (i0 := 0) dX13_veinSize_13 rfl rfl ?_
    refine g_iload_n X 1 (i0 := 1) dX13_veinSize_14 rfl rfl ?_
    refine g_iload_n X 2 (i0 := 2) dX13_veinSize_15 rfl rfl ?_
    obtain ⟨r6, D5, e4, h⟩ := cI_s h
    refine g_S X (As := [.int a0, .int a1]) (rest := [.ref (E.1 84), .ref (E.1 84)]) (c_X13_cell l G E a0 a1 _ _ e4) ks_X13_84 ⟨rfl, rfl⟩ hd_X13_cell (⟨Nat.le_of_ble_eq_true rfl, Nat.le_of_ble_eq_true rfl⟩) rfl rfl (Nat.le_of_ble_eq_true rfl) dX13_veinSize_16 ?_
    obtain ⟨r9, D8, e7, h⟩ := cI_s h
    refine g_V X (As := [.int r6]) (rest := [.ref (E.1 84)]) (c_X13_hard l G E r6 _ _ e7) 84 (wg_84 E _) rfl rfl kv_X13_88 ⟨rfl, rfl⟩ ⟨rfl, hd_X13_hard⟩ (⟨Nat.le_of_ble_eq_true rfl, Nat.le_of_ble_eq_true rfl⟩) rfl rfl (Nat.le_of_ble_eq_true rfl) dX13_veinSize_19 ?_
    refine g_if_ne X (tgt := 29) dX13_veinSize_22 (by decide) (fun c24 => ?_) (fun c24 => ?_)
    · have h := (ite_s h).2 c24
      refine g_iconst X (v := (0 : Int32)) dX13_veinSize_29 (by decide) ?_
      refine g_put X (D := D8) (v := .int (0 : Int32)) (T := TX13) (D' := (setI D8 140 (0 : Int32))) 84 uX13 tyX13 tyX13_ok nmX13 (wg_84 E _) rfl 0 (by decide) fl_X13_59 rfl rfl rfl rfl (Nat.le_of_ble_eq_true rfl) (ws_I_140 E _ _) dX13_veinSize_30 ?_
      refine g_aload_n X 0 (i0 := 0) dX13_veinSize_33 rfl rfl ?_
      refine g_get X (D := (setI D8 140 (0 : Int32))) (v := .int (0 : Int32)) (T := TX13) 84 uX13 (wg_84 E _) rfl 0 (by decide) fl_X13_59 rfl rfl dX13_veinSize_34 ?_
      refine g_if_ne X (tgt := 52) dX13_veinSize_37 (by decide) (fun c16 => ?_) (fun c16 => ?_)
      · have h := (ite_s h).2 c16
        refine g_iconst X (v := (0 : Int32)) dX13_veinSize_52 (by decide) ?_
        exact g_iret X hr rfl dX13_veinSize_53 (Option.some.inj h)
      · have h := (ite_s h).1 c16
        refine g_aload_n X 0 (i0 := 0) dX13_veinSize_40 rfl rfl ?_
        refine g_iload_n X 1 (i0 := 1) dX13_veinSize_41 rfl rfl ?_
        refine g_iload_n X 2 (i0 := 2) dX13_veinSize_42 rfl rfl ?_
        obtain ⟨r12, D11, e10, h⟩ := cI_s h
        refine g_S X (As := [.int a0, .int a1]) (rest := [.ref (E.1 84)]) (c_X13_cell l G E a0 a1 _ _ e10) ks_X13_84 ⟨rfl, rfl⟩ hd_X13_cell (⟨Nat.le_of_ble_eq_true rfl, Nat.le_of_ble_eq_true rfl⟩) rfl rfl (Nat.le_of_ble_eq_true rfl) dX13_veinSize_43 ?_
        obtain ⟨r15, D14, e13, h⟩ := cI_s h
        refine g_V X (As := [.int r12]) (rest := []) (c_X13_vein l G E r12 _ _ e13) 84 (wg_84 E _) rfl rfl kv_X13_118 ⟨rfl, rfl⟩ ⟨rfl, hd_X13_vein⟩ (⟨Nat.le_of_ble_eq_true rfl, Nat.le_of_ble_eq_true rfl⟩) rfl rfl (Nat.le_of_ble_eq_true rfl) dX13_veinSize_46 ?_
        refine g_goto X (tgt := 53) dX13_veinSize_49 (by decide) ?_
        exact g_iret X hr rfl dX13_veinSize_53 (Option.some.inj h)
    · have h := (ite_s h).1 c24
      refine g_iconst X (v := (2 : Int32)) dX13_veinSize_25 (by decide) ?_
      refine g_goto X (tgt := 30) dX13_veinSize_26 (by decide) ?_
      refine g_put X (D := D8) (v := .int (2 : Int32)) (T := TX13) (D' := (setI D8 140 (2 : Int32))) 84 uX13 tyX13 tyX13_ok nmX13 (wg_84 E _) rfl 0 (by decide) fl_X13_59 rfl rfl rfl rfl (Nat.le_of_ble_eq_true rfl) (ws_I_140 E _ _) dX13_veinSize_30 ?_
      refine g_aload_n X 0 (i0 := 0) dX13_veinSize_33 rfl rfl ?_
      refine g_get X (D := (setI D8 140 (2 : Int32))) (v := .int (2 : Int32)) (T := TX13) 84 uX13 (wg_84 E _) rfl 0 (by decide) fl_X13_59 rfl rfl dX13_veinSize_34 ?_
      refine g_if_ne X (tgt := 52) dX13_veinSize_37 (by decide) (fun c23 => ?_) (fun c23 => ?_)
      · have h := (ite_s h).2 c23
        refine g_iconst X (v := (0 : Int32)) dX13_veinSize_52 (by decide) ?_
        exact g_iret X hr rfl dX13_veinSize_53 (Option.some.inj h)
      · have h := (ite_s h).1 c23
        refine g_aload_n X 0 (i0 := 0) dX13_veinSize_40 rfl rfl ?_
        refine g_iload_n X 1 (i0 := 1) dX13_veinSize_41 rfl rfl ?_
        refine g_iload_n X 2 (i0 := 2) dX13_veinSize_42 rfl rfl ?_
        obtain ⟨r19, D18, e17, h⟩ := cI_s h
        refine g_S X (As := [.int a0, .int a1]) (rest := [.ref (E.1 84)]) (c_X13_cell l G E a0 a1 _ _ e17) ks_X13_84 ⟨rfl, rfl⟩ hd_X13_cell (⟨Nat.le_of_ble_eq_true rfl, Nat.le_of_ble_eq_true rfl⟩) rfl rfl (Nat.le_of_ble_eq_true rfl) dX13_veinSize_43 ?_
        obtain ⟨r22, D21, e20, h⟩ := cI_s h
        refine g_V X (As := [.int r19]) (rest := []) (c_X13_vein l G E r19 _ _ e20) 84 (wg_84 E _) rfl rfl kv_X13_118 ⟨rfl, rfl⟩ ⟨rfl, hd_X13_vein⟩ (⟨Nat.le_of_ble_eq_true rfl, Nat.le_of_ble_eq_true rfl⟩) rfl rfl (Nat.le_of_ble_eq_true rfl) dX13_veinSize_46 ?_
        refine g_goto X (tgt := 53) dX13_veinSize_49 (by decide) ?_
        exact g_iret X hr rfl dX13_veinSize_53 (Option.some.inj h)
  · have h := (ite_s h).1 c32
    refine g_iconst X (v := (1 : Int32)) dX13_veinSize_9 (by decide) ?_
    refine g_goto X (tgt := 30) dX13_veinSize_10 (by decide) ?_
    refine g_put X (D := D2) (v := .int (1 : Int32)) (T := TX13) (D' := (setI D2 140 (1 : Int32))) 84 uX13 tyX13 tyX13_ok nmX13 (wg_84 E _) rfl 0 (by decide) fl_X13_59 rfl rfl rfl rfl (Nat.le_of_ble_eq_true rfl) (ws_I_140 E _ _) dX13_veinSize_30 ?_
    refine g_aload_n X 0 (i0 := 0) dX13_veinSize_33 rfl rfl ?_
    refine g_get X (D := (setI D2 140 (1 : Int32))) (v := .int (1 : Int32)) (T := TX13) 84 uX13 (wg_84 E _) rfl 0 (by decide) fl_X13_59 rfl rfl dX13_veinSize_34 ?_
    refine g_if_ne X (tgt := 52) dX13_veinSize_37 (by decide) (fun c31 => ?_) (fun c31 => ?_)
    · have h := (ite_s h).2 c31
      refine g_iconst X (v := (0 : Int32)) dX13_veinSize_52 (by decide) ?_
      exact g_iret X hr rfl dX13_veinSize_53 (Option.some.inj h)
    · have h := (ite_s h).1 c31
      refine g_aload_n X 0 (i0 := 0) dX13_veinSize_40 rfl rfl ?_
      refine g_iload_n X 1 (i0 := 1) dX13_veinSize_41 rfl rfl ?_
      refine g_iload_n X 2 (i0 := 2) dX13_veinSize_42 rfl rfl ?_
      obtain ⟨r27, D26, e25, h⟩ := cI_s h
      refine g_S X (As := [.int a0, .int a1]) (rest := [.ref (E.1 84)]) (c_X13_cell l G E a0 a1 _ _ e25) ks_X13_84 ⟨rfl, rfl⟩ hd_X13_cell (⟨Nat.le_of_ble_eq_true rfl, Nat.le_of_ble_eq_true rfl⟩) rfl rfl (Nat.le_of_ble_eq_true rfl) dX13_veinSize_43 ?_
      obtain ⟨r30, D29, e28, h⟩ := cI_s h
      refine g_V X (As := [.int r27]) (rest := []) (c_X13_vein l G E r27 _ _ e28) 84 (wg_84 E _) rfl rfl kv_X13_118 ⟨rfl, rfl⟩ ⟨rfl, hd_X13_vein⟩ (⟨Nat.le_of_ble_eq_true rfl, Nat.le_of_ble_eq_true rfl⟩) rfl rfl (Nat.le_of_ble_eq_true rfl) dX13_veinSize_46 ?_
      refine g_goto X (tgt := 53) dX13_veinSize_49 (by decide) ?_
      exact g_iret X hr rfl dX13_veinSize_53 (Option.some.inj h)
def S_X13_charges (a0 : Int32) (a1 : Int32) (a2 : Int32) (D : DD) : Option RT := (cI (S_X13_isCell a0 a1 D) (fun r3 D2 => (if r3 = 0 then (cI (S_X13_fail (1 : Int32) D2) (fun r6 D5 => some (0, some (.int r6), D5))) else (cI (S_X13_isIn a2 (1 : Int32) (9 : Int32) D2) (fun r9 D8 => (if r9 = 0 then (cI (S_X13_fail (1 : Int32) D8) (fun r35 D34 => some (0, some (.int r35), D34))) else (cI (S_X13_cell a0 a1 D8) (fun r12 D11 => (if ((D8.2.2.1 70) (3 : Int32).toNatClampNeg) = (6 : Int32) then (cI (S_X13_fail (2 : Int32) D11) (fun r15 D14 => some (0, some (.int r15), D14))) else (cI (S_X13_hard r12 D11) (fun r18 D17 => (if r18 = 0 then (cI (S_X13_fail (2 : Int32) D17) (fun r21 D20 => some (0, some (.int r21), D20))) else (cI (S_X13_chargeIn r12 D17) (fun r24 D23 => (if r24 < 0 then (if inB ((40 : Int32) + ((2 : Int32) * ((D8.2.2.1 70) (3 : Int32).toNatClampNeg))) 62 = true then (if inB (((40 : Int32) + ((2 : Int32) * ((D8.2.2.1 70) (3 : Int32).toNatClampNeg))) + (1 : Int32)) 62 = true then some (0, some (.int ((D8.2.2.1 70) (3 : Int32).toNatClampNeg)), (setA (setA (setA D23 70 (upd (D23.2.2.1 70) ((40 : Int32) + ((2 : Int32) * ((D8.2.2.1 70) (3 : Int32).toNatClampNeg))).toNatClampNeg r12)) 70 (upd (upd (D23.2.2.1 70) ((40 : Int32) + ((2 : Int32) * ((D8.2.2.1 70) (3 : Int32).toNatClampNeg))).toNatClampNeg r12) (((40 : Int32) + ((2 : Int32) * ((D8.2.2.1 70) (3 : Int32).toNatClampNeg))) + (1 : Int32)).toNatClampNeg a2)) 70 (upd (upd (upd (D23.2.2.1 70) ((40 : Int32) + ((2 : Int32) * ((D8.2.2.1 70) (3 : Int32).toNatClampNeg))).toNatClampNeg r12) (((40 : Int32) + ((2 : Int32) * ((D8.2.2.1 70) (3 : Int32).toNatClampNeg))) + (1 : Int32)).toNatClampNeg a2) (3 : Int32).toNatClampNeg (((upd (upd (D23.2.2.1 70) ((40 : Int32) + ((2 : Int32) * ((D8.2.2.1 70) (3 : Int32).toNatClampNeg))).toNatClampNeg r12) (((40 : Int32) + ((2 : Int32) * ((D8.2.2.1 70) (3 : Int32).toNatClampNeg))) + (1 : Int32)).toNatClampNeg a2) (3 : Int32).toNatClampNeg) + (1 : Int32))))) else none) else none) else (cI (S_X13_fail (2 : Int32) D23) (fun r29 D28 => some (0, some (.int r29), D28))))))))))))))))))
set_option maxRecDepth 100000 in
set_option maxHeartbeats 4000000 in
theorem c_X13_charges (l : Launch) (G : va_G) (E : EE) (a0 : Int32) (a1 : Int32) (a2 : Int32) (D : DD) (r : RT) (h : S_X13_charges a0 a1 a2 D = some r) : MM l G E yX13_charges cX13_charges 6 (some .int) (rmm 2) [.ref (E.1 84), .int a0, .int a1, .int a2] D r := by
  refine m_of rfl (Nat.le_of_ble_eq_true rfl) ?_
  intro p e s m args below meth c X hr
  unfold S_X13_charges at h
  refine g_iload_n X 1 (i0 := 1) dX13_charges_0 rfl rfl ?_
  refine g_iload_n X 2 (i0 := 2) dX13_charges_1 rfl rfl ?_
  obtain ⟨r3, D2, e1, h⟩ := cI_s h
  refine g_S X (As := [.int a0, .int a1]) (rest := []) (c_X13_isCell l G E a0 a1 _ _ e1) ks_X13_77 ⟨rfl, rfl⟩ hd_X13_isCell (⟨Nat.le_of_ble_eq_true rfl, Nat.le_of_ble_eq_true rfl⟩) rfl rfl (Nat.le_of_ble_eq_true rfl) dX13_charges_2 ?_
  refine g_if_eq X (tgt := 18) dX13_charges_5 (by decide) (fun c37 => ?_) (fun c37 => ?_)
  · have h := (ite_s h).1 c37
    refine g_aload_n X 0 (i0 := 0) dX13_charges_18 rfl rfl ?_
    refine g_iconst X (v := (1 : Int32)) dX13_charges_19 (by decide) ?_
    obtain ⟨r6, D5, e4, h⟩ := cI_s h
    refine g_V X (As := [.int (1 : Int32)]) (rest := []) (c_X13_fail l G E (1 : Int32) _ _ e4) 84 (wg_84 E _) rfl rfl kv_X13_81 ⟨rfl, rfl⟩ ⟨rfl, hd_X13_fail⟩ (⟨Nat.le_of_ble_eq_true rfl, Nat.le_of_ble_eq_true rfl⟩) rfl rfl (Nat.le_of_ble_eq_true rfl) dX13_charges_20 ?_
    exact g_iret X hr rfl dX13_charges_23 (Option.some.inj h)
  · have h := (ite_s h).2 c37
    refine g_iload_n X 3 (i0 := 3) dX13_charges_8 rfl rfl ?_
    refine g_iconst X (v := (1 : Int32)) dX13_charges_9 (by decide) ?_
    refine g_bipush X (v := (9 : Int32)) dX13_charges_10 (by decide) ?_
    obtain ⟨r9, D8, e7, h⟩ := cI_s h
    refine g_S X (As := [.int a2, .int (1 : Int32), .int (9 : Int32)]) (rest := []) (c_X13_isIn l G E a2 (1 : Int32) (9 : Int32) _ _ e7) ks_X13_69 ⟨rfl, rfl⟩ hd_X13_isIn (⟨Nat.le_of_ble_eq_true rfl, Nat.le_of_ble_eq_true rfl⟩) rfl rfl (Nat.le_of_ble_eq_true rfl) dX13_charges_12 ?_
    refine g_if_ne X (tgt := 24) dX13_charges_15 (by decide) (fun c36 => ?_) (fun c36 => ?_)
    · have h := (ite_s h).2 c36
      refine g_aload_n X 0 (i0 := 0) dX13_charges_24 rfl rfl ?_
      refine g_get X (D := D8) (v := .ref (E.1 85)) (T := TX13) 84 uX13 (wg_84 E _) rfl 5 (by decide) fl_X13_16 rfl rfl dX13_charges_25 ?_
      refine g_iconst X (v := (3 : Int32)) dX13_charges_28 (by decide) ?_
      refine g_iald X (D := D8) (f := (D8.2.2.1 70)) (i := (3 : Int32)) 85 (wg_85 E _) (inB_vp (by decide)) dX13_charges_29 ?_
      refine g_istore X (lv' := [(4, .int ((D8.2.2.1 70) (3 : Int32).toNatClampNeg)), (0, .ref (E.1 84)), (1, .int a0), (2, .int a1), (3, .int a2)]) dX13_charges_30 (by decide) rfl ?_
      refine g_iload_n X 2 (i0 := 1) dX13_charges_32 rfl rfl ?_
      refine g_iload_n X 3 (i0 := 2) dX13_charges_33 rfl rfl ?_
      obtain ⟨r12, D11, e10, h⟩ := cI_s h
      refine g_S X (As := [.int a0, .int a1]) (rest := []) (c_X13_cell l G E a0 a1 _ _ e10) ks_X13_84 ⟨rfl, rfl⟩ hd_X13_cell (⟨Nat.le_of_ble_eq_true rfl, Nat.le_of_ble_eq_true rfl⟩) rfl rfl (Nat.le_of_ble_eq_true rfl) dX13_charges_34 ?_
      refine g_istore X (lv' := [(5, .int r12), (4, .int ((D8.2.2.1 70) (3 : Int32).toNatClampNeg)), (0, .ref (E.1 84)), (1, .int a0), (2, .int a1), (3, .int a2)]) dX13_charges_37 (by decide) rfl ?_
      refine g_iload X 1 dX13_charges_39 rfl ?_
      refine g_bipush X (v := (6 : Int32)) dX13_charges_41 (by decide) ?_
      refine g_icmp_eq X (tgt := 64) dX13_charges_43 (by decide) (fun c32 => ?_) (fun c32 => ?_)
      · have h := (ite_s h).1 c32
        refine g_aload_n X 2 (i0 := 0) dX13_charges_64 rfl rfl ?_
        refine g_iconst X (v := (2 : Int32)) dX13_charges_65 (by decide) ?_
        obtain ⟨r15, D14, e13, h⟩ := cI_s h
        refine g_V X (As := [.int (2 : Int32)]) (rest := []) (c_X13_fail l G E (2 : Int32) _ _ e13) 84 (wg_84 E _) rfl rfl kv_X13_81 ⟨rfl, rfl⟩ ⟨rfl, hd_X13_fail⟩ (⟨Nat.le_of_ble_eq_true rfl, Nat.le_of_ble_eq_true rfl⟩) rfl rfl (Nat.le_of_ble_eq_true rfl) dX13_charges_66 ?_
        exact g_iret X hr rfl dX13_charges_69 (Option.some.inj h)
      · have h := (ite_s h).2 c32
        refine g_aload_n X 2 (i0 := 0) dX13_charges_46 rfl rfl ?_
        refine g_iload X 0 dX13_charges_47 rfl ?_
        obtain ⟨r18, D17, e16, h⟩ := cI_s h
        refine g_V X (As := [.int r12]) (rest := []) (c_X13_hard l G E r12 _ _ e16) 84 (wg_84 E _) rfl rfl kv_X13_88 ⟨rfl, rfl⟩ ⟨rfl, hd_X13_hard⟩ (⟨Nat.le_of_ble_eq_true rfl, Nat.le_of_ble_eq_true rfl⟩) rfl rfl (Nat.le_of_ble_eq_true rfl) dX13_charges_49 ?_
        refine g_if_eq X (tgt := 64) dX13_charges_52 (by decide) (fun c31 => ?_) (fun c31 => ?_)
        · have h := (ite_s h).1 c31
          refine g_aload_n X 2 (i0 := 0) dX13_charges_64 rfl rfl ?_
          refine g_iconst X (v := (2 : Int32)) dX13_charges_65 (by decide) ?_
          obtain ⟨r21, D20, e19, h⟩ := cI_s h
          refine g_V X (As := [.int (2 : Int32)]) (rest := []) (c_X13_fail l G E (2 : Int32) _ _ e19) 84 (wg_84 E _) rfl rfl kv_X13_81 ⟨rfl, rfl⟩ ⟨rfl, hd_X13_fail⟩ (⟨Nat.le_of_ble_eq_true rfl, Nat.le_of_ble_eq_true rfl⟩) rfl rfl (Nat.le_of_ble_eq_true rfl) dX13_charges_66 ?_
          exact g_iret X hr rfl dX13_charges_69 (Option.some.inj h)
        · have h := (ite_s h).2 c31
          refine g_aload_n X 2 (i0 := 0) dX13_charges_55 rfl rfl ?_
          refine g_iload X 0 dX13_charges_56 rfl ?_
          obtain ⟨r24, D23, e22, h⟩ := cI_s h
          refine g_V X (As := [.int r12]) (rest := []) (c_X13_chargeIn l G E r12 _ _ e22) 84 (wg_84 E _) rfl rfl kv_X13_104 ⟨rfl, rfl⟩ ⟨rfl, hd_X13_chargeIn⟩ (⟨Nat.le_of_ble_eq_true rfl, Nat.le_of_ble_eq_true rfl⟩) rfl rfl (Nat.le_of_ble_eq_true rfl) dX13_charges_58 ?_
          refine g_if_lt X (tgt := 70) dX13_charges_61 (by decide) (fun c30 => ?_) (fun c30 => ?_)
          · have h := (ite_s h).1 c30
            refine g_aload_n X 2 (i0 := 0) dX13_charges_70 rfl rfl ?_
            refine g_get X (D := D23) (v := .ref (E.1 85)) (T := TX13) 84 uX13 (wg_84 E _) rfl 5 (by decide) fl_X13_16 rfl rfl dX13_charges_71 ?_
            refine g_bipush X (v := (40 : Int32)) dX13_charges_74 (by decide) ?_
            refine g_iconst X (v := (2 : Int32)) dX13_charges_76 (by decide) ?_
            refine g_iload X 1 dX13_charges_77 rfl ?_
            refine g_imul X dX13_charges_79 ?_
            refine g_iadd X dX13_charges_80 ?_
            refine g_iload X 0 dX13_charges_81 rfl ?_
            obtain ⟨b25, h⟩ := chk_s h
            refine g_iast X (D := D23) (f := (D23.2.2.1 70)) (i := ((40 : Int32) + ((2 : Int32) * ((D8.2.2.1 70) (3 : Int32).toNatClampNeg)))) (x := r12) (D' := (setA D23 70 (upd (D23.2.2.1 70) ((40 : Int32) + ((2 : Int32) * ((D8.2.2.1 70) (3 : Int32).toNatClampNeg))).toNatClampNeg r12))) 85 (wg_85 E _) (inB_vp b25) (ws_A_70 E _ _) dX13_charges_83 ?_
            refine g_aload_n X 2 (i0 := 0) dX13_charges_84 rfl rfl ?_
            refine g_get X (D := (setA D23 70 (upd (D23.2.2.1 70) ((40 : Int32) + ((2 : Int32) * ((D8.2.2.1 70) (3 : Int32).toNatClampNeg))).toNatClampNeg r12))) (v := .ref (E.1 85)) (T := TX13) 84 uX13 (wg_84 E _) rfl 5 (by decide) fl_X13_16 rfl rfl dX13_charges_85 ?_
            refine g_bipush X (v := (40 : Int32)) dX13_charges_88 (by decide) ?_
            refine g_iconst X (v := (2 : Int32)) dX13_charges_90 (by decide) ?_
            refine g_iload X 1 dX13_charges_91 rfl ?_
            refine g_imul X dX13_charges_93 ?_
            refine g_iadd X dX13_charges_94 ?_
            refine g_iconst X (v := (1 : Int32)) dX13_charges_95 (by decide) ?_
            refine g_iadd X dX13_charges_96 ?_
            refine g_iload_n X 5 (i0 := 3) dX13_charges_97 rfl rfl ?_
            obtain ⟨b26, h⟩ := chk_s h
            refine g_iast X (D := (setA D23 70 (upd (D23.2.2.1 70) ((40 : Int32) + ((2 : Int32) * ((D8.2.2.1 70) (3 : Int32).toNatClampNeg))).toNatClampNeg r12))) (f := (upd (D23.2.2.1 70) ((40 : Int32) + ((2 : Int32) * ((D8.2.2.1 70) (3 : Int32).toNatClampNeg))).toNatClampNeg r12)) (i := (((40 : Int32) + ((2 : Int32) * ((D8.2.2.1 70) (3 : Int32).toNatClampNeg))) + (1 : Int32))) (x := a2) (D' := (setA (setA D23 70 (upd (D23.2.2.1 70) ((40 : Int32) + ((2 : Int32) * ((D8.2.2.1 70) (3 : Int32).toNatClampNeg))).toNatClampNeg r12)) 70 (upd (upd (D23.2.2.1 70) ((40 : Int32) + ((2 : Int32) * ((D8.2.2.1 70) (3 : Int32).toNatClampNeg))).toNatClampNeg r12) (((40 : Int32) + ((2 : Int32) * ((D8.2.2.1 70) (3 : Int32).toNatClampNeg))) + (1 : Int32)).toNatClampNeg a2))) 85 (wg_85 E _) (inB_vp b26) (ws_A_70 E _ _) dX13_charges_98 ?_
            refine g_aload_n X 2 (i0 := 0) dX13_charges_99 rfl rfl ?_
            refine g_get X (D := (setA (setA D23 70 (upd (D23.2.2.1 70) ((40 : Int32) + ((2 : Int32) * ((D8.2.2.1 70) (3 : Int32).toNatClampNeg))).toNatClampNeg r12)) 70 (upd (upd (D23.2.2.1 70) ((40 : Int32) + ((2 : Int32) * ((D8.2.2.1 70) (3 : Int32).toNatClampNeg))).toNatClampNeg r12) (((40 : Int32) + ((2 : Int32) * ((D8.2.2.1 70) (3 : Int32).toNatClampNeg))) + (1 : Int32)).toNatClampNeg a2))) (v := .ref (E.1 85)) (T := TX13) 84 uX13 (wg_84 E _) rfl 5 (by decide) fl_X13_16 rfl rfl dX13_charges_100 ?_
            refine g_iconst X (v := (3 : Int32)) dX13_charges_103 (by decide) ?_
            refine g_dup2 X dX13_charges_104 rfl rfl ?_
            refine g_iald X (D := (setA (setA D23 70 (upd (D23.2.2.1 70) ((40 : Int32) + ((2 : Int32) * ((D8.2.2.1 70) (3 : Int32).toNatClampNeg))).toNatClampNeg r12)) 70 (upd (upd (D23.2.2.1 70) ((40 : Int32) + ((2 : Int32) * ((D8.2.2.1 70) (3 : Int32).toNatClampNeg))).toNatClampNeg r12) (((40 : Int32) + ((2 : Int32) * ((D8.2.2.1 70) (3 : Int32).toNatClampNeg))) + (1 : Int32)).toNatClampNeg a2))) (f := (upd (upd (D23.2.2.1 70) ((40 : Int32) + ((2 : Int32) * ((D8.2.2.1 70) (3 : Int32).toNatClampNeg))).toNatClampNeg r12) (((40 : Int32) + ((2 : Int32) * ((D8.2.2.1 70) (3 : Int32).toNatClampNeg))) + (1 : Int32)).toNatClampNeg a2)) (i := (3 : Int32)) 85 (wg_85 E _) (inB_vp (by decide)) dX13_charges_105 ?_
            refine g_iconst X (v := (1 : Int32)) dX13_charges_106 (by decide) ?_
            refine g_iadd X dX13_charges_107 ?_
            refine g_iast X (D := (setA (setA D23 70 (upd (D23.2.2.1 70) ((40 : Int32) + ((2 : Int32) * ((D8.2.2.1 70) (3 : Int32).toNatClampNeg))).toNatClampNeg r12)) 70 (upd (upd (D23.2.2.1 70) ((40 : Int32) + ((2 : Int32) * ((D8.2.2.1 70) (3 : Int32).toNatClampNeg))).toNatClampNeg r12) (((40 : Int32) + ((2 : Int32) * ((D8.2.2.1 70) (3 : Int32).toNatClampNeg))) + (1 : Int32)).toNatClampNeg a2))) (f := (upd (upd (D23.2.2.1 70) ((40 : Int32) + ((2 : Int32) * ((D8.2.2.1 70) (3 : Int32).toNatClampNeg))).toNatClampNeg r12) (((40 : Int32) + ((2 : Int32) * ((D8.2.2.1 70) (3 : Int32).toNatClampNeg))) + (1 : Int32)).toNatClampNeg a2)) (i := (3 : Int32)) (x := (((upd (upd (D23.2.2.1 70) ((40 : Int32) + ((2 : Int32) * ((D8.2.2.1 70) (3 : Int32).toNatClampNeg))).toNatClampNeg r12) (((40 : Int32) + ((2 : Int32) * ((D8.2.2.1 70) (3 : Int32).toNatClampNeg))) + (1 : Int32)).toNatClampNeg a2) (3 : Int32).toNatClampNeg) + (1 : Int32))) (D' := (setA (setA (setA D23 70 (upd (D23.2.2.1 70) ((40 : Int32) + ((2 : Int32) * ((D8.2.2.1 70) (3 : Int32).toNatClampNeg))).toNatClampNeg r12)) 70 (upd (upd (D23.2.2.1 70) ((40 : Int32) + ((2 : Int32) * ((D8.2.2.1 70) (3 : Int32).toNatClampNeg))).toNatClampNeg r12) (((40 : Int32) + ((2 : Int32) * ((D8.2.2.1 70) (3 : Int32).toNatClampNeg))) + (1 : Int32)).toNatClampNeg a2)) 70 (upd (upd (upd (D23.2.2.1 70) ((40 : Int32) + ((2 : Int32) * ((D8.2.2.1 70) (3 : Int32).toNatClampNeg))).toNatClampNeg r12) (((40 : Int32) + ((2 : Int32) * ((D8.2.2.1 70) (3 : Int32).toNatClampNeg))) + (1 : Int32)).toNatClampNeg a2) (3 : Int32).toNatClampNeg (((upd (upd (D23.2.2.1 70) ((40 : Int32) + ((2 : Int32) * ((D8.2.2.1 70) (3 : Int32).toNatClampNeg))).toNatClampNeg r12) (((40 : Int32) + ((2 : Int32) * ((D8.2.2.1 70) (3 : Int32).toNatClampNeg))) + (1 : Int32)).toNatClampNeg a2) (3 : Int32).toNatClampNeg) + (1 : Int32))))) 85 (wg_85 E _) (inB_vp (by decide)) (ws_A_70 E _ _) dX13_charges_108 ?_
            refine g_iload X 1 dX13_charges_109 rfl ?_
            exact g_iret X hr rfl dX13_charges_111 (Option.some.inj h)
          · have h := (ite_s h).2 c30
            refine g_aload_n X 2 (i0 := 0) dX13_charges_64 rfl rfl ?_
            refine g_iconst X (v := (2 : Int32)) dX13_charges_65 (by decide) ?_
            obtain ⟨r29, D28, e27, h⟩ := cI_s h
            refine g_V X (As := [.int (2 : Int32)]) (rest := []) (c_X13_fail l G E (2 : Int32) _ _ e27) 84 (wg_84 E _) rfl rfl kv_X13_81 ⟨rfl, rfl⟩ ⟨rfl, hd_X13_fail⟩ (⟨Nat.le_of_ble_eq_true rfl, Nat.le_of_ble_eq_true rfl⟩) rfl rfl (Nat.le_of_ble_eq_true rfl) dX13_charges_66 ?_
            exact g_iret X hr rfl dX13_charges_69 (Option.some.inj h)
    · have h := (ite_s h).1 c36
      refine g_aload_n X 0 (i0 := 0) dX13_charges_18 rfl rfl ?_
      refine g_iconst X (v := (1 : Int32)) dX13_charges_19 (by decide) ?_
      obtain ⟨r35, D34, e33, h⟩ := cI_s h
      refine g_V X (As := [.int (1 : Int32)]) (rest := []) (c_X13_fail l G E (1 : Int32) _ _ e33) 84 (wg_84 E _) rfl rfl kv_X13_81 ⟨rfl, rfl⟩ ⟨rfl, hd_X13_fail⟩ (⟨Nat.le_of_ble_eq_true rfl, Nat.le_of_ble_eq_true rfl⟩) rfl rfl (Nat.le_of_ble_eq_true rfl) dX13_charges_20 ?_
      exact g_iret X hr rfl dX13_charges_23 (Option.some.inj h)
theorem hd_X13_charges : yX13_charges.cls ≠ "java/lang/invoke/MethodHandle" ∧ yX13_charges.cls ≠ "java/lang/invoke/VarHandle" ∧ (parseMethodDescriptor yX13_charges.desc).map (fun d => d.parameters.length) = some 3 := by decide +kernel
theorem wc_X13_charges : Cond.code yX13_charges cX13_charges 6 (some .int) ∈ UT := ut 1524 (by decide +kernel) (by decide +kernel)
theorem we_X13_charges : Cond.selects RX13 yX13_charges yX13_charges ∈ UT := ut 48 (by decide +kernel) (by decide +kernel)
theorem wm_X13_charges : Cond.instanceMethod yX13_charges ∈ UT := ut 1523 (by decide +kernel) (by decide +kernel)
theorem kv_X13_121 : GoodIn UT (wsV RX13 121 RX13 yX13_charges (Cond.code yX13_charges cX13_charges 6 (some .int) :: UT)) := gu_V (ut 1521 (by decide +kernel) (by decide +kernel)) wm_X13_charges we_X13_charges wi_RX13 wc_X13_charges
def S_X13_addCharge (a0 : Int32) (a1 : Int32) (a2 : Int32) (D : DD) : Option RT := (cV (S_X13_begins D) (fun D2 => (cI (S_X13_charges a0 a1 a2 D2) (fun r5 D4 => (cI (S_X13_ends r5 D4) (fun r8 D7 => some (0, some (.int r8), D7)))))))
set_option maxRecDepth 100000 in
set_option maxHeartbeats 4000000 in
theorem c_X13_addCharge (l : Launch) (G : va_G) (E : EE) (a0 : Int32) (a1 : Int32) (a2 : Int32) (D : DD) (r : RT) (h : S_X13_addCharge a0 a1 a2 D = some r) : MM l G E yX13_addCharge cX13_addCharge 4 (some .int) (rmm 3) [.ref (E.1 84), .int a0, .int a1, .int a2] D r := by
  refine m_of rfl (Nat.le_of_ble_eq_true rfl) ?_
  intro p e s m args below meth c X hr
  unfold S_X13_addCharge at h
  refine g_aload_n X 0 (i0 := 0) dX13_addCharge_0 rfl rfl ?_
  obtain ⟨D2, e1, h⟩ := cV_s h
  refine g_V X (As := []) (rest := []) (c_X13_begins l G E  _ _ e1) 84 (wg_84 E _) rfl rfl kv_X13_91 ⟨rfl, rfl⟩ ⟨rfl, hd_X13_begins⟩ (⟨Nat.le_of_ble_eq_true rfl, Nat.le_of_ble_eq_true rfl⟩) rfl rfl (Nat.le_of_ble_eq_true rfl) dX13_addCharge_1 ?_
  refine g_aload_n X 0 (i0 := 0) dX13_addCharge_4 rfl rfl ?_
  refine g_aload_n X 0 (i0 := 0) dX13_addCharge_5 rfl rfl ?_
  refine g_iload_n X 1 (i0 := 1) dX13_addCharge_6 rfl rfl ?_
  refine g_iload_n X 2 (i0 := 2) dX13_addCharge_7 rfl rfl ?_
  refine g_iload_n X 3 (i0 := 3) dX13_addCharge_8 rfl rfl ?_
  obtain ⟨r5, D4, e3, h⟩ := cI_s h
  refine g_V X (As := [.int a0, .int a1, .int a2]) (rest := [.ref (E.1 84)]) (c_X13_charges l G E a0 a1 a2 _ _ e3) 84 (wg_84 E _) rfl rfl kv_X13_121 ⟨rfl, rfl⟩ ⟨rfl, hd_X13_charges⟩ (⟨Nat.le_of_ble_eq_true rfl, Nat.le_of_ble_eq_true rfl⟩) rfl rfl (Nat.le_of_ble_eq_true rfl) dX13_addCharge_9 ?_
  obtain ⟨r8, D7, e6, h⟩ := cI_s h
  refine g_V X (As := [.int r5]) (rest := []) (c_X13_ends l G E r5 _ _ e6) 84 (wg_84 E _) rfl rfl kv_X13_98 ⟨rfl, rfl⟩ ⟨rfl, hd_X13_ends⟩ (⟨Nat.le_of_ble_eq_true rfl, Nat.le_of_ble_eq_true rfl⟩) rfl rfl (Nat.le_of_ble_eq_true rfl) dX13_addCharge_12 ?_
  exact g_iret X hr rfl dX13_addCharge_15 (Option.some.inj h)
def S_X13_isCharge (a0 : Int32) (D : DD) : Option RT := (cI (S_X13_isIn a0 (0 : Int32) (((D.2.2.1 70) (3 : Int32).toNatClampNeg) - (1 : Int32)) D) (fun r3 D2 => (if vp_nar .boolean r3 = r3 then some (0, some (.int r3), D2) else none)))
set_option maxRecDepth 100000 in
set_option maxHeartbeats 4000000 in
theorem c_X13_isCharge (l : Launch) (G : va_G) (E : EE) (a0 : Int32) (D : DD) (r : RT) (h : S_X13_isCharge a0 D = some r) : MM l G E yX13_isCharge cX13_isCharge 2 (some .boolean) (rmm 1) [.ref (E.1 84), .int a0] D r := by
  refine m_of rfl (Nat.le_of_ble_eq_true rfl) ?_
  intro p e s m args below meth c X hr
  unfold S_X13_isCharge at h
  refine g_iload_n X 1 (i0 := 1) dX13_isCharge_0 rfl rfl ?_
  refine g_iconst X (v := (0 : Int32)) dX13_isCharge_1 (by decide) ?_
  refine g_aload_n X 0 (i0 := 0) dX13_isCharge_2 rfl rfl ?_
  refine g_get X (D := D) (v := .ref (E.1 85)) (T := TX13) 84 uX13 (wg_84 E _) rfl 5 (by decide) fl_X13_16 rfl rfl dX13_isCharge_3 ?_
  refine g_iconst X (v := (3 : Int32)) dX13_isCharge_6 (by decide) ?_
  refine g_iald X (D := D) (f := (D.2.2.1 70)) (i := (3 : Int32)) 85 (wg_85 E _) (inB_vp (by decide)) dX13_isCharge_7 ?_
  refine g_iconst X (v := (1 : Int32)) dX13_isCharge_8 (by decide) ?_
  refine g_isub X dX13_isCharge_9 ?_
  obtain ⟨r3, D2, e1, h⟩ := cI_s h
  refine g_S X (As := [.int a0, .int (0 : Int32), .int (((D.2.2.1 70) (3 : Int32).toNatClampNeg) - (1 : Int32))]) (rest := []) (c_X13_isIn l G E a0 (0 : Int32) (((D.2.2.1 70) (3 : Int32).toNatClampNeg) - (1 : Int32)) _ _ e1) ks_X13_69 ⟨rfl, rfl⟩ hd_X13_isIn (⟨Nat.le_of_ble_eq_true rfl, Nat.le_of_ble_eq_true rfl⟩) rfl rfl (Nat.le_of_ble_eq_true rfl) dX13_isCharge_10 ?_
  obtain ⟨n4, h⟩ := chk_s h
  exact g_iret X hr (by first | exact congrArg Value.int n4 | (rw [show narrow .boolean (.int r3) = .int (vp_nar .boolean r3) from rfl, n4])) dX13_isCharge_13 (Option.some.inj h)
def b_X13_goes_0 (a0 : Int32) (D : DD) : Option ((Nat × List Int32 × DD) ⊕ RT) := some (.inl (1, [((40 : Int32) + ((2 : Int32) * a0))], D))
def b_X13_goes_1 (x2 : Int32) (D : DD) : Option ((Nat × List Int32 × DD) ⊕ RT) := (if (52 : Int32) ≤ x2 then some (.inr (0, none, (setA D 70 (upd (D.2.2.1 70) (3 : Int32).toNatClampNeg (((D.2.2.1 70) (3 : Int32).toNatClampNeg) - (1 : Int32)))))) else (if (52 : Int32) ≤ (x2 + (2 : Int32)) then (if inB x2 62 = true then some (.inl (1, [(x2 + (1 : Int32))], (setA D 70 (upd (D.2.2.1 70) x2.toNatClampNeg (0 : Int32))))) else none) else (if inB (x2 + (2 : Int32)) 62 = true then (if inB x2 62 = true then some (.inl (1, [(x2 + (1 : Int32))], (setA D 70 (upd (D.2.2.1 70) x2.toNatClampNeg ((D.2.2.1 70) (x2 + (2 : Int32)).toNatClampNeg))))) else none) else none)))
def T_X13_goes (k : Nat) (ls : List Int32) (D : DD) : Option ((Nat × List Int32 × DD) ⊕ RT) := match k, ls with
  | 0, [a0] => b_X13_goes_0 a0 D
  | 1, [x2] => b_X13_goes_1 x2 D
  | _, _ => none
def S_X13_goes (a0 : Int32) (D : DD) : Option RT := run T_X13_goes FUEL 0 [a0] D
def hg_X13_goes (p : Program) (l : Launch) (e : Env) (s : State) (m : MethodId) (args : Array Value) (below : List Frame) (meth : Method) (c : Code) (G : va_G) (E : EE) (r : RT) (k : Nat) (ls : List Int32) (D : DD) : Prop := match k, ls with
  | 0, [a0] => GW p l e (rmm 0) s m args below meth c G E 3 (MQ below (QR G E s.heap.size r) args s 0 0 (fr E s.heap.size)) 0 0 D 0 [(0, .ref (E.1 84)), (1, .int a0)] []
  | 1, [x2] => GW p l e (rmm 0) s m args below meth c G E 3 (MQ below (QR G E s.heap.size r) args s 0 0 (fr E s.heap.size)) 0 0 D 7 [(0, .ref (E.1 84)), (2, .int x2)] []
  | _, _ => True
set_option maxRecDepth 100000 in
set_option maxHeartbeats 4000000 in
theorem bl_X13_goes_0 {p : Program} {l : Launch} {e : Env} {s : State} {m : MethodId} {args : Array Value} {below : List Frame} {meth : Method} {c : Code} {G : va_G} {E : EE} {r : RT} (X : CX p s m args meth c cX13_goes RX13 3 G E) (hr : meth.sig.returnType = none) (a0 : Int32) (D : DD) (o : (Nat × List Int32 × DD) ⊕ RT) (h : b_X13_goes_0 a0 D = some o) (h1 : ∀ x, o = .inl x → hg_X13_goes p l e s m args below meth c G E r x.1 x.2.1 x.2.2) (h2 : ∀ x, o = .inr x → x = r) : GW p l e (rmm 0) s m args below meth c G E 3 (MQ below (QR G E s.heap.size r) args s 0 0 (fr E s.heap.size)) 0 0 D 0 [(0, .ref (E.1 84)), (1, .int a0)] [] := by
  unfold b_X13_goes_0 at h
  refine g_bipush X (v := (40 : Int32)) dX13_goes_0 (by decide) ?_
  refine g_iconst X (v := (2 : Int32)) dX13_goes_2 (by decide) ?_
  refine g_iload_n X 1 (i0 := 1) dX13_goes_3 rfl rfl ?_
  refine g_imul X dX13_goes_4 ?_
  refine g_iadd X dX13_goes_5 ?_
  refine g_istore_n X (i0 := 2) (lv' := [(2, .int ((40 : Int32) + ((2 : Int32) * a0))), (0, .ref (E.1 84)), (1, .int a0)]) dX13_goes_6 rfl (by decide) rfl ?_
  refine g_sub (lv' := [(0, .ref (E.1 84)), (2, .int ((40 : Int32) + ((2 : Int32) * a0)))]) [1, 0] rfl ?_
  exact h1 _ (Option.some.inj h).symm
set_option maxRecDepth 100000 in
set_option maxHeartbeats 4000000 in
theorem bl_X13_goes_1 {p : Program} {l : Launch} {e : Env} {s : State} {m : MethodId} {args : Array Value} {below : List Frame} {meth : Method} {c : Code} {G : va_G} {E : EE} {r : RT} (X : CX p s m args meth c cX13_goes RX13 3 G E) (hr : meth.sig.returnType = none) (x2 : Int32) (D : DD) (o : (Nat × List Int32 × DD) ⊕ RT) (h : b_X13_goes_1 x2 D = some o) (h1 : ∀ x, o = .inl x → hg_X13_goes p l e s m args below meth c G E r x.1 x.2.1 x.2.2) (h2 : ∀ x, o = .inr x → x = r) : GW p l e (rmm 0) s m args below meth c G E 3 (MQ below (QR G E s.heap.size r) args s 0 0 (fr E s.heap.size)) 0 0 D 7 [(0, .ref (E.1 84)), (2, .int x2)] [] := by
  unfold b_X13_goes_1 at h
  refine g_iload_n X 1 (i0 := 2) dX13_goes_7 rfl rfl ?_
  refine g_bipush X (v := (52 : Int32)) dX13_goes_8 (by decide) ?_
  refine g_icmp_ge X (tgt := 45) dX13_goes_10 (by decide) (fun c5 => ?_) (fun c5 => ?_)
  · have h := (ite_s h).1 c5
    refine g_aload_n X 0 (i0 := 0) dX13_goes_45 rfl rfl ?_
    refine g_get X (D := D) (v := .ref (E.1 85)) (T := TX13) 84 uX13 (wg_84 E _) rfl 5 (by decide) fl_X13_16 rfl rfl dX13_goes_46 ?_
    refine g_iconst X (v := (3 : Int32)) dX13_goes_49 (by decide) ?_
    refine g_dup2 X dX13_goes_50 rfl rfl ?_
    refine g_iald X (D := D) (f := (D.2.2.1 70)) (i := (3 : Int32)) 85 (wg_85 E _) (inB_vp (by decide)) dX13_goes_51 ?_
    refine g_iconst X (v := (1 : Int32)) dX13_goes_52 (by decide) ?_
    refine g_isub X dX13_goes_53 ?_
    refine g_iast X (D := D) (f := (D.2.2.1 70)) (i := (3 : Int32)) (x := (((D.2.2.1 70) (3 : Int32).toNatClampNeg) - (1 : Int32))) (D' := (setA D 70 (upd (D.2.2.1 70) (3 : Int32).toNatClampNeg (((D.2.2.1 70) (3 : Int32).toNatClampNeg) - (1 : Int32))))) 85 (wg_85 E _) (inB_vp (by decide)) (ws_A_70 E _ _) dX13_goes_54 ?_
    exact g_vret X hr dX13_goes_55 (h2 _ (Option.some.inj h).symm)
  · have h := (ite_s h).2 c5
    refine g_aload_n X 0 (i0 := 0) dX13_goes_13 rfl rfl ?_
    refine g_get X (D := D) (v := .ref (E.1 85)) (T := TX13) 84 uX13 (wg_84 E _) rfl 5 (by decide) fl_X13_16 rfl rfl dX13_goes_14 ?_
    refine g_iload_n X 1 (i0 := 2) dX13_goes_17 rfl rfl ?_
    refine g_iload_n X 1 (i0 := 2) dX13_goes_18 rfl rfl ?_
    refine g_iconst X (v := (2 : Int32)) dX13_goes_19 (by decide) ?_
    refine g_iadd X dX13_goes_20 ?_
    refine g_bipush X (v := (52 : Int32)) dX13_goes_21 (by decide) ?_
    refine g_icmp_ge X (tgt := 37) dX13_goes_23 (by decide) (fun c4 => ?_) (fun c4 => ?_)
    · have h := (ite_s h).1 c4
      refine g_iconst X (v := (0 : Int32)) dX13_goes_37 (by decide) ?_
      obtain ⟨b1, h⟩ := chk_s h
      refine g_iast X (D := D) (f := (D.2.2.1 70)) (i := x2) (x := (0 : Int32)) (D' := (setA D 70 (upd (D.2.2.1 70) x2.toNatClampNeg (0 : Int32)))) 85 (wg_85 E _) (inB_vp b1) (ws_A_70 E _ _) dX13_goes_38 ?_
      refine g_iinc X 1 (v := (x2 + (1 : Int32))) (lv' := [(2, .int (x2 + (1 : Int32))), (0, .ref (E.1 84))]) dX13_goes_39 rfl rfl (by decide) rfl ?_
      refine g_goto X (tgt := 7) dX13_goes_42 (by decide) ?_
      refine g_sub (lv' := [(0, .ref (E.1 84)), (2, .int (x2 + (1 : Int32)))]) [1, 0] rfl ?_
      exact h1 _ (Option.some.inj h).symm
    · have h := (ite_s h).2 c4
      refine g_aload_n X 0 (i0 := 0) dX13_goes_26 rfl rfl ?_
      refine g_get X (D := D) (v := .ref (E.1 85)) (T := TX13) 84 uX13 (wg_84 E _) rfl 5 (by decide) fl_X13_16 rfl rfl dX13_goes_27 ?_
      refine g_iload_n X 1 (i0 := 2) dX13_goes_30 rfl rfl ?_
      refine g_iconst X (v := (2 : Int32)) dX13_goes_31 (by decide) ?_
      refine g_iadd X dX13_goes_32 ?_
      obtain ⟨b2, h⟩ := chk_s h
      refine g_iald X (D := D) (f := (D.2.2.1 70)) (i := (x2 + (2 : Int32))) 85 (wg_85 E _) (inB_vp b2) dX13_goes_33 ?_
      refine g_goto X (tgt := 38) dX13_goes_34 (by decide) ?_
      obtain ⟨b3, h⟩ := chk_s h
      refine g_iast X (D := D) (f := (D.2.2.1 70)) (i := x2) (x := ((D.2.2.1 70) (x2 + (2 : Int32)).toNatClampNeg)) (D' := (setA D 70 (upd (D.2.2.1 70) x2.toNatClampNeg ((D.2.2.1 70) (x2 + (2 : Int32)).toNatClampNeg)))) 85 (wg_85 E _) (inB_vp b3) (ws_A_70 E _ _) dX13_goes_38 ?_
      refine g_iinc X 1 (v := (x2 + (1 : Int32))) (lv' := [(2, .int (x2 + (1 : Int32))), (0, .ref (E.1 84))]) dX13_goes_39 rfl rfl (by decide) rfl ?_
      refine g_goto X (tgt := 7) dX13_goes_42 (by decide) ?_
      refine g_sub (lv' := [(0, .ref (E.1 84)), (2, .int (x2 + (1 : Int32)))]) [1, 0] rfl ?_
      exact h1 _ (Option.some.inj h).symm
set_option maxRecDepth 100000 in
set_option maxHeartbeats 4000000 in
theorem c_X13_goes (l : Launch) (G : va_G) (E : EE) (a0 : Int32) (D : DD) (r : RT) (h : S_X13_goes a0 D = some r) : MM l G E yX13_goes cX13_goes 3 none (rmm 0) [.ref (E.1 84), .int a0] D r := by
  unfold S_X13_goes at h
  refine m_of rfl (Nat.le_of_ble_eq_true rfl) ?_
  intro p e s m args below meth c X hr
  exact run_G (T := T_X13_goes) (HG := hg_X13_goes p l e s m args below meth c G E r) (by
    intro k ls D o hT h1 h2
    unfold T_X13_goes at hT
    split at hT
    · exact bl_X13_goes_0 X hr _ D o hT h1 h2
    · exact bl_X13_goes_1 X hr _ D o hT h1 h2
    · cases hT) FUEL 0 [a0] D h
theorem hd_X13_goes : yX13_goes.cls ≠ "java/lang/invoke/MethodHandle" ∧ yX13_goes.cls ≠ "java/lang/invoke/VarHandle" ∧ (parseMethodDescriptor yX13_goes.desc).map (fun d => d.parameters.length) = some 1 := by decide +kernel
theorem hd_X13_isCharge : yX13_isCharge.cls ≠ "java/lang/invoke/MethodHandle" ∧ yX13_isCharge.cls ≠ "java/lang/invoke/VarHandle" ∧ (parseMethodDescriptor yX13_isCharge.desc).map (fun d => d.parameters.length) = some 1 := by decide +kernel
theorem wc_X13_isCharge : Cond.code yX13_isCharge cX13_isCharge 2 (some .boolean) ∈ UT := ut 1536 (by decide +kernel) (by decide +kernel)
theorem we_X13_isCharge : Cond.selects RX13 yX13_isCharge yX13_isCharge ∈ UT := ut 50 (by decide +kernel) (by decide +kernel)
theorem wm_X13_isCharge : Cond.instanceMethod yX13_isCharge ∈ UT := ut 1535 (by decide +kernel) (by decide +kernel)
theorem kv_X13_124 : GoodIn UT (wsV RX13 124 RX13 yX13_isCharge (Cond.code yX13_isCharge cX13_isCharge 2 (some .boolean) :: UT)) := gu_V (ut 1533 (by decide +kernel) (by decide +kernel)) wm_X13_isCharge we_X13_isCharge wi_RX13 wc_X13_isCharge
theorem wc_X13_goes : Cond.code yX13_goes cX13_goes 3 none ∈ UT := ut 1540 (by decide +kernel) (by decide +kernel)
theorem we_X13_goes : Cond.selects RX13 yX13_goes yX13_goes ∈ UT := ut 51 (by decide +kernel) (by decide +kernel)
theorem wm_X13_goes : Cond.instanceMethod yX13_goes ∈ UT := ut 1539 (by decide +kernel) (by decide +kernel)
theorem kv_X13_127 : GoodIn UT (wsV RX13 127 RX13 yX13_goes (Cond.code yX13_goes cX13_goes 3 none :: UT)) := gu_V (ut 1537 (by decide +kernel) (by decide +kernel)) wm_X13_goes we_X13_goes wi_RX13 wc_X13_goes
def S_X13_removes (a0 : Int32) (D : DD) : Option RT := (cI (S_X13_isCharge a0 D) (fun r3 D2 => (if r3 = 0 then (cI (S_X13_fail (1 : Int32) D2) (fun r8 D7 => some (0, some (.int r8), D7))) else (cV (S_X13_goes a0 D2) (fun D5 => some (0, some (.int ((D5.2.2.1 70) (3 : Int32).toNatClampNeg)), D5))))))
set_option maxRecDepth 100000 in
set_option maxHeartbeats 4000000 in
theorem c_X13_removes (l : Launch) (G : va_G) (E : EE) (a0 : Int32) (D : DD) (r : RT) (h : S_X13_removes a0 D = some r) : MM l G E yX13_removes cX13_removes 2 (some .int) (rmm 2) [.ref (E.1 84), .int a0] D r := by
  refine m_of rfl (Nat.le_of_ble_eq_true rfl) ?_
  intro p e s m args below meth c X hr
  unfold S_X13_removes at h
  refine g_aload_n X 0 (i0 := 0) dX13_removes_0 rfl rfl ?_
  refine g_iload_n X 1 (i0 := 1) dX13_removes_1 rfl rfl ?_
  obtain ⟨r3, D2, e1, h⟩ := cI_s h
  refine g_V X (As := [.int a0]) (rest := []) (c_X13_isCharge l G E a0 _ _ e1) 84 (wg_84 E _) rfl rfl kv_X13_124 ⟨rfl, rfl⟩ ⟨rfl, hd_X13_isCharge⟩ (⟨Nat.le_of_ble_eq_true rfl, Nat.le_of_ble_eq_true rfl⟩) rfl rfl (Nat.le_of_ble_eq_true rfl) dX13_removes_2 ?_
  refine g_if_ne X (tgt := 14) dX13_removes_5 (by decide) (fun c9 => ?_) (fun c9 => ?_)
  · have h := (ite_s h).2 c9
    refine g_aload_n X 0 (i0 := 0) dX13_removes_14 rfl rfl ?_
    refine g_iload_n X 1 (i0 := 1) dX13_removes_15 rfl rfl ?_
    obtain ⟨D5, e4, h⟩ := cV_s h
    refine g_V X (As := [.int a0]) (rest := []) (c_X13_goes l G E a0 _ _ e4) 84 (wg_84 E _) rfl rfl kv_X13_127 ⟨rfl, rfl⟩ ⟨rfl, hd_X13_goes⟩ (⟨Nat.le_of_ble_eq_true rfl, Nat.le_of_ble_eq_true rfl⟩) rfl rfl (Nat.le_of_ble_eq_true rfl) dX13_removes_16 ?_
    refine g_aload_n X 0 (i0 := 0) dX13_removes_19 rfl rfl ?_
    refine g_get X (D := D5) (v := .ref (E.1 85)) (T := TX13) 84 uX13 (wg_84 E _) rfl 5 (by decide) fl_X13_16 rfl rfl dX13_removes_20 ?_
    refine g_iconst X (v := (3 : Int32)) dX13_removes_23 (by decide) ?_
    refine g_iald X (D := D5) (f := (D5.2.2.1 70)) (i := (3 : Int32)) 85 (wg_85 E _) (inB_vp (by decide)) dX13_removes_24 ?_
    exact g_iret X hr rfl dX13_removes_25 (Option.some.inj h)
  · have h := (ite_s h).1 c9
    refine g_aload_n X 0 (i0 := 0) dX13_removes_8 rfl rfl ?_
    refine g_iconst X (v := (1 : Int32)) dX13_removes_9 (by decide) ?_
    obtain ⟨r8, D7, e6, h⟩ := cI_s h
    refine g_V X (As := [.int (1 : Int32)]) (rest := []) (c_X13_fail l G E (1 : Int32) _ _ e6) 84 (wg_84 E _) rfl rfl kv_X13_81 ⟨rfl, rfl⟩ ⟨rfl, hd_X13_fail⟩ (⟨Nat.le_of_ble_eq_true rfl, Nat.le_of_ble_eq_true rfl⟩) rfl rfl (Nat.le_of_ble_eq_true rfl) dX13_removes_10 ?_
    exact g_iret X hr rfl dX13_removes_13 (Option.some.inj h)
theorem hd_X13_removes : yX13_removes.cls ≠ "java/lang/invoke/MethodHandle" ∧ yX13_removes.cls ≠ "java/lang/invoke/VarHandle" ∧ (parseMethodDescriptor yX13_removes.desc).map (fun d => d.parameters.length) = some 1 := by decide +kernel
theorem wc_X13_removes : Cond.code yX13_removes cX13_removes 2 (some .int) ∈ UT := ut 1532 (by decide +kernel) (by decide +kernel)
theorem we_X13_removes : Cond.selects RX13 yX13_removes yX13_removes ∈ UT := ut 49 (by decide +kernel) (by decide +kernel)
theorem wm_X13_removes : Cond.instanceMethod yX13_removes ∈ UT := ut 1531 (by decide +kernel) (by decide +kernel)
theorem kv_X13_131 : GoodIn UT (wsV RX13 131 RX13 yX13_removes (Cond.code yX13_removes cX13_removes 2 (some .int) :: UT)) := gu_V (ut 1529 (by decide +kernel) (by decide +kernel)) wm_X13_removes we_X13_removes wi_RX13 wc_X13_removes
def S_X13_removeCharge (a0 : Int32) (D : DD) : Option RT := (cV (S_X13_begins D) (fun D2 => (cI (S_X13_removes a0 D2) (fun r5 D4 => (cI (S_X13_ends r5 D4) (fun r8 D7 => some (0, some (.int r8), D7)))))))
set_option maxRecDepth 100000 in
set_option maxHeartbeats 4000000 in
theorem c_X13_removeCharge (l : Launch) (G : va_G) (E : EE) (a0 : Int32) (D : DD) (r : RT) (h : S_X13_removeCharge a0 D = some r) : MM l G E yX13_removeCharge cX13_removeCharge 2 (some .int) (rmm 3) [.ref (E.1 84), .int a0] D r := by
  refine m_of rfl (Nat.le_of_ble_eq_true rfl) ?_
  intro p e s m args below meth c X hr
  unfold S_X13_removeCharge at h
  refine g_aload_n X 0 (i0 := 0) dX13_removeCharge_0 rfl rfl ?_
  obtain ⟨D2, e1, h⟩ := cV_s h
  refine g_V X (As := []) (rest := []) (c_X13_begins l G E  _ _ e1) 84 (wg_84 E _) rfl rfl kv_X13_91 ⟨rfl, rfl⟩ ⟨rfl, hd_X13_begins⟩ (⟨Nat.le_of_ble_eq_true rfl, Nat.le_of_ble_eq_true rfl⟩) rfl rfl (Nat.le_of_ble_eq_true rfl) dX13_removeCharge_1 ?_
  refine g_aload_n X 0 (i0 := 0) dX13_removeCharge_4 rfl rfl ?_
  refine g_aload_n X 0 (i0 := 0) dX13_removeCharge_5 rfl rfl ?_
  refine g_iload_n X 1 (i0 := 1) dX13_removeCharge_6 rfl rfl ?_
  obtain ⟨r5, D4, e3, h⟩ := cI_s h
  refine g_V X (As := [.int a0]) (rest := [.ref (E.1 84)]) (c_X13_removes l G E a0 _ _ e3) 84 (wg_84 E _) rfl rfl kv_X13_131 ⟨rfl, rfl⟩ ⟨rfl, hd_X13_removes⟩ (⟨Nat.le_of_ble_eq_true rfl, Nat.le_of_ble_eq_true rfl⟩) rfl rfl (Nat.le_of_ble_eq_true rfl) dX13_removeCharge_7 ?_
  obtain ⟨r8, D7, e6, h⟩ := cI_s h
  refine g_V X (As := [.int r5]) (rest := []) (c_X13_ends l G E r5 _ _ e6) 84 (wg_84 E _) rfl rfl kv_X13_98 ⟨rfl, rfl⟩ ⟨rfl, hd_X13_ends⟩ (⟨Nat.le_of_ble_eq_true rfl, Nat.le_of_ble_eq_true rfl⟩) rfl rfl (Nat.le_of_ble_eq_true rfl) dX13_removeCharge_10 ?_
  exact g_iret X hr rfl dX13_removeCharge_13 (Option.some.inj h)
theorem hd_X13_apart : yX13_apart.cls ≠ "java/lang/invoke/MethodHandle" ∧ yX13_apart.cls ≠ "java/lang/invoke/VarHandle" ∧ (parseMethodDescriptor yX13_apart.desc).map (fun d => d.parameters.length) = some 2 := by decide +kernel
theorem hd_X13_strength : yX13_strength.cls ≠ "java/lang/invoke/MethodHandle" ∧ yX13_strength.cls ≠ "java/lang/invoke/VarHandle" ∧ (parseMethodDescriptor yX13_strength.desc).map (fun d => d.parameters.length) = some 1 := by decide +kernel
theorem wc_X13_apart : Cond.code yX13_apart cX13_apart 4 (some .int) ∈ UT := ut 1563 (by decide +kernel) (by decide +kernel)
theorem wt_X13_apart : Cond.static yX13_apart ∈ UT := ut 1562 (by decide +kernel) (by decide +kernel)
theorem ks_X13_137 : GoodIn UT (va_wsS RX13 137 yX13_apart (Cond.code yX13_apart cX13_apart 4 (some .int) :: UT)) := gu_S (ut 1561 (by decide +kernel) (by decide +kernel)) wt_X13_apart wi_RX13 wc_X13_apart
theorem wc_X13_strength : Cond.code yX13_strength cX13_strength 2 (some .int) ∈ UT := ut 1560 (by decide +kernel) (by decide +kernel)
theorem we_X13_strength : Cond.selects RX13 yX13_strength yX13_strength ∈ UT := ut 55 (by decide +kernel) (by decide +kernel)
theorem wm_X13_strength : Cond.instanceMethod yX13_strength ∈ UT := ut 1559 (by decide +kernel) (by decide +kernel)
theorem kv_X13_134 : GoodIn UT (wsV RX13 134 RX13 yX13_strength (Cond.code yX13_strength cX13_strength 2 (some .int) :: UT)) := gu_V (ut 1557 (by decide +kernel) (by decide +kernel)) wm_X13_strength we_X13_strength wi_RX13 wc_X13_strength
def S_X13_opens (a0 : Int32) (a1 : Int32) (D : DD) : Option RT := (cI (S_X13_hard a1 D) (fun r3 D2 => (if r3 ≤ 0 then some (0, some (.int (0 : Int32)), D2) else (cI (S_X13_hard a1 D2) (fun r6 D5 => (cI (S_X13_strength a0 D5) (fun r9 D8 => (cI (S_X13_placeOf a0 D8) (fun r12 D11 => (cI (S_X13_apart r12 a1 D11) (fun r15 D14 => (if (r9 - r15) < r6 then some (0, some (.int (0 : Int32)), D14) else some (0, some (.int (1 : Int32)), D14)))))))))))))
set_option maxRecDepth 100000 in
set_option maxHeartbeats 4000000 in
theorem c_X13_opens (l : Launch) (G : va_G) (E : EE) (a0 : Int32) (a1 : Int32) (D : DD) (r : RT) (h : S_X13_opens a0 a1 D = some r) : MM l G E yX13_opens cX13_opens 3 (some .boolean) (rmm 1) [.ref (E.1 84), .int a0, .int a1] D r := by
  refine m_of rfl (Nat.le_of_ble_eq_true rfl) ?_
  intro p e s m args below meth c X hr
  unfold S_X13_opens at h
  refine g_aload_n X 0 (i0 := 0) dX13_opens_0 rfl rfl ?_
  refine g_iload_n X 2 (i0 := 2) dX13_opens_1 rfl rfl ?_
  obtain ⟨r3, D2, e1, h⟩ := cI_s h
  refine g_V X (As := [.int a1]) (rest := []) (c_X13_hard l G E a1 _ _ e1) 84 (wg_84 E _) rfl rfl kv_X13_88 ⟨rfl, rfl⟩ ⟨rfl, hd_X13_hard⟩ (⟨Nat.le_of_ble_eq_true rfl, Nat.le_of_ble_eq_true rfl⟩) rfl rfl (Nat.le_of_ble_eq_true rfl) dX13_opens_2 ?_
  refine g_if_le X (tgt := 35) dX13_opens_5 (by decide) (fun c17 => ?_) (fun c17 => ?_)
  · have h := (ite_s h).1 c17
    refine g_iconst X (v := (0 : Int32)) dX13_opens_35 (by decide) ?_
    exact g_iret X hr rfl dX13_opens_36 (Option.some.inj h)
  · have h := (ite_s h).2 c17
    refine g_aload_n X 0 (i0 := 0) dX13_opens_8 rfl rfl ?_
    refine g_iload_n X 2 (i0 := 2) dX13_opens_9 rfl rfl ?_
    obtain ⟨r6, D5, e4, h⟩ := cI_s h
    refine g_V X (As := [.int a1]) (rest := []) (c_X13_hard l G E a1 _ _ e4) 84 (wg_84 E _) rfl rfl kv_X13_88 ⟨rfl, rfl⟩ ⟨rfl, hd_X13_hard⟩ (⟨Nat.le_of_ble_eq_true rfl, Nat.le_of_ble_eq_true rfl⟩) rfl rfl (Nat.le_of_ble_eq_true rfl) dX13_opens_10 ?_
    refine g_aload_n X 0 (i0 := 0) dX13_opens_13 rfl rfl ?_
    refine g_iload_n X 1 (i0 := 1) dX13_opens_14 rfl rfl ?_
    obtain ⟨r9, D8, e7, h⟩ := cI_s h
    refine g_V X (As := [.int a0]) (rest := [.int r6]) (c_X13_strength l G E a0 _ _ e7) 84 (wg_84 E _) rfl rfl kv_X13_134 ⟨rfl, rfl⟩ ⟨rfl, hd_X13_strength⟩ (⟨Nat.le_of_ble_eq_true rfl, Nat.le_of_ble_eq_true rfl⟩) rfl rfl (Nat.le_of_ble_eq_true rfl) dX13_opens_15 ?_
    refine g_aload_n X 0 (i0 := 0) dX13_opens_18 rfl rfl ?_
    refine g_iload_n X 1 (i0 := 1) dX13_opens_19 rfl rfl ?_
    obtain ⟨r12, D11, e10, h⟩ := cI_s h
    refine g_V X (As := [.int a0]) (rest := [.int r9, .int r6]) (c_X13_placeOf l G E a0 _ _ e10) 84 (wg_84 E _) rfl rfl kv_X13_73 ⟨rfl, rfl⟩ ⟨rfl, hd_X13_placeOf⟩ (⟨Nat.le_of_ble_eq_true rfl, Nat.le_of_ble_eq_true rfl⟩) rfl rfl (Nat.le_of_ble_eq_true rfl) dX13_opens_20 ?_
    refine g_iload_n X 2 (i0 := 2) dX13_opens_23 rfl rfl ?_
    obtain ⟨r15, D14, e13, h⟩ := cI_s h
    refine g_S X (As := [.int r12, .int a1]) (rest := [.int r9, .int r6]) (c_X13_apart l G E r12 a1 _ _ e13) ks_X13_137 ⟨rfl, rfl⟩ hd_X13_apart (⟨Nat.le_of_ble_eq_true rfl, Nat.le_of_ble_eq_true rfl⟩) rfl rfl (Nat.le_of_ble_eq_true rfl) dX13_opens_24 ?_
    refine g_isub X dX13_opens_27 ?_
    refine g_icmp_gt X (tgt := 35) dX13_opens_28 (by decide) (fun c16 => ?_) (fun c16 => ?_)
    · have h := (ite_s h).1 c16
      refine g_iconst X (v := (0 : Int32)) dX13_opens_35 (by decide) ?_
      exact g_iret X hr rfl dX13_opens_36 (Option.some.inj h)
    · have h := (ite_s h).2 c16
      refine g_iconst X (v := (1 : Int32)) dX13_opens_31 (by decide) ?_
      refine g_goto X (tgt := 36) dX13_opens_32 (by decide) ?_
      exact g_iret X hr rfl dX13_opens_36 (Option.some.inj h)
theorem hd_X13_opens : yX13_opens.cls ≠ "java/lang/invoke/MethodHandle" ∧ yX13_opens.cls ≠ "java/lang/invoke/VarHandle" ∧ (parseMethodDescriptor yX13_opens.desc).map (fun d => d.parameters.length) = some 2 := by decide +kernel
theorem wc_X13_opens : Cond.code yX13_opens cX13_opens 3 (some .boolean) ∈ UT := ut 1556 (by decide +kernel) (by decide +kernel)
theorem we_X13_opens : Cond.selects RX13 yX13_opens yX13_opens ∈ UT := ut 54 (by decide +kernel) (by decide +kernel)
theorem wm_X13_opens : Cond.instanceMethod yX13_opens ∈ UT := ut 1555 (by decide +kernel) (by decide +kernel)
theorem kv_X13_140 : GoodIn UT (wsV RX13 140 RX13 yX13_opens (Cond.code yX13_opens cX13_opens 3 (some .boolean) :: UT)) := gu_V (ut 1553 (by decide +kernel) (by decide +kernel)) wm_X13_opens we_X13_opens wi_RX13 wc_X13_opens
def b_X13_chain_0 (a0 : Int32) (D : DD) : Option ((Nat × List Int32 × DD) ⊕ RT) := some (.inl (1, [((1 : Int32) <<< (a0 &&& 31)), (0 : Int32)], D))
def b_X13_chain_1 (x2 : Int32) (x3 : Int32) (D : DD) : Option ((Nat × List Int32 × DD) ⊕ RT) := (if x2 = x3 then some (.inr (0, some (.int x2), D)) else some (.inl (2, [x2, x2, (0 : Int32)], D)))
def b_X13_chain_2 (x2 : Int32) (x3 : Int32) (x4 : Int32) (D : DD) : Option ((Nat × List Int32 × DD) ⊕ RT) := (if ((D.2.2.1 70) (3 : Int32).toNatClampNeg) ≤ x4 then some (.inl (1, [x2, x3], D)) else some (.inl (3, [x2, x3, x4, (0 : Int32)], D)))
def b_X13_chain_3 (x2 : Int32) (x3 : Int32) (x4 : Int32) (x5 : Int32) (D : DD) : Option ((Nat × List Int32 × DD) ⊕ RT) := (if ((D.2.2.1 70) (3 : Int32).toNatClampNeg) ≤ x5 then some (.inl (2, [x2, x3, (x4 + (1 : Int32))], D)) else (if ((x3 >>> (x4 &&& 31)) &&& (1 : Int32)) = (1 : Int32) then (cI (S_X13_placeOf x5 D) (fun r5 D4 => (cI (S_X13_opens x4 r5 D4) (fun r8 D7 => (if r8 = 0 then some (.inl (3, [x2, x3, x4, (x5 + (1 : Int32))], D7)) else some (.inl (3, [(x2 ||| ((1 : Int32) <<< (x5 &&& 31))), x3, x4, (x5 + (1 : Int32))], D7))))))) else some (.inl (3, [x2, x3, x4, (x5 + (1 : Int32))], D))))
def T_X13_chain (k : Nat) (ls : List Int32) (D : DD) : Option ((Nat × List Int32 × DD) ⊕ RT) := match k, ls with
  | 0, [a0] => b_X13_chain_0 a0 D
  | 1, [x2, x3] => b_X13_chain_1 x2 x3 D
  | 2, [x2, x3, x4] => b_X13_chain_2 x2 x3 x4 D
  | 3, [x2, x3, x4, x5] => b_X13_chain_3 x2 x3 x4 x5 D
  | _, _ => none
def S_X13_chain (a0 : Int32) (D : DD) : Option RT := run T_X13_chain FUEL 0 [a0] D
def hg_X13_chain (p : Program) (l : Launch) (e : Env) (s : State) (m : MethodId) (args : Array Value) (below : List Frame) (meth : Method) (c : Code) (G : va_G) (E : EE) (r : RT) (k : Nat) (ls : List Int32) (D : DD) : Prop := match k, ls with
  | 0, [a0] => GW p l e (rmm 2) s m args below meth c G E 6 (MQ below (QR G E s.heap.size r) args s 0 0 (fr E s.heap.size)) 0 0 D 0 [(0, .ref (E.1 84)), (1, .int a0)] []
  | 1, [x2, x3] => GW p l e (rmm 2) s m args below meth c G E 6 (MQ below (QR G E s.heap.size r) args s 0 0 (fr E s.heap.size)) 0 0 D 6 [(0, .ref (E.1 84)), (2, .int x2), (3, .int x3)] []
  | 2, [x2, x3, x4] => GW p l e (rmm 2) s m args below meth c G E 6 (MQ below (QR G E s.heap.size r) args s 0 0 (fr E s.heap.size)) 0 0 D 16 [(0, .ref (E.1 84)), (2, .int x2), (3, .int x3), (4, .int x4)] []
  | 3, [x2, x3, x4, x5] => GW p l e (rmm 2) s m args below meth c G E 6 (MQ below (QR G E s.heap.size r) args s 0 0 (fr E s.heap.size)) 0 0 D 30 [(0, .ref (E.1 84)), (2, .int x2), (3, .int x3), (4, .int x4), (5, .int x5)] []
  | _, _ => True
set_option maxRecDepth 100000 in
set_option maxHeartbeats 4000000 in
theorem bl_X13_chain_0 {p : Program} {l : Launch} {e : Env} {s : State} {m : MethodId} {args : Array Value} {below : List Frame} {meth : Method} {c : Code} {G : va_G} {E : EE} {r : RT} (X : CX p s m args meth c cX13_chain RX13 6 G E) (hr : meth.sig.returnType = (some .int)) (a0 : Int32) (D : DD) (o : (Nat × List Int32 × DD) ⊕ RT) (h : b_X13_chain_0 a0 D = some o) (h1 : ∀ x, o = .inl x → hg_X13_chain p l e s m args below meth c G E r x.1 x.2.1 x.2.2) (h2 : ∀ x, o = .inr x → x = r) : GW p l e (rmm 2) s m args below meth c G E 6 (MQ below (QR G E s.heap.size r) args s 0 0 (fr E s.heap.size)) 0 0 D 0 [(0, .ref (E.1 84)), (1, .int a0)] [] := by
  unfold b_X13_chain_0 at h
  refine g_iconst X (v := (1 : Int32)) dX13_chain_0 (by decide) ?_
  refine g_iload_n X 1 (i0 := 1) dX13_chain_1 rfl rfl ?_
  refine g_ishl X dX13_chain_2 ?_
  refine g_istore_n X (i0 := 2) (lv' := [(2, .int ((1 : Int32) <<< (a0 &&& 31))), (0, .ref (E.1 84)), (1, .int a0)]) dX13_chain_3 rfl (by decide) rfl ?_
  refine g_iconst X (v := (0 : Int32)) dX13_chain_4 (by decide) ?_
  refine g_istore_n X (i0 := 3) (lv' := [(3, .int (0 : Int32)), (2, .int ((1 : Int32) <<< (a0 &&& 31))), (0, .ref (E.1 84)), (1, .int a0)]) dX13_chain_5 rfl (by decide) rfl ?_
  refine g_sub (lv' := [(0, .ref (E.1 84)), (2, .int ((1 : Int32) <<< (a0 &&& 31))), (3, .int (0 : Int32))]) [2, 1, 0] rfl ?_
  exact h1 _ (Option.some.inj h).symm
set_option maxRecDepth 100000 in
set_option maxHeartbeats 4000000 in
theorem bl_X13_chain_1 {p : Program} {l : Launch} {e : Env} {s : State} {m : MethodId} {args : Array Value} {below : List Frame} {meth : Method} {c : Code} {G : va_G} {E : EE} {r : RT} (X : CX p s m args meth c cX13_chain RX13 6 G E) (hr : meth.sig.returnType = (some .int)) (x2 : Int32) (x3 : Int32) (D : DD) (o : (Nat × List Int32 × DD) ⊕ RT) (h : b_X13_chain_1 x2 x3 D = some o) (h1 : ∀ x, o = .inl x → hg_X13_chain p l e s m args below meth c G E r x.1 x.2.1 x.2.2) (h2 : ∀ x, o = .inr x → x = r) : GW p l e (rmm 2) s m args below meth c G E 6 (MQ below (QR G E s.heap.size r) args s 0 0 (fr E s.heap.size)) 0 0 D 6 [(0, .ref (E.1 84)), (2, .int x2), (3, .int x3)] [] := by
  unfold b_X13_chain_1 at h
  refine g_iload_n X 1 (i0 := 2) dX13_chain_6 rfl rfl ?_
  refine g_iload_n X 2 (i0 := 3) dX13_chain_7 rfl rfl ?_
  refine g_icmp_eq X (tgt := 88) dX13_chain_8 (by decide) (fun c1 => ?_) (fun c1 => ?_)
  · have h := (ite_s h).1 c1
    refine g_iload_n X 1 (i0 := 2) dX13_chain_88 rfl rfl ?_
    exact g_iret X hr rfl dX13_chain_89 (h2 _ (Option.some.inj h).symm)
  · have h := (ite_s h).2 c1
    refine g_iload_n X 1 (i0 := 2) dX13_chain_11 rfl rfl ?_
    refine g_istore_n X (i0 := 3) (lv' := [(3, .int x2), (0, .ref (E.1 84)), (2, .int x2)]) dX13_chain_12 rfl (by decide) rfl ?_
    refine g_iconst X (v := (0 : Int32)) dX13_chain_13 (by decide) ?_
    refine g_istore X (lv' := [(4, .int (0 : Int32)), (3, .int x2), (0, .ref (E.1 84)), (2, .int x2)]) dX13_chain_14 (by decide) rfl ?_
    refine g_sub (lv' := [(0, .ref (E.1 84)), (2, .int x2), (3, .int x2), (4, .int (0 : Int32))]) [2, 3, 1, 0] rfl ?_
    exact h1 _ (Option.some.inj h).symm
set_option maxRecDepth 100000 in
set_option maxHeartbeats 4000000 in
theorem bl_X13_chain_2 {p : Program} {l : Launch} {e : Env} {s : State} {m : MethodId} {args : Array Value} {below : List Frame} {meth : Method} {c : Code} {G : va_G} {E : EE} {r : RT} (X : CX p s m args meth c cX13_chain RX13 6 G E) (hr : meth.sig.returnType = (some .int)) (x2 : Int32) (x3 : Int32) (x4 : Int32) (D : DD) (o : (Nat × List Int32 × DD) ⊕ RT) (h : b_X13_chain_2 x2 x3 x4 D = some o) (h1 : ∀ x, o = .inl x → hg_X13_chain p l e s m args below meth c G E r x.1 x.2.1 x.2.2) (h2 : ∀ x, o = .inr x → x = r) : GW p l e (rmm 2) s m args below meth c G E 6 (MQ below (QR G E s.heap.size r) args s 0 0 (fr E s.heap.size)) 0 0 D 16 [(0, .ref (E.1 84)), (2, .int x2), (3, .int x3), (4, .int x4)] [] := by
  unfold b_X13_chain_2 at h
  refine g_iload X 3 dX13_chain_16 rfl ?_
  refine g_aload_n X 0 (i0 := 0) dX13_chain_18 rfl rfl ?_
  refine g_get X (D := D) (v := .ref (E.1 85)) (T := TX13) 84 uX13 (wg_84 E _) rfl 5 (by decide) fl_X13_16 rfl rfl dX13_chain_19 ?_
  refine g_iconst X (v := (3 : Int32)) dX13_chain_22 (by decide) ?_
  refine g_iald X (D := D) (f := (D.2.2.1 70)) (i := (3 : Int32)) 85 (wg_85 E _) (inB_vp (by decide)) dX13_chain_23 ?_
  refine g_icmp_ge X (tgt := 85) dX13_chain_24 (by decide) (fun c2 => ?_) (fun c2 => ?_)
  · have h := (ite_s h).1 c2
    refine g_goto X (tgt := 6) dX13_chain_85 (by decide) ?_
    refine g_sub (lv' := [(0, .ref (E.1 84)), (2, .int x2), (3, .int x3)]) [0, 1, 2] rfl ?_
    exact h1 _ (Option.some.inj h).symm
  · have h := (ite_s h).2 c2
    refine g_iconst X (v := (0 : Int32)) dX13_chain_27 (by decide) ?_
    refine g_istore X (lv' := [(5, .int (0 : Int32)), (0, .ref (E.1 84)), (2, .int x2), (3, .int x3), (4, .int x4)]) dX13_chain_28 (by decide) rfl ?_
    refine g_sub (lv' := [(0, .ref (E.1 84)), (2, .int x2), (3, .int x3), (4, .int x4), (5, .int (0 : Int32))]) [1, 2, 3, 4, 0] rfl ?_
    exact h1 _ (Option.some.inj h).symm
set_option maxRecDepth 100000 in
set_option maxHeartbeats 4000000 in
theorem bl_X13_chain_3 {p : Program} {l : Launch} {e : Env} {s : State} {m : MethodId} {args : Array Value} {below : List Frame} {meth : Method} {c : Code} {G : va_G} {E : EE} {r : RT} (X : CX p s m args meth c cX13_chain RX13 6 G E) (hr : meth.sig.returnType = (some .int)) (x2 : Int32) (x3 : Int32) (x4 : Int32) (x5 : Int32) (D : DD) (o : (Nat × List Int32 × DD) ⊕ RT) (h : b_X13_chain_3 x2 x3 x4 x5 D = some o) (h1 : ∀ x, o = .inl x → hg_X13_chain p l e s m args below meth c G E r x.1 x.2.1 x.2.2) (h2 : ∀ x, o = .inr x → x = r) : GW p l e (rmm 2) s m args below meth c G E 6 (MQ below (QR G E s.heap.size r) args s 0 0 (fr E s.heap.size)) 0 0 D 30 [(0, .ref (E.1 84)), (2, .int x2), (3, .int x3), (4, .int x4), (5, .int x5)] [] := by
  unfold b_X13_chain_3 at h
  refine g_iload X 4 dX13_chain_30 rfl ?_
  refine g_aload_n X 0 (i0 := 0) dX13_chain_32 rfl rfl ?_
  refine g_get X (D := D) (v := .ref (E.1 85)) (T := TX13) 84 uX13 (wg_84 E _) rfl 5 (by decide) fl_X13_16 rfl rfl dX13_chain_33 ?_
  refine g_iconst X (v := (3 : Int32)) dX13_chain_36 (by decide) ?_
  refine g_iald X (D := D) (f := (D.2.2.1 70)) (i := (3 : Int32)) 85 (wg_85 E _) (inB_vp (by decide)) dX13_chain_37 ?_
  refine g_icmp_ge X (tgt := 79) dX13_chain_38 (by decide) (fun c11 => ?_) (fun c11 => ?_)
  · have h := (ite_s h).1 c11
    refine g_iinc X 3 (v := (x4 + (1 : Int32))) (lv' := [(4, .int (x4 + (1 : Int32))), (0, .ref (E.1 84)), (2, .int x2), (3, .int x3), (5, .int x5)]) dX13_chain_79 rfl rfl (by decide) rfl ?_
    refine g_goto X (tgt := 16) dX13_chain_82 (by decide) ?_
    refine g_sub (lv' := [(0, .ref (E.1 84)), (2, .int x2), (3, .int x3), (4, .int (x4 + (1 : Int32)))]) [1, 2, 3, 0] rfl ?_
    exact h1 _ (Option.some.inj h).symm
  · have h := (ite_s h).2 c11
    refine g_iload_n X 2 (i0 := 3) dX13_chain_41 rfl rfl ?_
    refine g_iload X 3 dX13_chain_42 rfl ?_
    refine g_ishr X dX13_chain_44 ?_
    refine g_iconst X (v := (1 : Int32)) dX13_chain_45 (by decide) ?_
    refine g_iand X dX13_chain_46 ?_
    refine g_iconst X (v := (1 : Int32)) dX13_chain_47 (by decide) ?_
    refine g_icmp_ne X (tgt := 73) dX13_chain_48 (by decide) (fun c10 => ?_) (fun c10 => ?_)
    · have h := (ite_s h).2 c10
      refine g_iinc X 4 (v := (x5 + (1 : Int32))) (lv' := [(5, .int (x5 + (1 : Int32))), (0, .ref (E.1 84)), (2, .int x2), (3, .int x3), (4, .int x4)]) dX13_chain_73 rfl rfl (by decide) rfl ?_
      refine g_goto X (tgt := 30) dX13_chain_76 (by decide) ?_
      refine g_sub (lv' := [(0, .ref (E.1 84)), (2, .int x2), (3, .int x3), (4, .int x4), (5, .int (x5 + (1 : Int32)))]) [1, 2, 3, 4, 0] rfl ?_
      exact h1 _ (Option.some.inj h).symm
    · have h := (ite_s h).1 c10
      refine g_aload_n X 0 (i0 := 0) dX13_chain_51 rfl rfl ?_
      refine g_iload X 3 dX13_chain_52 rfl ?_
      refine g_aload_n X 0 (i0 := 0) dX13_chain_54 rfl rfl ?_
      refine g_iload X 4 dX13_chain_55 rfl ?_
      obtain ⟨r5, D4, e3, h⟩ := cI_s h
      refine g_V X (As := [.int x5]) (rest := [.int x4, .ref (E.1 84)]) (c_X13_placeOf l G E x5 _ _ e3) 84 (wg_84 E _) rfl rfl kv_X13_73 ⟨rfl, rfl⟩ ⟨rfl, hd_X13_placeOf⟩ (⟨Nat.le_of_ble_eq_true rfl, Nat.le_of_ble_eq_true rfl⟩) rfl rfl (Nat.le_of_ble_eq_true rfl) dX13_chain_57 ?_
      obtain ⟨r8, D7, e6, h⟩ := cI_s h
      refine g_V X (As := [.int x4, .int r5]) (rest := []) (c_X13_opens l G E x4 r5 _ _ e6) 84 (wg_84 E _) rfl rfl kv_X13_140 ⟨rfl, rfl⟩ ⟨rfl, hd_X13_opens⟩ (⟨Nat.le_of_ble_eq_true rfl, Nat.le_of_ble_eq_true rfl⟩) rfl rfl (Nat.le_of_ble_eq_true rfl) dX13_chain_60 ?_
      refine g_if_eq X (tgt := 73) dX13_chain_63 (by decide) (fun c9 => ?_) (fun c9 => ?_)
      · have h := (ite_s h).1 c9
        refine g_iinc X 4 (v := (x5 + (1 : Int32))) (lv' := [(5, .int (x5 + (1 : Int32))), (0, .ref (E.1 84)), (2, .int x2), (3, .int x3), (4, .int x4)]) dX13_chain_73 rfl rfl (by decide) rfl ?_
        refine g_goto X (tgt := 30) dX13_chain_76 (by decide) ?_
        refine g_sub (lv' := [(0, .ref (E.1 84)), (2, .int x2), (3, .int x3), (4, .int x4), (5, .int (x5 + (1 : Int32)))]) [1, 2, 3, 4, 0] rfl ?_
        exact h1 _ (Option.some.inj h).symm
      · have h := (ite_s h).2 c9
        refine g_iload_n X 1 (i0 := 2) dX13_chain_66 rfl rfl ?_
        refine g_iconst X (v := (1 : Int32)) dX13_chain_67 (by decide) ?_
        refine g_iload X 4 dX13_chain_68 rfl ?_
        refine g_ishl X dX13_chain_70 ?_
        refine g_ior X dX13_chain_71 ?_
        refine g_istore_n X (i0 := 2) (lv' := [(2, .int (x2 ||| ((1 : Int32) <<< (x5 &&& 31)))), (0, .ref (E.1 84)), (3, .int x3), (4, .int x4), (5, .int x5)]) dX13_chain_72 rfl (by decide) rfl ?_
        refine g_iinc X 4 (v := (x5 + (1 : Int32))) (lv' := [(5, .int (x5 + (1 : Int32))), (2, .int (x2 ||| ((1 : Int32) <<< (x5 &&& 31)))), (0, .ref (E.1 84)), (3, .int x3), (4, .int x4)]) dX13_chain_73 rfl rfl (by decide) rfl ?_
        refine g_goto X (tgt := 30) dX13_chain_76 (by decide) ?_
        refine g_sub (lv' := [(0, .ref (E.1 84)), (2, .int (x2 ||| ((1 : Int32) <<< (x5 &&& 31)))), (3, .int x3), (4, .int x4), (5, .int (x5 + (1 : Int32)))]) [2, 1, 3, 4, 0] rfl ?_
        exact h1 _ (Option.some.inj h).symm
set_option maxRecDepth 100000 in
set_option maxHeartbeats 4000000 in
theorem c_X13_chain (l : Launch) (G : va_G) (E : EE) (a0 : Int32) (D : DD) (r : RT) (h : S_X13_chain a0 D = some r) : MM l G E yX13_chain cX13_chain 6 (some .int) (rmm 2) [.ref (E.1 84), .int a0] D r := by
  unfold S_X13_chain at h
  refine m_of rfl (Nat.le_of_ble_eq_true rfl) ?_
  intro p e s m args below meth c X hr
  exact run_G (T := T_X13_chain) (HG := hg_X13_chain p l e s m args below meth c G E r) (by
    intro k ls D o hT h1 h2
    unfold T_X13_chain at hT
    split at hT
    · exact bl_X13_chain_0 X hr _ D o hT h1 h2
    · exact bl_X13_chain_1 X hr _ _ D o hT h1 h2
    · exact bl_X13_chain_2 X hr _ _ _ D o hT h1 h2
    · exact bl_X13_chain_3 X hr _ _ _ _ D o hT h1 h2
    · cases hT) FUEL 0 [a0] D h
def b_X13_falls_0 (a0 : Int32) (a1 : Int32) (D : DD) : Option ((Nat × List Int32 × DD) ⊕ RT) := some (.inl (1, [a0, a1, (0 : Int32)], D))
def b_X13_falls_1 (x1 : Int32) (x2 : Int32) (x3 : Int32) (D : DD) : Option ((Nat × List Int32 × DD) ⊕ RT) := (if ((D.2.2.1 70) (3 : Int32).toNatClampNeg) ≤ x3 then some (.inr (0, some (.int (0 : Int32)), D)) else (if ((x1 >>> (x3 &&& 31)) &&& (1 : Int32)) = (1 : Int32) then (cI (S_X13_opens x3 x2 D) (fun r3 D2 => (if r3 = 0 then some (.inl (1, [x1, x2, (x3 + (1 : Int32))], D2)) else some (.inr (0, some (.int (1 : Int32)), D2))))) else some (.inl (1, [x1, x2, (x3 + (1 : Int32))], D))))
def T_X13_falls (k : Nat) (ls : List Int32) (D : DD) : Option ((Nat × List Int32 × DD) ⊕ RT) := match k, ls with
  | 0, [a0, a1] => b_X13_falls_0 a0 a1 D
  | 1, [x1, x2, x3] => b_X13_falls_1 x1 x2 x3 D
  | _, _ => none
def S_X13_falls (a0 : Int32) (a1 : Int32) (D : DD) : Option RT := run T_X13_falls FUEL 0 [a0, a1] D
def hg_X13_falls (p : Program) (l : Launch) (e : Env) (s : State) (m : MethodId) (args : Array Value) (below : List Frame) (meth : Method) (c : Code) (G : va_G) (E : EE) (r : RT) (k : Nat) (ls : List Int32) (D : DD) : Prop := match k, ls with
  | 0, [a0, a1] => GW p l e (rmm 2) s m args below meth c G E 4 (MQ below (QR G E s.heap.size r) args s 0 0 (fr E s.heap.size)) 0 0 D 0 [(0, .ref (E.1 84)), (1, .int a0), (2, .int a1)] []
  | 1, [x1, x2, x3] => GW p l e (rmm 2) s m args below meth c G E 4 (MQ below (QR G E s.heap.size r) args s 0 0 (fr E s.heap.size)) 0 0 D 2 [(0, .ref (E.1 84)), (1, .int x1), (2, .int x2), (3, .int x3)] []
  | _, _ => True
set_option maxRecDepth 100000 in
set_option maxHeartbeats 4000000 in
theorem bl_X13_falls_0 {p : Program} {l : Launch} {e : Env} {s : State} {m : MethodId} {args : Array Value} {below : List Frame} {meth : Method} {c : Code} {G : va_G} {E : EE} {r : RT} (X : CX p s m args meth c cX13_falls RX13 4 G E) (hr : meth.sig.returnType = (some .boolean)) (a0 : Int32) (a1 : Int32) (D : DD) (o : (Nat × List Int32 × DD) ⊕ RT) (h : b_X13_falls_0 a0 a1 D = some o) (h1 : ∀ x, o = .inl x → hg_X13_falls p l e s m args below meth c G E r x.1 x.2.1 x.2.2) (h2 : ∀ x, o = .inr x → x = r) : GW p l e (rmm 2) s m args below meth c G E 4 (MQ below (QR G E s.heap.size r) args s 0 0 (fr E s.heap.size)) 0 0 D 0 [(0, .ref (E.1 84)), (1, .int a0), (2, .int a1)] [] := by
  unfold b_X13_falls_0 at h
  refine g_iconst X (v := (0 : Int32)) dX13_falls_0 (by decide) ?_
  refine g_istore_n X (i0 := 3) (lv' := [(3, .int (0 : Int32)), (0, .ref (E.1 84)), (1, .int a0), (2, .int a1)]) dX13_falls_1 rfl (by decide) rfl ?_
  refine g_sub (lv' := [(0, .ref (E.1 84)), (1, .int a0), (2, .int a1), (3, .int (0 : Int32))]) [1, 2, 3, 0] rfl ?_
  exact h1 _ (Option.some.inj h).symm
set_option maxRecDepth 100000 in
set_option maxHeartbeats 4000000 in
theorem bl_X13_falls_1 {p : Program} {l : Launch} {e : Env} {s : State} {m : MethodId} {args : Array Value} {below : List Frame} {meth : Method} {c : Code} {G : va_G} {E : EE} {r : RT} (X : CX p s m args meth c cX13_falls RX13 4 G E) (hr : meth.sig.returnType = (some .boolean)) (x1 : Int32) (x2 : Int32) (x3 : Int32) (D : DD) (o : (Nat × List Int32 × DD) ⊕ RT) (h : b_X13_falls_1 x1 x2 x3 D = some o) (h1 : ∀ x, o = .inl x → hg_X13_falls p l e s m args below meth c G E r x.1 x.2.1 x.2.2) (h2 : ∀ x, o = .inr x → x = r) : GW p l e (rmm 2) s m args below meth c G E 4 (MQ below (QR G E s.heap.size r) args s 0 0 (fr E s.heap.size)) 0 0 D 2 [(0, .ref (E.1 84)), (1, .int x1), (2, .int x2), (3, .int x3)] [] := by
  unfold b_X13_falls_1 at h
  refine g_iload_n X 3 (i0 := 3) dX13_falls_2 rfl rfl ?_
  refine g_aload_n X 0 (i0 := 0) dX13_falls_3 rfl rfl ?_
  refine g_get X (D := D) (v := .ref (E.1 85)) (T := TX13) 84 uX13 (wg_84 E _) rfl 5 (by decide) fl_X13_16 rfl rfl dX13_falls_4 ?_
  refine g_iconst X (v := (3 : Int32)) dX13_falls_7 (by decide) ?_
  refine g_iald X (D := D) (f := (D.2.2.1 70)) (i := (3 : Int32)) 85 (wg_85 E _) (inB_vp (by decide)) dX13_falls_8 ?_
  refine g_icmp_ge X (tgt := 38) dX13_falls_9 (by decide) (fun c6 => ?_) (fun c6 => ?_)
  · have h := (ite_s h).1 c6
    refine g_iconst X (v := (0 : Int32)) dX13_falls_38 (by decide) ?_
    exact g_iret X hr rfl dX13_falls_39 (h2 _ (Option.some.inj h).symm)
  · have h := (ite_s h).2 c6
    refine g_iload_n X 1 (i0 := 1) dX13_falls_12 rfl rfl ?_
    refine g_iload_n X 3 (i0 := 3) dX13_falls_13 rfl rfl ?_
    refine g_ishr X dX13_falls_14 ?_
    refine g_iconst X (v := (1 : Int32)) dX13_falls_15 (by decide) ?_
    refine g_iand X dX13_falls_16 ?_
    refine g_iconst X (v := (1 : Int32)) dX13_falls_17 (by decide) ?_
    refine g_icmp_ne X (tgt := 32) dX13_falls_18 (by decide) (fun c5 => ?_) (fun c5 => ?_)
    · have h := (ite_s h).2 c5
      refine g_iinc X 3 (v := (x3 + (1 : Int32))) (lv' := [(3, .int (x3 + (1 : Int32))), (0, .ref (E.1 84)), (1, .int x1), (2, .int x2)]) dX13_falls_32 rfl rfl (by decide) rfl ?_
      refine g_goto X (tgt := 2) dX13_falls_35 (by decide) ?_
      refine g_sub (lv' := [(0, .ref (E.1 84)), (1, .int x1), (2, .int x2), (3, .int (x3 + (1 : Int32)))]) [1, 2, 3, 0] rfl ?_
      exact h1 _ (Option.some.inj h).symm
    · have h := (ite_s h).1 c5
      refine g_aload_n X 0 (i0 := 0) dX13_falls_21 rfl rfl ?_
      refine g_iload_n X 3 (i0 := 3) dX13_falls_22 rfl rfl ?_
      refine g_iload_n X 2 (i0 := 2) dX13_falls_23 rfl rfl ?_
      obtain ⟨r3, D2, e1, h⟩ := cI_s h
      refine g_V X (As := [.int x3, .int x2]) (rest := []) (c_X13_opens l G E x3 x2 _ _ e1) 84 (wg_84 E _) rfl rfl kv_X13_140 ⟨rfl, rfl⟩ ⟨rfl, hd_X13_opens⟩ (⟨Nat.le_of_ble_eq_true rfl, Nat.le_of_ble_eq_true rfl⟩) rfl rfl (Nat.le_of_ble_eq_true rfl) dX13_falls_24 ?_
      refine g_if_eq X (tgt := 32) dX13_falls_27 (by decide) (fun c4 => ?_) (fun c4 => ?_)
      · have h := (ite_s h).1 c4
        refine g_iinc X 3 (v := (x3 + (1 : Int32))) (lv' := [(3, .int (x3 + (1 : Int32))), (0, .ref (E.1 84)), (1, .int x1), (2, .int x2)]) dX13_falls_32 rfl rfl (by decide) rfl ?_
        refine g_goto X (tgt := 2) dX13_falls_35 (by decide) ?_
        refine g_sub (lv' := [(0, .ref (E.1 84)), (1, .int x1), (2, .int x2), (3, .int (x3 + (1 : Int32)))]) [1, 2, 3, 0] rfl ?_
        exact h1 _ (Option.some.inj h).symm
      · have h := (ite_s h).2 c4
        refine g_iconst X (v := (1 : Int32)) dX13_falls_30 (by decide) ?_
        exact g_iret X hr rfl dX13_falls_31 (h2 _ (Option.some.inj h).symm)
set_option maxRecDepth 100000 in
set_option maxHeartbeats 4000000 in
theorem c_X13_falls (l : Launch) (G : va_G) (E : EE) (a0 : Int32) (a1 : Int32) (D : DD) (r : RT) (h : S_X13_falls a0 a1 D = some r) : MM l G E yX13_falls cX13_falls 4 (some .boolean) (rmm 2) [.ref (E.1 84), .int a0, .int a1] D r := by
  unfold S_X13_falls at h
  refine m_of rfl (Nat.le_of_ble_eq_true rfl) ?_
  intro p e s m args below meth c X hr
  exact run_G (T := T_X13_falls) (HG := hg_X13_falls p l e s m args below meth c G E r) (by
    intro k ls D o hT h1 h2
    unfold T_X13_falls at hT
    split at hT
    · exact bl_X13_falls_0 X hr _ _ D o hT h1 h2
    · exact bl_X13_falls_1 X hr _ _ _ D o hT h1 h2
    · cases hT) FUEL 0 [a0, a1] D h
theorem hd_X13_chain : yX13_chain.cls ≠ "java/lang/invoke/MethodHandle" ∧ yX13_chain.cls ≠ "java/lang/invoke/VarHandle" ∧ (parseMethodDescriptor yX13_chain.desc).map (fun d => d.parameters.length) = some 1 := by decide +kernel
theorem hd_X13_falls : yX13_falls.cls ≠ "java/lang/invoke/MethodHandle" ∧ yX13_falls.cls ≠ "java/lang/invoke/VarHandle" ∧ (parseMethodDescriptor yX13_falls.desc).map (fun d => d.parameters.length) = some 2 := by decide +kernel
theorem wc_X13_chain : Cond.code yX13_chain cX13_chain 6 (some .int) ∈ UT := ut 1552 (by decide +kernel) (by decide +kernel)
theorem we_X13_chain : Cond.selects RX13 yX13_chain yX13_chain ∈ UT := ut 53 (by decide +kernel) (by decide +kernel)
theorem wm_X13_chain : Cond.instanceMethod yX13_chain ∈ UT := ut 1551 (by decide +kernel) (by decide +kernel)
theorem kv_X13_143 : GoodIn UT (wsV RX13 143 RX13 yX13_chain (Cond.code yX13_chain cX13_chain 6 (some .int) :: UT)) := gu_V (ut 1549 (by decide +kernel) (by decide +kernel)) wm_X13_chain we_X13_chain wi_RX13 wc_X13_chain
theorem wc_X13_falls : Cond.code yX13_falls cX13_falls 4 (some .boolean) ∈ UT := ut 1567 (by decide +kernel) (by decide +kernel)
theorem we_X13_falls : Cond.selects RX13 yX13_falls yX13_falls ∈ UT := ut 56 (by decide +kernel) (by decide +kernel)
theorem wm_X13_falls : Cond.instanceMethod yX13_falls ∈ UT := ut 1566 (by decide +kernel) (by decide +kernel)
theorem kv_X13_146 : GoodIn UT (wsV RX13 146 RX13 yX13_falls (Cond.code yX13_falls cX13_falls 4 (some .boolean) :: UT)) := gu_V (ut 1564 (by decide +kernel) (by decide +kernel)) wm_X13_falls we_X13_falls wi_RX13 wc_X13_falls
def b_X13_fallsOf_0 (a0 : Int32) (D : DD) : Option ((Nat × List Int32 × DD) ⊕ RT) := (cI (S_X13_chain a0 D) (fun r3 D2 => some (.inl (1, [r3, (0 : Int32), (0 : Int32)], D2))))
def b_X13_fallsOf_1 (x2 : Int32) (x3 : Int32) (x4 : Int32) (D : DD) : Option ((Nat × List Int32 × DD) ⊕ RT) := (if (36 : Int32) ≤ x4 then some (.inr (0, some (.int x3), D)) else (cI (S_X13_falls x2 x4 D) (fun r6 D5 => (if r6 = 0 then some (.inl (1, [x2, (x3 + (0 : Int32)), (x4 + (1 : Int32))], D5)) else some (.inl (1, [x2, (x3 + (1 : Int32)), (x4 + (1 : Int32))], D5))))))
def T_X13_fallsOf (k : Nat) (ls : List Int32) (D : DD) : Option ((Nat × List Int32 × DD) ⊕ RT) := match k, ls with
  | 0, [a0] => b_X13_fallsOf_0 a0 D
  | 1, [x2, x3, x4] => b_X13_fallsOf_1 x2 x3 x4 D
  | _, _ => none
def S_X13_fallsOf (a0 : Int32) (D : DD) : Option RT := run T_X13_fallsOf FUEL 0 [a0] D
def hg_X13_fallsOf (p : Program) (l : Launch) (e : Env) (s : State) (m : MethodId) (args : Array Value) (below : List Frame) (meth : Method) (c : Code) (G : va_G) (E : EE) (r : RT) (k : Nat) (ls : List Int32) (D : DD) : Prop := match k, ls with
  | 0, [a0] => GW p l e (rmm 3) s m args below meth c G E 5 (MQ below (QR G E s.heap.size r) args s 0 0 (fr E s.heap.size)) 0 0 D 0 [(0, .ref (E.1 84)), (1, .int a0)] []
  | 1, [x2, x3, x4] => GW p l e (rmm 3) s m args below meth c G E 5 (MQ below (QR G E s.heap.size r) args s 0 0 (fr E s.heap.size)) 0 0 D 11 [(0, .ref (E.1 84)), (2, .int x2), (3, .int x3), (4, .int x4)] []
  | _, _ => True
set_option maxRecDepth 100000 in
set_option maxHeartbeats 4000000 in
theorem bl_X13_fallsOf_0 {p : Program} {l : Launch} {e : Env} {s : State} {m : MethodId} {args : Array Value} {below : List Frame} {meth : Method} {c : Code} {G : va_G} {E : EE} {r : RT} (X : CX p s m args meth c cX13_fallsOf RX13 5 G E) (hr : meth.sig.returnType = (some .int)) (a0 : Int32) (D : DD) (o : (Nat × List Int32 × DD) ⊕ RT) (h : b_X13_fallsOf_0 a0 D = some o) (h1 : ∀ x, o = .inl x → hg_X13_fallsOf p l e s m args below meth c G E r x.1 x.2.1 x.2.2) (h2 : ∀ x, o = .inr x → x = r) : GW p l e (rmm 3) s m args below meth c G E 5 (MQ below (QR G E s.heap.size r) args s 0 0 (fr E s.heap.size)) 0 0 D 0 [(0, .ref (E.1 84)), (1, .int a0)] [] := by
  unfold b_X13_fallsOf_0 at h
  refine g_aload_n X 0 (i0 := 0) dX13_fallsOf_0 rfl rfl ?_
  refine g_iload_n X 1 (i0 := 1) dX13_fallsOf_1 rfl rfl ?_
  obtain ⟨r3, D2, e1, h⟩ := cI_s h
  refine g_V X (As := [.int a0]) (rest := []) (c_X13_chain l G E a0 _ _ e1) 84 (wg_84 E _) rfl rfl kv_X13_143 ⟨rfl, rfl⟩ ⟨rfl, hd_X13_chain⟩ (⟨Nat.le_of_ble_eq_true rfl, Nat.le_of_ble_eq_true rfl⟩) rfl rfl (Nat.le_of_ble_eq_true rfl) dX13_fallsOf_2 ?_
  refine g_istore_n X (i0 := 2) (lv' := [(2, .int r3), (0, .ref (E.1 84)), (1, .int a0)]) dX13_fallsOf_5 rfl (by decide) rfl ?_
  refine g_iconst X (v := (0 : Int32)) dX13_fallsOf_6 (by decide) ?_
  refine g_istore_n X (i0 := 3) (lv' := [(3, .int (0 : Int32)), (2, .int r3), (0, .ref (E.1 84)), (1, .int a0)]) dX13_fallsOf_7 rfl (by decide) rfl ?_
  refine g_iconst X (v := (0 : Int32)) dX13_fallsOf_8 (by decide) ?_
  refine g_istore X (lv' := [(4, .int (0 : Int32)), (3, .int (0 : Int32)), (2, .int r3), (0, .ref (E.1 84)), (1, .int a0)]) dX13_fallsOf_9 (by decide) rfl ?_
  refine g_sub (lv' := [(0, .ref (E.1 84)), (2, .int r3), (3, .int (0 : Int32)), (4, .int (0 : Int32))]) [3, 2, 1, 0] rfl ?_
  exact h1 _ (Option.some.inj h).symm
set_option maxRecDepth 100000 in
set_option maxHeartbeats 4000000 in
theorem bl_X13_fallsOf_1 {p : Program} {l : Launch} {e : Env} {s : State} {m : MethodId} {args : Array Value} {below : List Frame} {meth : Method} {c : Code} {G : va_G} {E : EE} {r : RT} (X : CX p s m args meth c cX13_fallsOf RX13 5 G E) (hr : meth.sig.returnType = (some .int)) (x2 : Int32) (x3 : Int32) (x4 : Int32) (D : DD) (o : (Nat × List Int32 × DD) ⊕ RT) (h : b_X13_fallsOf_1 x2 x3 x4 D = some o) (h1 : ∀ x, o = .inl x → hg_X13_fallsOf p l e s m args below meth c G E r x.1 x.2.1 x.2.2) (h2 : ∀ x, o = .inr x → x = r) : GW p l e (rmm 3) s m args below meth c G E 5 (MQ below (QR G E s.heap.size r) args s 0 0 (fr E s.heap.size)) 0 0 D 11 [(0, .ref (E.1 84)), (2, .int x2), (3, .int x3), (4, .int x4)] [] := by
  unfold b_X13_fallsOf_1 at h
  refine g_iload X 3 dX13_fallsOf_11 rfl ?_
  refine g_bipush X (v := (36 : Int32)) dX13_fallsOf_13 (by decide) ?_
  refine g_icmp_ge X (tgt := 42) dX13_fallsOf_15 (by decide) (fun c8 => ?_) (fun c8 => ?_)
  · have h := (ite_s h).1 c8
    refine g_iload_n X 2 (i0 := 3) dX13_fallsOf_42 rfl rfl ?_
    exact g_iret X hr rfl dX13_fallsOf_43 (h2 _ (Option.some.inj h).symm)
  · have h := (ite_s h).2 c8
    refine g_iload_n X 2 (i0 := 3) dX13_fallsOf_18 rfl rfl ?_
    refine g_aload_n X 0 (i0 := 0) dX13_fallsOf_19 rfl rfl ?_
    refine g_iload_n X 1 (i0 := 2) dX13_fallsOf_20 rfl rfl ?_
    refine g_iload X 3 dX13_fallsOf_21 rfl ?_
    obtain ⟨r6, D5, e4, h⟩ := cI_s h
    refine g_V X (As := [.int x2, .int x4]) (rest := [.int x3]) (c_X13_falls l G E x2 x4 _ _ e4) 84 (wg_84 E _) rfl rfl kv_X13_146 ⟨rfl, rfl⟩ ⟨rfl, hd_X13_falls⟩ (⟨Nat.le_of_ble_eq_true rfl, Nat.le_of_ble_eq_true rfl⟩) rfl rfl (Nat.le_of_ble_eq_true rfl) dX13_fallsOf_23 ?_
    refine g_if_eq X (tgt := 33) dX13_fallsOf_26 (by decide) (fun c7 => ?_) (fun c7 => ?_)
    · have h := (ite_s h).1 c7
      refine g_iconst X (v := (0 : Int32)) dX13_fallsOf_33 (by decide) ?_
      refine g_iadd X dX13_fallsOf_34 ?_
      refine g_istore_n X (i0 := 3) (lv' := [(3, .int (x3 + (0 : Int32))), (0, .ref (E.1 84)), (2, .int x2), (4, .int x4)]) dX13_fallsOf_35 rfl (by decide) rfl ?_
      refine g_iinc X 3 (v := (x4 + (1 : Int32))) (lv' := [(4, .int (x4 + (1 : Int32))), (3, .int (x3 + (0 : Int32))), (0, .ref (E.1 84)), (2, .int x2)]) dX13_fallsOf_36 rfl rfl (by decide) rfl ?_
      refine g_goto X (tgt := 11) dX13_fallsOf_39 (by decide) ?_
      refine g_sub (lv' := [(0, .ref (E.1 84)), (2, .int x2), (3, .int (x3 + (0 : Int32))), (4, .int (x4 + (1 : Int32)))]) [2, 3, 1, 0] rfl ?_
      exact h1 _ (Option.some.inj h).symm
    · have h := (ite_s h).2 c7
      refine g_iconst X (v := (1 : Int32)) dX13_fallsOf_29 (by decide) ?_
      refine g_goto X (tgt := 34) dX13_fallsOf_30 (by decide) ?_
      refine g_iadd X dX13_fallsOf_34 ?_
      refine g_istore_n X (i0 := 3) (lv' := [(3, .int (x3 + (1 : Int32))), (0, .ref (E.1 84)), (2, .int x2), (4, .int x4)]) dX13_fallsOf_35 rfl (by decide) rfl ?_
      refine g_iinc X 3 (v := (x4 + (1 : Int32))) (lv' := [(4, .int (x4 + (1 : Int32))), (3, .int (x3 + (1 : Int32))), (0, .ref (E.1 84)), (2, .int x2)]) dX13_fallsOf_36 rfl rfl (by decide) rfl ?_
      refine g_goto X (tgt := 11) dX13_fallsOf_39 (by decide) ?_
      refine g_sub (lv' := [(0, .ref (E.1 84)), (2, .int x2), (3, .int (x3 + (1 : Int32))), (4, .int (x4 + (1 : Int32)))]) [2, 3, 1, 0] rfl ?_
      exact h1 _ (Option.some.inj h).symm
set_option maxRecDepth 100000 in
set_option maxHeartbeats 4000000 in
theorem c_X13_fallsOf (l : Launch) (G : va_G) (E : EE) (a0 : Int32) (D : DD) (r : RT) (h : S_X13_fallsOf a0 D = some r) : MM l G E yX13_fallsOf cX13_fallsOf 5 (some .int) (rmm 3) [.ref (E.1 84), .int a0] D r := by
  unfold S_X13_fallsOf at h
  refine m_of rfl (Nat.le_of_ble_eq_true rfl) ?_
  intro p e s m args below meth c X hr
  exact run_G (T := T_X13_fallsOf) (HG := hg_X13_fallsOf p l e s m args below meth c G E r) (by
    intro k ls D o hT h1 h2
    unfold T_X13_fallsOf at hT
    split at hT
    · exact bl_X13_fallsOf_0 X hr _ D o hT h1 h2
    · exact bl_X13_fallsOf_1 X hr _ _ _ D o hT h1 h2
    · cases hT) FUEL 0 [a0] D h
def b_X13_ignites_0 (a0 : Int32) (D : DD) : Option ((Nat × List Int32 × DD) ⊕ RT) := (cI (S_X13_isCharge a0 D) (fun r3 D2 => (if r3 = 0 then (cI (S_X13_fail (1 : Int32) D2) (fun r9 D8 => some (.inr (0, some (.int r9), D8)))) else (cI (S_X13_chain a0 D2) (fun r6 D5 => some (.inl (1, [r6, (0 : Int32), (0 : Int32)], D5)))))))
def b_X13_ignites_1 (x2 : Int32) (x3 : Int32) (x4 : Int32) (D : DD) : Option ((Nat × List Int32 × DD) ⊕ RT) := (if (36 : Int32) ≤ x4 then some (.inl (2, [x2, x3, (0 : Int32)], D)) else (cI (S_X13_falls x2 x4 D) (fun r13 D12 => (if r13 = 0 then (if inB x4 36 = true then (if inB x4 36 = true then some (.inl (1, [x2, (x3 + ((upd (D12.2.2.1 74) x4.toNatClampNeg (0 : Int32)) x4.toNatClampNeg)), (x4 + (1 : Int32))], (setA D12 74 (upd (D12.2.2.1 74) x4.toNatClampNeg (0 : Int32))))) else none) else none) else (if inB x4 36 = true then (if inB x4 36 = true then some (.inl (1, [x2, (x3 + ((upd (D12.2.2.1 74) x4.toNatClampNeg (1 : Int32)) x4.toNatClampNeg)), (x4 + (1 : Int32))], (setA D12 74 (upd (D12.2.2.1 74) x4.toNatClampNeg (1 : Int32))))) else none) else none)))))
def b_X13_ignites_2 (x2 : Int32) (x3 : Int32) (x4 : Int32) (D : DD) : Option ((Nat × List Int32 × DD) ⊕ RT) := (if (36 : Int32) ≤ x4 then some (.inl (3, [x2, x3, (5 : Int32)], D)) else (if inB x4 36 = true then (if ((D.2.2.1 74) x4.toNatClampNeg) = 0 then some (.inl (2, [x2, x3, (x4 + (1 : Int32))], D)) else (cI (S_X13_hard x4 D) (fun r23 D22 => (if inB ((4 : Int32) + x4) 62 = true then some (.inl (2, [x2, x3, (x4 + (1 : Int32))], (setA (setA D22 70 (upd (D22.2.2.1 70) (1 : Int32).toNatClampNeg (((D.2.2.1 70) (1 : Int32).toNatClampNeg) + r23))) 70 (upd (upd (D22.2.2.1 70) (1 : Int32).toNatClampNeg (((D.2.2.1 70) (1 : Int32).toNatClampNeg) + r23)) ((4 : Int32) + x4).toNatClampNeg (0 : Int32))))) else none)))) else none))
def b_X13_ignites_3 (x2 : Int32) (x3 : Int32) (x4 : Int32) (D : DD) : Option ((Nat × List Int32 × DD) ⊕ RT) := (if x4 < 0 then some (.inr (0, some (.int x3), D)) else (if ((x2 >>> (x4 &&& 31)) &&& (1 : Int32)) = (1 : Int32) then (cV (S_X13_goes x4 D) (fun D28 => some (.inl (3, [x2, x3, (x4 + (-1 : Int32))], D28)))) else some (.inl (3, [x2, x3, (x4 + (-1 : Int32))], D))))
def T_X13_ignites (k : Nat) (ls : List Int32) (D : DD) : Option ((Nat × List Int32 × DD) ⊕ RT) := match k, ls with
  | 0, [a0] => b_X13_ignites_0 a0 D
  | 1, [x2, x3, x4] => b_X13_ignites_1 x2 x3 x4 D
  | 2, [x2, x3, x4] => b_X13_ignites_2 x2 x3 x4 D
  | 3, [x2, x3, x4] => b_X13_ignites_3 x2 x3 x4 D
  | _, _ => none
def S_X13_ignites (a0 : Int32) (D : DD) : Option RT := run T_X13_ignites FUEL 0 [a0] D
def hg_X13_ignites (p : Program) (l : Launch) (e : Env) (s : State) (m : MethodId) (args : Array Value) (below : List Frame) (meth : Method) (c : Code) (G : va_G) (E : EE) (r : RT) (k : Nat) (ls : List Int32) (D : DD) : Prop := match k, ls with
  | 0, [a0] => GW p l e (rmm 3) s m args below meth c G E 5 (MQ below (QR G E s.heap.size r) args s 0 0 (fr E s.heap.size)) 0 0 D 0 [(0, .ref (E.1 84)), (1, .int a0)] []
  | 1, [x2, x3, x4] => GW p l e (rmm 3) s m args below meth c G E 5 (MQ below (QR G E s.heap.size r) args s 0 0 (fr E s.heap.size)) 0 0 D 25 [(0, .ref (E.1 84)), (2, .int x2), (3, .int x3), (4, .int x4)] []
  | 2, [x2, x3, x4] => GW p l e (rmm 3) s m args below meth c G E 5 (MQ below (QR G E s.heap.size r) args s 0 0 (fr E s.heap.size)) 0 0 D 73 [(0, .ref (E.1 84)), (2, .int x2), (3, .int x3), (4, .int x4)] []
  | 3, [x2, x3, x4] => GW p l e (rmm 3) s m args below meth c G E 5 (MQ below (QR G E s.heap.size r) args s 0 0 (fr E s.heap.size)) 0 0 D 127 [(0, .ref (E.1 84)), (2, .int x2), (3, .int x3), (4, .int x4)] []
  | _, _ => True
set_option maxRecDepth 100000 in
set_option maxHeartbeats 4000000 in
theorem bl_X13_ignites_0 {p : Program} {l : Launch} {e : Env} {s : State} {m : MethodId} {args : Array Value} {below : List Frame} {meth : Method} {c : Code} {G : va_G} {E : EE} {r : RT} (X : CX p s m args meth c cX13_ignites RX13 5 G E) (hr : meth.sig.returnType = (some .int)) (a0 : Int32) (D : DD) (o : (Nat × List Int32 × DD) ⊕ RT) (h : b_X13_ignites_0 a0 D = some o) (h1 : ∀ x, o = .inl x → hg_X13_ignites p l e s m args below meth c G E r x.1 x.2.1 x.2.2) (h2 : ∀ x, o = .inr x → x = r) : GW p l e (rmm 3) s m args below meth c G E 5 (MQ below (QR G E s.heap.size r) args s 0 0 (fr E s.heap.size)) 0 0 D 0 [(0, .ref (E.1 84)), (1, .int a0)] [] := by
  unfold b_X13_ignites_0 at h
  refine g_aload_n X 0 (i0 := 0) dX13_ignites_0 rfl rfl ?_
  refine g_iload_n X 1 (i0 := 1) dX13_ignites_1 rfl rfl ?_
  obtain ⟨r3, D2, e1, h⟩ := cI_s h
  refine g_V X (As := [.int a0]) (rest := []) (c_X13_isCharge l G E a0 _ _ e1) 84 (wg_84 E _) rfl rfl kv_X13_124 ⟨rfl, rfl⟩ ⟨rfl, hd_X13_isCharge⟩ (⟨Nat.le_of_ble_eq_true rfl, Nat.le_of_ble_eq_true rfl⟩) rfl rfl (Nat.le_of_ble_eq_true rfl) dX13_ignites_2 ?_
  refine g_if_ne X (tgt := 14) dX13_ignites_5 (by decide) (fun c10 => ?_) (fun c10 => ?_)
  · have h := (ite_s h).2 c10
    refine g_aload_n X 0 (i0 := 0) dX13_ignites_14 rfl rfl ?_
    refine g_iload_n X 1 (i0 := 1) dX13_ignites_15 rfl rfl ?_
    obtain ⟨r6, D5, e4, h⟩ := cI_s h
    refine g_V X (As := [.int a0]) (rest := []) (c_X13_chain l G E a0 _ _ e4) 84 (wg_84 E _) rfl rfl kv_X13_143 ⟨rfl, rfl⟩ ⟨rfl, hd_X13_chain⟩ (⟨Nat.le_of_ble_eq_true rfl, Nat.le_of_ble_eq_true rfl⟩) rfl rfl (Nat.le_of_ble_eq_true rfl) dX13_ignites_16 ?_
    refine g_istore_n X (i0 := 2) (lv' := [(2, .int r6), (0, .ref (E.1 84)), (1, .int a0)]) dX13_ignites_19 rfl (by decide) rfl ?_
    refine g_iconst X (v := (0 : Int32)) dX13_ignites_20 (by decide) ?_
    refine g_istore_n X (i0 := 3) (lv' := [(3, .int (0 : Int32)), (2, .int r6), (0, .ref (E.1 84)), (1, .int a0)]) dX13_ignites_21 rfl (by decide) rfl ?_
    refine g_iconst X (v := (0 : Int32)) dX13_ignites_22 (by decide) ?_
    refine g_istore X (lv' := [(4, .int (0 : Int32)), (3, .int (0 : Int32)), (2, .int r6), (0, .ref (E.1 84)), (1, .int a0)]) dX13_ignites_23 (by decide) rfl ?_
    refine g_sub (lv' := [(0, .ref (E.1 84)), (2, .int r6), (3, .int (0 : Int32)), (4, .int (0 : Int32))]) [3, 2, 1, 0] rfl ?_
    exact h1 _ (Option.some.inj h).symm
  · have h := (ite_s h).1 c10
    refine g_aload_n X 0 (i0 := 0) dX13_ignites_8 rfl rfl ?_
    refine g_iconst X (v := (1 : Int32)) dX13_ignites_9 (by decide) ?_
    obtain ⟨r9, D8, e7, h⟩ := cI_s h
    refine g_V X (As := [.int (1 : Int32)]) (rest := []) (c_X13_fail l G E (1 : Int32) _ _ e7) 84 (wg_84 E _) rfl rfl kv_X13_81 ⟨rfl, rfl⟩ ⟨rfl, hd_X13_fail⟩ (⟨Nat.le_of_ble_eq_true rfl, Nat.le_of_ble_eq_true rfl⟩) rfl rfl (Nat.le_of_ble_eq_true rfl) dX13_ignites_10 ?_
    exact g_iret X hr rfl dX13_ignites_13 (h2 _ (Option.some.inj h).symm)
set_option maxRecDepth 100000 in
set_option maxHeartbeats 4000000 in
theorem bl_X13_ignites_1 {p : Program} {l : Launch} {e : Env} {s : State} {m : MethodId} {args : Array Value} {below : List Frame} {meth : Method} {c : Code} {G : va_G} {E : EE} {r : RT} (X : CX p s m args meth c cX13_ignites RX13 5 G E) (hr : meth.sig.returnType = (some .int)) (x2 : Int32) (x3 : Int32) (x4 : Int32) (D : DD) (o : (Nat × List Int32 × DD) ⊕ RT) (h : b_X13_ignites_1 x2 x3 x4 D = some o) (h1 : ∀ x, o = .inl x → hg_X13_ignites p l e s m args below meth c G E r x.1 x.2.1 x.2.2) (h2 : ∀ x, o = .inr x → x = r) : GW p l e (rmm 3) s m args below meth c G E 5 (MQ below (QR G E s.heap.size r) args s 0 0 (fr E s.heap.size)) 0 0 D 25 [(0, .ref (E.1 84)), (2, .int x2), (3, .int x3), (4, .int x4)] [] := by
  unfold b_X13_ignites_1 at h
  refine g_iload X 3 dX13_ignites_25 rfl ?_
  refine g_bipush X (v := (36 : Int32)) dX13_ignites_27 (by decide) ?_
  refine g_icmp_ge X (tgt := 70) dX13_ignites_29 (by decide) (fun c19 => ?_) (fun c19 => ?_)
  · have h := (ite_s h).1 c19
    refine g_iconst X (v := (0 : Int32)) dX13_ignites_70 (by decide) ?_
    refine g_istore X (lv' := [(4, .int (0 : Int32)), (0, .ref (E.1 84)), (2, .int x2), (3, .int x3)]) dX13_ignites_71 (by decide) rfl ?_
    refine g_sub (lv' := [(0, .ref (E.1 84)), (2, .int x2), (3, .int x3), (4, .int (0 : Int32))]) [1, 2, 3, 0] rfl ?_
    exact h1 _ (Option.some.inj h).symm
  · have h := (ite_s h).2 c19
    refine g_aload_n X 0 (i0 := 0) dX13_ignites_32 rfl rfl ?_
    refine g_get X (D := D) (v := .ref (E.1 89)) (T := TX13) 84 uX13 (wg_84 E _) rfl 9 (by decide) fl_X13_29 rfl rfl dX13_ignites_33 ?_
    refine g_iload X 3 dX13_ignites_36 rfl ?_
    refine g_aload_n X 0 (i0 := 0) dX13_ignites_38 rfl rfl ?_
    refine g_iload_n X 1 (i0 := 2) dX13_ignites_39 rfl rfl ?_
    refine g_iload X 3 dX13_ignites_40 rfl ?_
    obtain ⟨r13, D12, e11, h⟩ := cI_s h
    refine g_V X (As := [.int x2, .int x4]) (rest := [.int x4, .ref (E.1 89)]) (c_X13_falls l G E x2 x4 _ _ e11) 84 (wg_84 E _) rfl rfl kv_X13_146 ⟨rfl, rfl⟩ ⟨rfl, hd_X13_falls⟩ (⟨Nat.le_of_ble_eq_true rfl, Nat.le_of_ble_eq_true rfl⟩) rfl rfl (Nat.le_of_ble_eq_true rfl) dX13_ignites_42 ?_
    refine g_if_eq X (tgt := 52) dX13_ignites_45 (by decide) (fun c18 => ?_) (fun c18 => ?_)
    · have h := (ite_s h).1 c18
      refine g_iconst X (v := (0 : Int32)) dX13_ignites_52 (by decide) ?_
      obtain ⟨b14, h⟩ := chk_s h
      refine g_iast X (D := D12) (f := (D12.2.2.1 74)) (i := x4) (x := (0 : Int32)) (D' := (setA D12 74 (upd (D12.2.2.1 74) x4.toNatClampNeg (0 : Int32)))) 89 (wg_89 E _) (inB_vp b14) (ws_A_74 E _ _) dX13_ignites_53 ?_
      refine g_iload_n X 2 (i0 := 3) dX13_ignites_54 rfl rfl ?_
      refine g_aload_n X 0 (i0 := 0) dX13_ignites_55 rfl rfl ?_
      refine g_get X (D := (setA D12 74 (upd (D12.2.2.1 74) x4.toNatClampNeg (0 : Int32)))) (v := .ref (E.1 89)) (T := TX13) 84 uX13 (wg_84 E _) rfl 9 (by decide) fl_X13_29 rfl rfl dX13_ignites_56 ?_
      refine g_iload X 3 dX13_ignites_59 rfl ?_
      obtain ⟨b15, h⟩ := chk_s h
      refine g_iald X (D := (setA D12 74 (upd (D12.2.2.1 74) x4.toNatClampNeg (0 : Int32)))) (f := (upd (D12.2.2.1 74) x4.toNatClampNeg (0 : Int32))) (i := x4) 89 (wg_89 E _) (inB_vp b15) dX13_ignites_61 ?_
      refine g_iadd X dX13_ignites_62 ?_
      refine g_istore_n X (i0 := 3) (lv' := [(3, .int (x3 + ((upd (D12.2.2.1 74) x4.toNatClampNeg (0 : Int32)) x4.toNatClampNeg))), (0, .ref (E.1 84)), (2, .int x2), (4, .int x4)]) dX13_ignites_63 rfl (by decide) rfl ?_
      refine g_iinc X 3 (v := (x4 + (1 : Int32))) (lv' := [(4, .int (x4 + (1 : Int32))), (3, .int (x3 + ((upd (D12.2.2.1 74) x4.toNatClampNeg (0 : Int32)) x4.toNatClampNeg))), (0, .ref (E.1 84)), (2, .int x2)]) dX13_ignites_64 rfl rfl (by decide) rfl ?_
      refine g_goto X (tgt := 25) dX13_ignites_67 (by decide) ?_
      refine g_sub (lv' := [(0, .ref (E.1 84)), (2, .int x2), (3, .int (x3 + ((upd (D12.2.2.1 74) x4.toNatClampNeg (0 : Int32)) x4.toNatClampNeg))), (4, .int (x4 + (1 : Int32)))]) [2, 3, 1, 0] rfl ?_
      exact h1 _ (Option.some.inj h).symm
    · have h := (ite_s h).2 c18
      refine g_iconst X (v := (1 : Int32)) dX13_ignites_48 (by decide) ?_
      refine g_goto X (tgt := 53) dX13_ignites_49 (by decide) ?_
      obtain ⟨b16, h⟩ := chk_s h
      refine g_iast X (D := D12) (f := (D12.2.2.1 74)) (i := x4) (x := (1 : Int32)) (D' := (setA D12 74 (upd (D12.2.2.1 74) x4.toNatClampNeg (1 : Int32)))) 89 (wg_89 E _) (inB_vp b16) (ws_A_74 E _ _) dX13_ignites_53 ?_
      refine g_iload_n X 2 (i0 := 3) dX13_ignites_54 rfl rfl ?_
      refine g_aload_n X 0 (i0 := 0) dX13_ignites_55 rfl rfl ?_
      refine g_get X (D := (setA D12 74 (upd (D12.2.2.1 74) x4.toNatClampNeg (1 : Int32)))) (v := .ref (E.1 89)) (T := TX13) 84 uX13 (wg_84 E _) rfl 9 (by decide) fl_X13_29 rfl rfl dX13_ignites_56 ?_
      refine g_iload X 3 dX13_ignites_59 rfl ?_
      obtain ⟨b17, h⟩ := chk_s h
      refine g_iald X (D := (setA D12 74 (upd (D12.2.2.1 74) x4.toNatClampNeg (1 : Int32)))) (f := (upd (D12.2.2.1 74) x4.toNatClampNeg (1 : Int32))) (i := x4) 89 (wg_89 E _) (inB_vp b17) dX13_ignites_61 ?_
      refine g_iadd X dX13_ignites_62 ?_
      refine g_istore_n X (i0 := 3) (lv' := [(3, .int (x3 + ((upd (D12.2.2.1 74) x4.toNatClampNeg (1 : Int32)) x4.toNatClampNeg))), (0, .ref (E.1 84)), (2, .int x2), (4, .int x4)]) dX13_ignites_63 rfl (by decide) rfl ?_
      refine g_iinc X 3 (v := (x4 + (1 : Int32))) (lv' := [(4, .int (x4 + (1 : Int32))), (3, .int (x3 + ((upd (D12.2.2.1 74) x4.toNatClampNeg (1 : Int32)) x4.toNatClampNeg))), (0, .ref (E.1 84)), (2, .int x2)]) dX13_ignites_64 rfl rfl (by decide) rfl ?_
      refine g_goto X (tgt := 25) dX13_ignites_67 (by decide) ?_
      refine g_sub (lv' := [(0, .ref (E.1 84)), (2, .int x2), (3, .int (x3 + ((upd (D12.2.2.1 74) x4.toNatClampNeg (1 : Int32)) x4.toNatClampNeg))), (4, .int (x4 + (1 : Int32)))]) [2, 3, 1, 0] rfl ?_
      exact h1 _ (Option.some.inj h).symm
set_option maxRecDepth 100000 in
set_option maxHeartbeats 4000000 in
theorem bl_X13_ignites_2 {p : Program} {l : Launch} {e : Env} {s : State} {m : MethodId} {args : Array Value} {below : List Frame} {meth : Method} {c : Code} {G : va_G} {E : EE} {r : RT} (X : CX p s m args meth c cX13_ignites RX13 5 G E) (hr : meth.sig.returnType = (some .int)) (x2 : Int32) (x3 : Int32) (x4 : Int32) (D : DD) (o : (Nat × List Int32 × DD) ⊕ RT) (h : b_X13_ignites_2 x2 x3 x4 D = some o) (h1 : ∀ x, o = .inl x → hg_X13_ignites p l e s m args below meth c G E r x.1 x.2.1 x.2.2) (h2 : ∀ x, o = .inr x → x = r) : GW p l e (rmm 3) s m args below meth c G E 5 (MQ below (QR G E s.heap.size r) args s 0 0 (fr E s.heap.size)) 0 0 D 73 [(0, .ref (E.1 84)), (2, .int x2), (3, .int x3), (4, .int x4)] [] := by
  unfold b_X13_ignites_2 at h
  refine g_iload X 3 dX13_ignites_73 rfl ?_
  refine g_bipush X (v := (36 : Int32)) dX13_ignites_75 (by decide) ?_
  refine g_icmp_ge X (tgt := 124) dX13_ignites_77 (by decide) (fun c26 => ?_) (fun c26 => ?_)
  · have h := (ite_s h).1 c26
    refine g_iconst X (v := (5 : Int32)) dX13_ignites_124 (by decide) ?_
    refine g_istore X (lv' := [(4, .int (5 : Int32)), (0, .ref (E.1 84)), (2, .int x2), (3, .int x3)]) dX13_ignites_125 (by decide) rfl ?_
    refine g_sub (lv' := [(0, .ref (E.1 84)), (2, .int x2), (3, .int x3), (4, .int (5 : Int32))]) [1, 2, 3, 0] rfl ?_
    exact h1 _ (Option.some.inj h).symm
  · have h := (ite_s h).2 c26
    refine g_aload_n X 0 (i0 := 0) dX13_ignites_80 rfl rfl ?_
    refine g_get X (D := D) (v := .ref (E.1 89)) (T := TX13) 84 uX13 (wg_84 E _) rfl 9 (by decide) fl_X13_29 rfl rfl dX13_ignites_81 ?_
    refine g_iload X 3 dX13_ignites_84 rfl ?_
    obtain ⟨b20, h⟩ := chk_s h
    refine g_iald X (D := D) (f := (D.2.2.1 74)) (i := x4) 89 (wg_89 E _) (inB_vp b20) dX13_ignites_86 ?_
    refine g_if_ne X (tgt := 93) dX13_ignites_87 (by decide) (fun c25 => ?_) (fun c25 => ?_)
    · have h := (ite_s h).2 c25
      refine g_aload_n X 0 (i0 := 0) dX13_ignites_93 rfl rfl ?_
      refine g_get X (D := D) (v := .ref (E.1 85)) (T := TX13) 84 uX13 (wg_84 E _) rfl 5 (by decide) fl_X13_16 rfl rfl dX13_ignites_94 ?_
      refine g_iconst X (v := (1 : Int32)) dX13_ignites_97 (by decide) ?_
      refine g_dup2 X dX13_ignites_98 rfl rfl ?_
      refine g_iald X (D := D) (f := (D.2.2.1 70)) (i := (1 : Int32)) 85 (wg_85 E _) (inB_vp (by decide)) dX13_ignites_99 ?_
      refine g_aload_n X 0 (i0 := 0) dX13_ignites_100 rfl rfl ?_
      refine g_iload X 3 dX13_ignites_101 rfl ?_
      obtain ⟨r23, D22, e21, h⟩ := cI_s h
      refine g_V X (As := [.int x4]) (rest := [.int ((D.2.2.1 70) (1 : Int32).toNatClampNeg), .int (1 : Int32), .ref (E.1 85)]) (c_X13_hard l G E x4 _ _ e21) 84 (wg_84 E _) rfl rfl kv_X13_88 ⟨rfl, rfl⟩ ⟨rfl, hd_X13_hard⟩ (⟨Nat.le_of_ble_eq_true rfl, Nat.le_of_ble_eq_true rfl⟩) rfl rfl (Nat.le_of_ble_eq_true rfl) dX13_ignites_103 ?_
      refine g_iadd X dX13_ignites_106 ?_
      refine g_iast X (D := D22) (f := (D22.2.2.1 70)) (i := (1 : Int32)) (x := (((D.2.2.1 70) (1 : Int32).toNatClampNeg) + r23)) (D' := (setA D22 70 (upd (D22.2.2.1 70) (1 : Int32).toNatClampNeg (((D.2.2.1 70) (1 : Int32).toNatClampNeg) + r23)))) 85 (wg_85 E _) (inB_vp (by decide)) (ws_A_70 E _ _) dX13_ignites_107 ?_
      refine g_aload_n X 0 (i0 := 0) dX13_ignites_108 rfl rfl ?_
      refine g_get X (D := (setA D22 70 (upd (D22.2.2.1 70) (1 : Int32).toNatClampNeg (((D.2.2.1 70) (1 : Int32).toNatClampNeg) + r23)))) (v := .ref (E.1 85)) (T := TX13) 84 uX13 (wg_84 E _) rfl 5 (by decide) fl_X13_16 rfl rfl dX13_ignites_109 ?_
      refine g_iconst X (v := (4 : Int32)) dX13_ignites_112 (by decide) ?_
      refine g_iload X 3 dX13_ignites_113 rfl ?_
      refine g_iadd X dX13_ignites_115 ?_
      refine g_iconst X (v := (0 : Int32)) dX13_ignites_116 (by decide) ?_
      obtain ⟨b24, h⟩ := chk_s h
      refine g_iast X (D := (setA D22 70 (upd (D22.2.2.1 70) (1 : Int32).toNatClampNeg (((D.2.2.1 70) (1 : Int32).toNatClampNeg) + r23)))) (f := (upd (D22.2.2.1 70) (1 : Int32).toNatClampNeg (((D.2.2.1 70) (1 : Int32).toNatClampNeg) + r23))) (i := ((4 : Int32) + x4)) (x := (0 : Int32)) (D' := (setA (setA D22 70 (upd (D22.2.2.1 70) (1 : Int32).toNatClampNeg (((D.2.2.1 70) (1 : Int32).toNatClampNeg) + r23))) 70 (upd (upd (D22.2.2.1 70) (1 : Int32).toNatClampNeg (((D.2.2.1 70) (1 : Int32).toNatClampNeg) + r23)) ((4 : Int32) + x4).toNatClampNeg (0 : Int32)))) 85 (wg_85 E _) (inB_vp b24) (ws_A_70 E _ _) dX13_ignites_117 ?_
      refine g_iinc X 3 (v := (x4 + (1 : Int32))) (lv' := [(4, .int (x4 + (1 : Int32))), (0, .ref (E.1 84)), (2, .int x2), (3, .int x3)]) dX13_ignites_118 rfl rfl (by decide) rfl ?_
      refine g_goto X (tgt := 73) dX13_ignites_121 (by decide) ?_
      refine g_sub (lv' := [(0, .ref (E.1 84)), (2, .int x2), (3, .int x3), (4, .int (x4 + (1 : Int32)))]) [1, 2, 3, 0] rfl ?_
      exact h1 _ (Option.some.inj h).symm
    · have h := (ite_s h).1 c25
      refine g_goto X (tgt := 118) dX13_ignites_90 (by decide) ?_
      refine g_iinc X 3 (v := (x4 + (1 : Int32))) (lv' := [(4, .int (x4 + (1 : Int32))), (0, .ref (E.1 84)), (2, .int x2), (3, .int x3)]) dX13_ignites_118 rfl rfl (by decide) rfl ?_
      refine g_goto X (tgt := 73) dX13_ignites_121 (by decide) ?_
      refine g_sub (lv' := [(0, .ref (E.1 84)), (2, .int x2), (3, .int x3), (4, .int (x4 + (1 : Int32)))]) [1, 2, 3, 0] rfl ?_
      exact h1 _ (Option.some.inj h).symm
set_option maxRecDepth 100000 in
set_option maxHeartbeats 4000000 in
theorem bl_X13_ignites_3 {p : Program} {l : Launch} {e : Env} {s : State} {m : MethodId} {args : Array Value} {below : List Frame} {meth : Method} {c : Code} {G : va_G} {E : EE} {r : RT} (X : CX p s m args meth c cX13_ignites RX13 5 G E) (hr : meth.sig.returnType = (some .int)) (x2 : Int32) (x3 : Int32) (x4 : Int32) (D : DD) (o : (Nat × List Int32 × DD) ⊕ RT) (h : b_X13_ignites_3 x2 x3 x4 D = some o) (h1 : ∀ x, o = .inl x → hg_X13_ignites p l e s m args below meth c G E r x.1 x.2.1 x.2.2) (h2 : ∀ x, o = .inr x → x = r) : GW p l e (rmm 3) s m args below meth c G E 5 (MQ below (QR G E s.heap.size r) args s 0 0 (fr E s.heap.size)) 0 0 D 127 [(0, .ref (E.1 84)), (2, .int x2), (3, .int x3), (4, .int x4)] [] := by
  unfold b_X13_ignites_3 at h
  refine g_iload X 3 dX13_ignites_127 rfl ?_
  refine g_if_lt X (tgt := 154) dX13_ignites_129 (by decide) (fun c30 => ?_) (fun c30 => ?_)
  · have h := (ite_s h).1 c30
    refine g_iload_n X 2 (i0 := 3) dX13_ignites_154 rfl rfl ?_
    exact g_iret X hr rfl dX13_ignites_155 (h2 _ (Option.some.inj h).symm)
  · have h := (ite_s h).2 c30
    refine g_iload_n X 1 (i0 := 2) dX13_ignites_132 rfl rfl ?_
    refine g_iload X 3 dX13_ignites_133 rfl ?_
    refine g_ishr X dX13_ignites_135 ?_
    refine g_iconst X (v := (1 : Int32)) dX13_ignites_136 (by decide) ?_
    refine g_iand X dX13_ignites_137 ?_
    refine g_iconst X (v := (1 : Int32)) dX13_ignites_138 (by decide) ?_
    refine g_icmp_ne X (tgt := 148) dX13_ignites_139 (by decide) (fun c29 => ?_) (fun c29 => ?_)
    · have h := (ite_s h).2 c29
      refine g_iinc X 3 (v := (x4 + (-1 : Int32))) (lv' := [(4, .int (x4 + (-1 : Int32))), (0, .ref (E.1 84)), (2, .int x2), (3, .int x3)]) dX13_ignites_148 rfl rfl (by decide) rfl ?_
      refine g_goto X (tgt := 127) dX13_ignites_151 (by decide) ?_
      refine g_sub (lv' := [(0, .ref (E.1 84)), (2, .int x2), (3, .int x3), (4, .int (x4 + (-1 : Int32)))]) [1, 2, 3, 0] rfl ?_
      exact h1 _ (Option.some.inj h).symm
    · have h := (ite_s h).1 c29
      refine g_aload_n X 0 (i0 := 0) dX13_ignites_142 rfl rfl ?_
      refine g_iload X 3 dX13_ignites_143 rfl ?_
      obtain ⟨D28, e27, h⟩ := cV_s h
      refine g_V X (As := [.int x4]) (rest := []) (c_X13_goes l G E x4 _ _ e27) 84 (wg_84 E _) rfl rfl kv_X13_127 ⟨rfl, rfl⟩ ⟨rfl, hd_X13_goes⟩ (⟨Nat.le_of_ble_eq_true rfl, Nat.le_of_ble_eq_true rfl⟩) rfl rfl (Nat.le_of_ble_eq_true rfl) dX13_ignites_145 ?_
      refine g_iinc X 3 (v := (x4 + (-1 : Int32))) (lv' := [(4, .int (x4 + (-1 : Int32))), (0, .ref (E.1 84)), (2, .int x2), (3, .int x3)]) dX13_ignites_148 rfl rfl (by decide) rfl ?_
      refine g_goto X (tgt := 127) dX13_ignites_151 (by decide) ?_
      refine g_sub (lv' := [(0, .ref (E.1 84)), (2, .int x2), (3, .int x3), (4, .int (x4 + (-1 : Int32)))]) [1, 2, 3, 0] rfl ?_
      exact h1 _ (Option.some.inj h).symm
set_option maxRecDepth 100000 in
set_option maxHeartbeats 4000000 in
theorem c_X13_ignites (l : Launch) (G : va_G) (E : EE) (a0 : Int32) (D : DD) (r : RT) (h : S_X13_ignites a0 D = some r) : MM l G E yX13_ignites cX13_ignites 5 (some .int) (rmm 3) [.ref (E.1 84), .int a0] D r := by
  unfold S_X13_ignites at h
  refine m_of rfl (Nat.le_of_ble_eq_true rfl) ?_
  intro p e s m args below meth c X hr
  exact run_G (T := T_X13_ignites) (HG := hg_X13_ignites p l e s m args below meth c G E r) (by
    intro k ls D o hT h1 h2
    unfold T_X13_ignites at hT
    split at hT
    · exact bl_X13_ignites_0 X hr _ D o hT h1 h2
    · exact bl_X13_ignites_1 X hr _ _ _ D o hT h1 h2
    · exact bl_X13_ignites_2 X hr _ _ _ D o hT h1 h2
    · exact bl_X13_ignites_3 X hr _ _ _ D o hT h1 h2
    · cases hT) FUEL 0 [a0] D h
theorem hd_X13_ignites : yX13_ignites.cls ≠ "java/lang/invoke/MethodHandle" ∧ yX13_ignites.cls ≠ "java/lang/invoke/VarHandle" ∧ (parseMethodDescriptor yX13_ignites.desc).map (fun d => d.parameters.length) = some 1 := by decide +kernel
theorem wc_X13_ignites : Cond.code yX13_ignites cX13_ignites 5 (some .int) ∈ UT := ut 1548 (by decide +kernel) (by decide +kernel)
theorem we_X13_ignites : Cond.selects RX13 yX13_ignites yX13_ignites ∈ UT := ut 52 (by decide +kernel) (by decide +kernel)
theorem wm_X13_ignites : Cond.instanceMethod yX13_ignites ∈ UT := ut 1547 (by decide +kernel) (by decide +kernel)
theorem kv_X13_149 : GoodIn UT (wsV RX13 149 RX13 yX13_ignites (Cond.code yX13_ignites cX13_ignites 5 (some .int) :: UT)) := gu_V (ut 1545 (by decide +kernel) (by decide +kernel)) wm_X13_ignites we_X13_ignites wi_RX13 wc_X13_ignites
def S_X13_ignite (a0 : Int32) (D : DD) : Option RT := (cV (S_X13_begins D) (fun D2 => (cI (S_X13_ignites a0 D2) (fun r5 D4 => (cI (S_X13_ends r5 D4) (fun r8 D7 => some (0, some (.int r8), D7)))))))
set_option maxRecDepth 100000 in
set_option maxHeartbeats 4000000 in
theorem c_X13_ignite (l : Launch) (G : va_G) (E : EE) (a0 : Int32) (D : DD) (r : RT) (h : S_X13_ignite a0 D = some r) : MM l G E yX13_ignite cX13_ignite 2 (some .int) (rmm 4) [.ref (E.1 84), .int a0] D r := by
  refine m_of rfl (Nat.le_of_ble_eq_true rfl) ?_
  intro p e s m args below meth c X hr
  unfold S_X13_ignite at h
  refine g_aload_n X 0 (i0 := 0) dX13_ignite_0 rfl rfl ?_
  obtain ⟨D2, e1, h⟩ := cV_s h
  refine g_V X (As := []) (rest := []) (c_X13_begins l G E  _ _ e1) 84 (wg_84 E _) rfl rfl kv_X13_91 ⟨rfl, rfl⟩ ⟨rfl, hd_X13_begins⟩ (⟨Nat.le_of_ble_eq_true rfl, Nat.le_of_ble_eq_true rfl⟩) rfl rfl (Nat.le_of_ble_eq_true rfl) dX13_ignite_1 ?_
  refine g_aload_n X 0 (i0 := 0) dX13_ignite_4 rfl rfl ?_
  refine g_aload_n X 0 (i0 := 0) dX13_ignite_5 rfl rfl ?_
  refine g_iload_n X 1 (i0 := 1) dX13_ignite_6 rfl rfl ?_
  obtain ⟨r5, D4, e3, h⟩ := cI_s h
  refine g_V X (As := [.int a0]) (rest := [.ref (E.1 84)]) (c_X13_ignites l G E a0 _ _ e3) 84 (wg_84 E _) rfl rfl kv_X13_149 ⟨rfl, rfl⟩ ⟨rfl, hd_X13_ignites⟩ (⟨Nat.le_of_ble_eq_true rfl, Nat.le_of_ble_eq_true rfl⟩) rfl rfl (Nat.le_of_ble_eq_true rfl) dX13_ignite_7 ?_
  obtain ⟨r8, D7, e6, h⟩ := cI_s h
  refine g_V X (As := [.int r5]) (rest := []) (c_X13_ends l G E r5 _ _ e6) 84 (wg_84 E _) rfl rfl kv_X13_98 ⟨rfl, rfl⟩ ⟨rfl, hd_X13_ends⟩ (⟨Nat.le_of_ble_eq_true rfl, Nat.le_of_ble_eq_true rfl⟩) rfl rfl (Nat.le_of_ble_eq_true rfl) dX13_ignite_10 ?_
  exact g_iret X hr rfl dX13_ignite_13 (Option.some.inj h)
def S_X13_tells (a0 : Int32) (D : DD) : Option RT := (if inB a0 62 = true then some (0, some (.int ((D.2.2.1 70) a0.toNatClampNeg)), (setI D 140 (0 : Int32))) else none)
set_option maxRecDepth 100000 in
set_option maxHeartbeats 4000000 in
theorem c_X13_tells (l : Launch) (G : va_G) (E : EE) (a0 : Int32) (D : DD) (r : RT) (h : S_X13_tells a0 D = some r) : MM l G E yX13_tells cX13_tells 2 (some .int) (rmm 0) [.ref (E.1 84), .int a0] D r := by
  refine m_of rfl (Nat.le_of_ble_eq_true rfl) ?_
  intro p e s m args below meth c X hr
  unfold S_X13_tells at h
  refine g_aload_n X 0 (i0 := 0) dX13_tells_0 rfl rfl ?_
  refine g_iconst X (v := (0 : Int32)) dX13_tells_1 (by decide) ?_
  refine g_put X (D := D) (v := .int (0 : Int32)) (T := TX13) (D' := (setI D 140 (0 : Int32))) 84 uX13 tyX13 tyX13_ok nmX13 (wg_84 E _) rfl 0 (by decide) fl_X13_59 rfl rfl rfl rfl (Nat.le_of_ble_eq_true rfl) (ws_I_140 E _ _) dX13_tells_2 ?_
  refine g_aload_n X 0 (i0 := 0) dX13_tells_5 rfl rfl ?_
  refine g_get X (D := (setI D 140 (0 : Int32))) (v := .ref (E.1 85)) (T := TX13) 84 uX13 (wg_84 E _) rfl 5 (by decide) fl_X13_16 rfl rfl dX13_tells_6 ?_
  refine g_iload_n X 1 (i0 := 1) dX13_tells_9 rfl rfl ?_
  obtain ⟨b1, h⟩ := chk_s h
  refine g_iald X (D := (setI D 140 (0 : Int32))) (f := (D.2.2.1 70)) (i := a0) 85 (wg_85 E _) (inB_vp b1) dX13_tells_10 ?_
  exact g_iret X hr rfl dX13_tells_11 (Option.some.inj h)
theorem hd_X13_tells : yX13_tells.cls ≠ "java/lang/invoke/MethodHandle" ∧ yX13_tells.cls ≠ "java/lang/invoke/VarHandle" ∧ (parseMethodDescriptor yX13_tells.desc).map (fun d => d.parameters.length) = some 1 := by decide +kernel
theorem wc_X13_tells : Cond.code yX13_tells cX13_tells 2 (some .int) ∈ UT := ut 1575 (by decide +kernel) (by decide +kernel)
theorem we_X13_tells : Cond.selects RX13 yX13_tells yX13_tells ∈ UT := ut 57 (by decide +kernel) (by decide +kernel)
theorem wm_X13_tells : Cond.instanceMethod yX13_tells ∈ UT := ut 1574 (by decide +kernel) (by decide +kernel)
theorem kv_X13_152 : GoodIn UT (wsV RX13 152 RX13 yX13_tells (Cond.code yX13_tells cX13_tells 2 (some .int) :: UT)) := gu_V (ut 1572 (by decide +kernel) (by decide +kernel)) wm_X13_tells we_X13_tells wi_RX13 wc_X13_tells
def S_X13_chargeCount  (D : DD) : Option RT := (cI (S_X13_tells (3 : Int32) D) (fun r3 D2 => some (0, some (.int r3), D2)))
set_option maxRecDepth 100000 in
set_option maxHeartbeats 4000000 in
theorem c_X13_chargeCount (l : Launch) (G : va_G) (E : EE)  (D : DD) (r : RT) (h : S_X13_chargeCount  D = some r) : MM l G E yX13_chargeCount cX13_chargeCount 1 (some .int) (rmm 1) [.ref (E.1 84)] D r := by
  refine m_of rfl (Nat.le_of_ble_eq_true rfl) ?_
  intro p e s m args below meth c X hr
  unfold S_X13_chargeCount at h
  refine g_aload_n X 0 (i0 := 0) dX13_chargeCount_0 rfl rfl ?_
  refine g_iconst X (v := (3 : Int32)) dX13_chargeCount_1 (by decide) ?_
  obtain ⟨r3, D2, e1, h⟩ := cI_s h
  refine g_V X (As := [.int (3 : Int32)]) (rest := []) (c_X13_tells l G E (3 : Int32) _ _ e1) 84 (wg_84 E _) rfl rfl kv_X13_152 ⟨rfl, rfl⟩ ⟨rfl, hd_X13_tells⟩ (⟨Nat.le_of_ble_eq_true rfl, Nat.le_of_ble_eq_true rfl⟩) rfl rfl (Nat.le_of_ble_eq_true rfl) dX13_chargeCount_2 ?_
  exact g_iret X hr rfl dX13_chargeCount_5 (Option.some.inj h)
def S_X13_looks (a0 : Int32) (D : DD) : Option RT := (cI (S_X13_isCharge a0 D) (fun r3 D2 => (if r3 = 0 then (if (1 : Int32) = 0 then some (0, some (.int (1 : Int32)), (setI D2 140 (1 : Int32))) else some (0, some (.int (0 : Int32)), (setI D2 140 (1 : Int32)))) else (if (0 : Int32) = 0 then some (0, some (.int (1 : Int32)), (setI D2 140 (0 : Int32))) else some (0, some (.int (0 : Int32)), (setI D2 140 (0 : Int32)))))))
set_option maxRecDepth 100000 in
set_option maxHeartbeats 4000000 in
theorem c_X13_looks (l : Launch) (G : va_G) (E : EE) (a0 : Int32) (D : DD) (r : RT) (h : S_X13_looks a0 D = some r) : MM l G E yX13_looks cX13_looks 2 (some .boolean) (rmm 2) [.ref (E.1 84), .int a0] D r := by
  refine m_of rfl (Nat.le_of_ble_eq_true rfl) ?_
  intro p e s m args below meth c X hr
  unfold S_X13_looks at h
  refine g_aload_n X 0 (i0 := 0) dX13_looks_0 rfl rfl ?_
  refine g_aload_n X 0 (i0 := 0) dX13_looks_1 rfl rfl ?_
  refine g_iload_n X 1 (i0 := 1) dX13_looks_2 rfl rfl ?_
  obtain ⟨r3, D2, e1, h⟩ := cI_s h
  refine g_V X (As := [.int a0]) (rest := [.ref (E.1 84)]) (c_X13_isCharge l G E a0 _ _ e1) 84 (wg_84 E _) rfl rfl kv_X13_124 ⟨rfl, rfl⟩ ⟨rfl, hd_X13_isCharge⟩ (⟨Nat.le_of_ble_eq_true rfl, Nat.le_of_ble_eq_true rfl⟩) rfl rfl (Nat.le_of_ble_eq_true rfl) dX13_looks_3 ?_
  refine g_if_eq X (tgt := 13) dX13_looks_6 (by decide) (fun c6 => ?_) (fun c6 => ?_)
  · have h := (ite_s h).1 c6
    refine g_iconst X (v := (1 : Int32)) dX13_looks_13 (by decide) ?_
    refine g_put X (D := D2) (v := .int (1 : Int32)) (T := TX13) (D' := (setI D2 140 (1 : Int32))) 84 uX13 tyX13 tyX13_ok nmX13 (wg_84 E _) rfl 0 (by decide) fl_X13_59 rfl rfl rfl rfl (Nat.le_of_ble_eq_true rfl) (ws_I_140 E _ _) dX13_looks_14 ?_
    refine g_aload_n X 0 (i0 := 0) dX13_looks_17 rfl rfl ?_
    refine g_get X (D := (setI D2 140 (1 : Int32))) (v := .int (1 : Int32)) (T := TX13) 84 uX13 (wg_84 E _) rfl 0 (by decide) fl_X13_59 rfl rfl dX13_looks_18 ?_
    refine g_if_ne X (tgt := 28) dX13_looks_21 (by decide) (fun c4 => ?_) (fun c4 => ?_)
    · have h := (ite_s h).2 c4
      refine g_iconst X (v := (0 : Int32)) dX13_looks_28 (by decide) ?_
      exact g_iret X hr rfl dX13_looks_29 (Option.some.inj h)
    · have h := (ite_s h).1 c4
      refine g_iconst X (v := (1 : Int32)) dX13_looks_24 (by decide) ?_
      refine g_goto X (tgt := 29) dX13_looks_25 (by decide) ?_
      exact g_iret X hr rfl dX13_looks_29 (Option.some.inj h)
  · have h := (ite_s h).2 c6
    refine g_iconst X (v := (0 : Int32)) dX13_looks_9 (by decide) ?_
    refine g_goto X (tgt := 14) dX13_looks_10 (by decide) ?_
    refine g_put X (D := D2) (v := .int (0 : Int32)) (T := TX13) (D' := (setI D2 140 (0 : Int32))) 84 uX13 tyX13 tyX13_ok nmX13 (wg_84 E _) rfl 0 (by decide) fl_X13_59 rfl rfl rfl rfl (Nat.le_of_ble_eq_true rfl) (ws_I_140 E _ _) dX13_looks_14 ?_
    refine g_aload_n X 0 (i0 := 0) dX13_looks_17 rfl rfl ?_
    refine g_get X (D := (setI D2 140 (0 : Int32))) (v := .int (0 : Int32)) (T := TX13) 84 uX13 (wg_84 E _) rfl 0 (by decide) fl_X13_59 rfl rfl dX13_looks_18 ?_
    refine g_if_ne X (tgt := 28) dX13_looks_21 (by decide) (fun c5 => ?_) (fun c5 => ?_)
    · have h := (ite_s h).2 c5
      refine g_iconst X (v := (0 : Int32)) dX13_looks_28 (by decide) ?_
      exact g_iret X hr rfl dX13_looks_29 (Option.some.inj h)
    · have h := (ite_s h).1 c5
      refine g_iconst X (v := (1 : Int32)) dX13_looks_24 (by decide) ?_
      refine g_goto X (tgt := 29) dX13_looks_25 (by decide) ?_
      exact g_iret X hr rfl dX13_looks_29 (Option.some.inj h)
theorem hd_X13_looks : yX13_looks.cls ≠ "java/lang/invoke/MethodHandle" ∧ yX13_looks.cls ≠ "java/lang/invoke/VarHandle" ∧ (parseMethodDescriptor yX13_looks.desc).map (fun d => d.parameters.length) = some 1 := by decide +kernel
theorem wc_X13_looks : Cond.code yX13_looks cX13_looks 2 (some .boolean) ∈ UT := ut 1583 (by decide +kernel) (by decide +kernel)
theorem we_X13_looks : Cond.selects RX13 yX13_looks yX13_looks ∈ UT := ut 58 (by decide +kernel) (by decide +kernel)
theorem wm_X13_looks : Cond.instanceMethod yX13_looks ∈ UT := ut 1582 (by decide +kernel) (by decide +kernel)
theorem kv_X13_155 : GoodIn UT (wsV RX13 155 RX13 yX13_looks (Cond.code yX13_looks cX13_looks 2 (some .boolean) :: UT)) := gu_V (ut 1580 (by decide +kernel) (by decide +kernel)) wm_X13_looks we_X13_looks wi_RX13 wc_X13_looks
def S_X13_chargeRow (a0 : Int32) (D : DD) : Option RT := (cI (S_X13_looks a0 D) (fun r3 D2 => (if r3 = 0 then some (0, some (.int (0 : Int32)), D2) else (cI (S_X13_placeOf a0 D2) (fun r6 D5 => some (0, some (.int (r6 / (6 : Int32))), D5))))))
set_option maxRecDepth 100000 in
set_option maxHeartbeats 4000000 in
theorem c_X13_chargeRow (l : Launch) (G : va_G) (E : EE) (a0 : Int32) (D : DD) (r : RT) (h : S_X13_chargeRow a0 D = some r) : MM l G E yX13_chargeRow cX13_chargeRow 2 (some .int) (rmm 3) [.ref (E.1 84), .int a0] D r := by
  refine m_of rfl (Nat.le_of_ble_eq_true rfl) ?_
  intro p e s m args below meth c X hr
  unfold S_X13_chargeRow at h
  refine g_aload_n X 0 (i0 := 0) dX13_chargeRow_0 rfl rfl ?_
  refine g_iload_n X 1 (i0 := 1) dX13_chargeRow_1 rfl rfl ?_
  obtain ⟨r3, D2, e1, h⟩ := cI_s h
  refine g_V X (As := [.int a0]) (rest := []) (c_X13_looks l G E a0 _ _ e1) 84 (wg_84 E _) rfl rfl kv_X13_155 ⟨rfl, rfl⟩ ⟨rfl, hd_X13_looks⟩ (⟨Nat.le_of_ble_eq_true rfl, Nat.le_of_ble_eq_true rfl⟩) rfl rfl (Nat.le_of_ble_eq_true rfl) dX13_chargeRow_2 ?_
  refine g_if_eq X (tgt := 19) dX13_chargeRow_5 (by decide) (fun c7 => ?_) (fun c7 => ?_)
  · have h := (ite_s h).1 c7
    refine g_iconst X (v := (0 : Int32)) dX13_chargeRow_19 (by decide) ?_
    exact g_iret X hr rfl dX13_chargeRow_20 (Option.some.inj h)
  · have h := (ite_s h).2 c7
    refine g_aload_n X 0 (i0 := 0) dX13_chargeRow_8 rfl rfl ?_
    refine g_iload_n X 1 (i0 := 1) dX13_chargeRow_9 rfl rfl ?_
    obtain ⟨r6, D5, e4, h⟩ := cI_s h
    refine g_V X (As := [.int a0]) (rest := []) (c_X13_placeOf l G E a0 _ _ e4) 84 (wg_84 E _) rfl rfl kv_X13_73 ⟨rfl, rfl⟩ ⟨rfl, hd_X13_placeOf⟩ (⟨Nat.le_of_ble_eq_true rfl, Nat.le_of_ble_eq_true rfl⟩) rfl rfl (Nat.le_of_ble_eq_true rfl) dX13_chargeRow_10 ?_
    refine g_bipush X (v := (6 : Int32)) dX13_chargeRow_13 (by decide) ?_
    refine g_idiv X (by decide) dX13_chargeRow_15 ?_
    refine g_goto X (tgt := 20) dX13_chargeRow_16 (by decide) ?_
    exact g_iret X hr rfl dX13_chargeRow_20 (Option.some.inj h)
def S_X13_chargeColumn (a0 : Int32) (D : DD) : Option RT := (cI (S_X13_looks a0 D) (fun r3 D2 => (if r3 = 0 then some (0, some (.int (0 : Int32)), D2) else (cI (S_X13_placeOf a0 D2) (fun r6 D5 => some (0, some (.int (r6 - r6 / (6 : Int32) * (6 : Int32))), D5))))))
set_option maxRecDepth 100000 in
set_option maxHeartbeats 4000000 in
theorem c_X13_chargeColumn (l : Launch) (G : va_G) (E : EE) (a0 : Int32) (D : DD) (r : RT) (h : S_X13_chargeColumn a0 D = some r) : MM l G E yX13_chargeColumn cX13_chargeColumn 2 (some .int) (rmm 3) [.ref (E.1 84), .int a0] D r := by
  refine m_of rfl (Nat.le_of_ble_eq_true rfl) ?_
  intro p e s m args below meth c X hr
  unfold S_X13_chargeColumn at h
  refine g_aload_n X 0 (i0 := 0) dX13_chargeColumn_0 rfl rfl ?_
  refine g_iload_n X 1 (i0 := 1) dX13_chargeColumn_1 rfl rfl ?_
  obtain ⟨r3, D2, e1, h⟩ := cI_s h
  refine g_V X (As := [.int a0]) (rest := []) (c_X13_looks l G E a0 _ _ e1) 84 (wg_84 E _) rfl rfl kv_X13_155 ⟨rfl, rfl⟩ ⟨rfl, hd_X13_looks⟩ (⟨Nat.le_of_ble_eq_true rfl, Nat.le_of_ble_eq_true rfl⟩) rfl rfl (Nat.le_of_ble_eq_true rfl) dX13_chargeColumn_2 ?_
  refine g_if_eq X (tgt := 19) dX13_chargeColumn_5 (by decide) (fun c7 => ?_) (fun c7 => ?_)
  · have h := (ite_s h).1 c7
    refine g_iconst X (v := (0 : Int32)) dX13_chargeColumn_19 (by decide) ?_
    exact g_iret X hr rfl dX13_chargeColumn_20 (Option.some.inj h)
  · have h := (ite_s h).2 c7
    refine g_aload_n X 0 (i0 := 0) dX13_chargeColumn_8 rfl rfl ?_
    refine g_iload_n X 1 (i0 := 1) dX13_chargeColumn_9 rfl rfl ?_
    obtain ⟨r6, D5, e4, h⟩ := cI_s h
    refine g_V X (As := [.int a0]) (rest := []) (c_X13_placeOf l G E a0 _ _ e4) 84 (wg_84 E _) rfl rfl kv_X13_73 ⟨rfl, rfl⟩ ⟨rfl, hd_X13_placeOf⟩ (⟨Nat.le_of_ble_eq_true rfl, Nat.le_of_ble_eq_true rfl⟩) rfl rfl (Nat.le_of_ble_eq_true rfl) dX13_chargeColumn_10 ?_
    refine g_bipush X (v := (6 : Int32)) dX13_chargeColumn_13 (by decide) ?_
    refine g_irem X (by decide) dX13_chargeColumn_15 ?_
    refine g_goto X (tgt := 20) dX13_chargeColumn_16 (by decide) ?_
    exact g_iret X hr rfl dX13_chargeColumn_20 (Option.some.inj h)
def S_X13_chargeStrength (a0 : Int32) (D : DD) : Option RT := (cI (S_X13_looks a0 D) (fun r3 D2 => (if r3 = 0 then some (0, some (.int (0 : Int32)), D2) else (cI (S_X13_strength a0 D2) (fun r6 D5 => some (0, some (.int r6), D5))))))
set_option maxRecDepth 100000 in
set_option maxHeartbeats 4000000 in
theorem c_X13_chargeStrength (l : Launch) (G : va_G) (E : EE) (a0 : Int32) (D : DD) (r : RT) (h : S_X13_chargeStrength a0 D = some r) : MM l G E yX13_chargeStrength cX13_chargeStrength 2 (some .int) (rmm 3) [.ref (E.1 84), .int a0] D r := by
  refine m_of rfl (Nat.le_of_ble_eq_true rfl) ?_
  intro p e s m args below meth c X hr
  unfold S_X13_chargeStrength at h
  refine g_aload_n X 0 (i0 := 0) dX13_chargeStrength_0 rfl rfl ?_
  refine g_iload_n X 1 (i0 := 1) dX13_chargeStrength_1 rfl rfl ?_
  obtain ⟨r3, D2, e1, h⟩ := cI_s h
  refine g_V X (As := [.int a0]) (rest := []) (c_X13_looks l G E a0 _ _ e1) 84 (wg_84 E _) rfl rfl kv_X13_155 ⟨rfl, rfl⟩ ⟨rfl, hd_X13_looks⟩ (⟨Nat.le_of_ble_eq_true rfl, Nat.le_of_ble_eq_true rfl⟩) rfl rfl (Nat.le_of_ble_eq_true rfl) dX13_chargeStrength_2 ?_
  refine g_if_eq X (tgt := 16) dX13_chargeStrength_5 (by decide) (fun c7 => ?_) (fun c7 => ?_)
  · have h := (ite_s h).1 c7
    refine g_iconst X (v := (0 : Int32)) dX13_chargeStrength_16 (by decide) ?_
    exact g_iret X hr rfl dX13_chargeStrength_17 (Option.some.inj h)
  · have h := (ite_s h).2 c7
    refine g_aload_n X 0 (i0 := 0) dX13_chargeStrength_8 rfl rfl ?_
    refine g_iload_n X 1 (i0 := 1) dX13_chargeStrength_9 rfl rfl ?_
    obtain ⟨r6, D5, e4, h⟩ := cI_s h
    refine g_V X (As := [.int a0]) (rest := []) (c_X13_strength l G E a0 _ _ e4) 84 (wg_84 E _) rfl rfl kv_X13_134 ⟨rfl, rfl⟩ ⟨rfl, hd_X13_strength⟩ (⟨Nat.le_of_ble_eq_true rfl, Nat.le_of_ble_eq_true rfl⟩) rfl rfl (Nat.le_of_ble_eq_true rfl) dX13_chargeStrength_10 ?_
    refine g_goto X (tgt := 17) dX13_chargeStrength_13 (by decide) ?_
    exact g_iret X hr rfl dX13_chargeStrength_17 (Option.some.inj h)
def b_X13_count_0 (a0 : Int32) (D : DD) : Option ((Nat × List Int32 × DD) ⊕ RT) := some (.inl (1, [(0 : Int32), a0], D))
def b_X13_count_1 (x1 : Int32) (x2 : Int32) (D : DD) : Option ((Nat × List Int32 × DD) ⊕ RT) := (if x2 = 0 then some (.inr (0, some (.int x1), D)) else some (.inl (1, [(x1 + (1 : Int32)), (x2 &&& (x2 - (1 : Int32)))], D)))
def T_X13_count (k : Nat) (ls : List Int32) (D : DD) : Option ((Nat × List Int32 × DD) ⊕ RT) := match k, ls with
  | 0, [a0] => b_X13_count_0 a0 D
  | 1, [x1, x2] => b_X13_count_1 x1 x2 D
  | _, _ => none
def S_X13_count (a0 : Int32) (D : DD) : Option RT := run T_X13_count FUEL 0 [a0] D
def hg_X13_count (p : Program) (l : Launch) (e : Env) (s : State) (m : MethodId) (args : Array Value) (below : List Frame) (meth : Method) (c : Code) (G : va_G) (E : EE) (r : RT) (k : Nat) (ls : List Int32) (D : DD) : Prop := match k, ls with
  | 0, [a0] => GW p l e (rmm 0) s m args below meth c G E 3 (MQ below (QR G E s.heap.size r) args s 0 0 (fr E s.heap.size)) 0 0 D 0 [(0, .int a0)] []
  | 1, [x1, x2] => GW p l e (rmm 0) s m args below meth c G E 3 (MQ below (QR G E s.heap.size r) args s 0 0 (fr E s.heap.size)) 0 0 D 4 [(1, .int x1), (2, .int x2)] []
  | _, _ => True
set_option maxRecDepth 100000 in
set_option maxHeartbeats 4000000 in
theorem bl_X13_count_0 {p : Program} {l : Launch} {e : Env} {s : State} {m : MethodId} {args : Array Value} {below : List Frame} {meth : Method} {c : Code} {G : va_G} {E : EE} {r : RT} (X : CX p s m args meth c cX13_count RX13 3 G E) (hr : meth.sig.returnType = (some .int)) (a0 : Int32) (D : DD) (o : (Nat × List Int32 × DD) ⊕ RT) (h : b_X13_count_0 a0 D = some o) (h1 : ∀ x, o = .inl x → hg_X13_count p l e s m args below meth c G E r x.1 x.2.1 x.2.2) (h2 : ∀ x, o = .inr x → x = r) : GW p l e (rmm 0) s m args below meth c G E 3 (MQ below (QR G E s.heap.size r) args s 0 0 (fr E s.heap.size)) 0 0 D 0 [(0, .int a0)] [] := by
  unfold b_X13_count_0 at h
  refine g_iconst X (v := (0 : Int32)) dX13_count_0 (by decide) ?_
  refine g_istore_n X (i0 := 1) (lv' := [(1, .int (0 : Int32)), (0, .int a0)]) dX13_count_1 rfl (by decide) rfl ?_
  refine g_iload_n X 1 (i0 := 0) dX13_count_2 rfl rfl ?_
  refine g_istore_n X (i0 := 2) (lv' := [(2, .int a0), (1, .int (0 : Int32)), (0, .int a0)]) dX13_count_3 rfl (by decide) rfl ?_
  refine g_sub (lv' := [(1, .int (0 : Int32)), (2, .int a0)]) [1, 0] rfl ?_
  exact h1 _ (Option.some.inj h).symm
set_option maxRecDepth 100000 in
set_option maxHeartbeats 4000000 in
theorem bl_X13_count_1 {p : Program} {l : Launch} {e : Env} {s : State} {m : MethodId} {args : Array Value} {below : List Frame} {meth : Method} {c : Code} {G : va_G} {E : EE} {r : RT} (X : CX p s m args meth c cX13_count RX13 3 G E) (hr : meth.sig.returnType = (some .int)) (x1 : Int32) (x2 : Int32) (D : DD) (o : (Nat × List Int32 × DD) ⊕ RT) (h : b_X13_count_1 x1 x2 D = some o) (h1 : ∀ x, o = .inl x → hg_X13_count p l e s m args below meth c G E r x.1 x.2.1 x.2.2) (h2 : ∀ x, o = .inr x → x = r) : GW p l e (rmm 0) s m args below meth c G E 3 (MQ below (QR G E s.heap.size r) args s 0 0 (fr E s.heap.size)) 0 0 D 4 [(1, .int x1), (2, .int x2)] [] := by
  unfold b_X13_count_1 at h
  refine g_iload_n X 1 (i0 := 2) dX13_count_4 rfl rfl ?_
  refine g_if_eq X (tgt := 20) dX13_count_5 (by decide) (fun c1 => ?_) (fun c1 => ?_)
  · have h := (ite_s h).1 c1
    refine g_iload_n X 0 (i0 := 1) dX13_count_20 rfl rfl ?_
    exact g_iret X hr rfl dX13_count_21 (h2 _ (Option.some.inj h).symm)
  · have h := (ite_s h).2 c1
    refine g_iinc X 0 (v := (x1 + (1 : Int32))) (lv' := [(1, .int (x1 + (1 : Int32))), (2, .int x2)]) dX13_count_8 rfl rfl (by decide) rfl ?_
    refine g_iload_n X 1 (i0 := 2) dX13_count_11 rfl rfl ?_
    refine g_iload_n X 1 (i0 := 2) dX13_count_12 rfl rfl ?_
    refine g_iconst X (v := (1 : Int32)) dX13_count_13 (by decide) ?_
    refine g_isub X dX13_count_14 ?_
    refine g_iand X dX13_count_15 ?_
    refine g_istore_n X (i0 := 2) (lv' := [(2, .int (x2 &&& (x2 - (1 : Int32)))), (1, .int (x1 + (1 : Int32)))]) dX13_count_16 rfl (by decide) rfl ?_
    refine g_goto X (tgt := 4) dX13_count_17 (by decide) ?_
    refine g_sub (lv' := [(1, .int (x1 + (1 : Int32))), (2, .int (x2 &&& (x2 - (1 : Int32))))]) [1, 0] rfl ?_
    exact h1 _ (Option.some.inj h).symm
set_option maxRecDepth 100000 in
set_option maxHeartbeats 4000000 in
theorem c_X13_count (l : Launch) (G : va_G) (E : EE) (a0 : Int32) (D : DD) (r : RT) (h : S_X13_count a0 D = some r) : MM l G E yX13_count cX13_count 3 (some .int) (rmm 0) [.int a0] D r := by
  unfold S_X13_count at h
  refine m_of rfl (Nat.le_of_ble_eq_true rfl) ?_
  intro p e s m args below meth c X hr
  exact run_G (T := T_X13_count) (HG := hg_X13_count p l e s m args below meth c G E r) (by
    intro k ls D o hT h1 h2
    unfold T_X13_count at hT
    split at hT
    · exact bl_X13_count_0 X hr _ D o hT h1 h2
    · exact bl_X13_count_1 X hr _ _ D o hT h1 h2
    · cases hT) FUEL 0 [a0] D h
theorem hd_X13_count : yX13_count.cls ≠ "java/lang/invoke/MethodHandle" ∧ yX13_count.cls ≠ "java/lang/invoke/VarHandle" ∧ (parseMethodDescriptor yX13_count.desc).map (fun d => d.parameters.length) = some 1 := by decide +kernel
theorem wc_X13_count : Cond.code yX13_count cX13_count 3 (some .int) ∈ UT := ut 1598 (by decide +kernel) (by decide +kernel)
theorem wt_X13_count : Cond.static yX13_count ∈ UT := ut 1597 (by decide +kernel) (by decide +kernel)
theorem ks_X13_158 : GoodIn UT (va_wsS RX13 158 yX13_count (Cond.code yX13_count cX13_count 3 (some .int) :: UT)) := gu_S (ut 1596 (by decide +kernel) (by decide +kernel)) wt_X13_count wi_RX13 wc_X13_count
def S_X13_chainOf (a0 : Int32) (D : DD) : Option RT := (cI (S_X13_looks a0 D) (fun r3 D2 => (if r3 = 0 then some (0, some (.int (0 : Int32)), D2) else (cI (S_X13_chain a0 D2) (fun r6 D5 => (cI (S_X13_count r6 D5) (fun r9 D8 => some (0, some (.int r9), D8))))))))
set_option maxRecDepth 100000 in
set_option maxHeartbeats 4000000 in
theorem c_X13_chainOf (l : Launch) (G : va_G) (E : EE) (a0 : Int32) (D : DD) (r : RT) (h : S_X13_chainOf a0 D = some r) : MM l G E yX13_chainOf cX13_chainOf 2 (some .int) (rmm 3) [.ref (E.1 84), .int a0] D r := by
  refine m_of rfl (Nat.le_of_ble_eq_true rfl) ?_
  intro p e s m args below meth c X hr
  unfold S_X13_chainOf at h
  refine g_aload_n X 0 (i0 := 0) dX13_chainOf_0 rfl rfl ?_
  refine g_iload_n X 1 (i0 := 1) dX13_chainOf_1 rfl rfl ?_
  obtain ⟨r3, D2, e1, h⟩ := cI_s h
  refine g_V X (As := [.int a0]) (rest := []) (c_X13_looks l G E a0 _ _ e1) 84 (wg_84 E _) rfl rfl kv_X13_155 ⟨rfl, rfl⟩ ⟨rfl, hd_X13_looks⟩ (⟨Nat.le_of_ble_eq_true rfl, Nat.le_of_ble_eq_true rfl⟩) rfl rfl (Nat.le_of_ble_eq_true rfl) dX13_chainOf_2 ?_
  refine g_if_eq X (tgt := 19) dX13_chainOf_5 (by decide) (fun c10 => ?_) (fun c10 => ?_)
  · have h := (ite_s h).1 c10
    refine g_iconst X (v := (0 : Int32)) dX13_chainOf_19 (by decide) ?_
    exact g_iret X hr rfl dX13_chainOf_20 (Option.some.inj h)
  · have h := (ite_s h).2 c10
    refine g_aload_n X 0 (i0 := 0) dX13_chainOf_8 rfl rfl ?_
    refine g_iload_n X 1 (i0 := 1) dX13_chainOf_9 rfl rfl ?_
    obtain ⟨r6, D5, e4, h⟩ := cI_s h
    refine g_V X (As := [.int a0]) (rest := []) (c_X13_chain l G E a0 _ _ e4) 84 (wg_84 E _) rfl rfl kv_X13_143 ⟨rfl, rfl⟩ ⟨rfl, hd_X13_chain⟩ (⟨Nat.le_of_ble_eq_true rfl, Nat.le_of_ble_eq_true rfl⟩) rfl rfl (Nat.le_of_ble_eq_true rfl) dX13_chainOf_10 ?_
    obtain ⟨r9, D8, e7, h⟩ := cI_s h
    refine g_S X (As := [.int r6]) (rest := []) (c_X13_count l G E r6 _ _ e7) ks_X13_158 ⟨rfl, rfl⟩ hd_X13_count (⟨Nat.le_of_ble_eq_true rfl, Nat.le_of_ble_eq_true rfl⟩) rfl rfl (Nat.le_of_ble_eq_true rfl) dX13_chainOf_13 ?_
    refine g_goto X (tgt := 20) dX13_chainOf_16 (by decide) ?_
    exact g_iret X hr rfl dX13_chainOf_20 (Option.some.inj h)
theorem hd_X13_chainOf : yX13_chainOf.cls ≠ "java/lang/invoke/MethodHandle" ∧ yX13_chainOf.cls ≠ "java/lang/invoke/VarHandle" ∧ (parseMethodDescriptor yX13_chainOf.desc).map (fun d => d.parameters.length) = some 1 := by decide +kernel
theorem wc_X13_chainOf : Cond.code yX13_chainOf cX13_chainOf 2 (some .int) ∈ UT := ut 1595 (by decide +kernel) (by decide +kernel)
theorem we_X13_chainOf : Cond.selects RX13 yX13_chainOf yX13_chainOf ∈ UT := ut 1594 (by decide +kernel) (by decide +kernel)
theorem wm_X13_chainOf : Cond.instanceMethod yX13_chainOf ∈ UT := ut 1593 (by decide +kernel) (by decide +kernel)
theorem kv_X13_161 : GoodIn UT (wsV RX13 161 RX13 yX13_chainOf (Cond.code yX13_chainOf cX13_chainOf 2 (some .int) :: UT)) := gu_V (ut 1603 (by decide +kernel) (by decide +kernel)) wm_X13_chainOf we_X13_chainOf wi_RX13 wc_X13_chainOf
def S_X13_chainByRounds (a0 : Int32) (D : DD) : Option RT := (cI (S_X13_chainOf a0 D) (fun r3 D2 => some (0, some (.int r3), D2)))
set_option maxRecDepth 100000 in
set_option maxHeartbeats 4000000 in
theorem c_X13_chainByRounds (l : Launch) (G : va_G) (E : EE) (a0 : Int32) (D : DD) (r : RT) (h : S_X13_chainByRounds a0 D = some r) : MM l G E yX13_chainByRounds cX13_chainByRounds 2 (some .int) (rmm 4) [.ref (E.1 84), .int a0] D r := by
  refine m_of rfl (Nat.le_of_ble_eq_true rfl) ?_
  intro p e s m args below meth c X hr
  unfold S_X13_chainByRounds at h
  refine g_aload_n X 0 (i0 := 0) dX13_chainByRounds_0 rfl rfl ?_
  refine g_iload_n X 1 (i0 := 1) dX13_chainByRounds_1 rfl rfl ?_
  obtain ⟨r3, D2, e1, h⟩ := cI_s h
  refine g_V X (As := [.int a0]) (rest := []) (c_X13_chainOf l G E a0 _ _ e1) 84 (wg_84 E _) rfl rfl kv_X13_161 ⟨rfl, rfl⟩ ⟨rfl, hd_X13_chainOf⟩ (⟨Nat.le_of_ble_eq_true rfl, Nat.le_of_ble_eq_true rfl⟩) rfl rfl (Nat.le_of_ble_eq_true rfl) dX13_chainByRounds_2 ?_
  exact g_iret X hr rfl dX13_chainByRounds_5 (Option.some.inj h)
theorem hd_X13_fallsOf : yX13_fallsOf.cls ≠ "java/lang/invoke/MethodHandle" ∧ yX13_fallsOf.cls ≠ "java/lang/invoke/VarHandle" ∧ (parseMethodDescriptor yX13_fallsOf.desc).map (fun d => d.parameters.length) = some 1 := by decide +kernel
theorem wc_X13_fallsOf : Cond.code yX13_fallsOf cX13_fallsOf 5 (some .int) ∈ UT := ut 1611 (by decide +kernel) (by decide +kernel)
theorem we_X13_fallsOf : Cond.selects RX13 yX13_fallsOf yX13_fallsOf ∈ UT := ut 59 (by decide +kernel) (by decide +kernel)
theorem wm_X13_fallsOf : Cond.instanceMethod yX13_fallsOf ∈ UT := ut 1610 (by decide +kernel) (by decide +kernel)
theorem kv_X13_164 : GoodIn UT (wsV RX13 164 RX13 yX13_fallsOf (Cond.code yX13_fallsOf cX13_fallsOf 5 (some .int) :: UT)) := gu_V (ut 1608 (by decide +kernel) (by decide +kernel)) wm_X13_fallsOf we_X13_fallsOf wi_RX13 wc_X13_fallsOf
def S_X13_opensOf (a0 : Int32) (D : DD) : Option RT := (cI (S_X13_looks a0 D) (fun r3 D2 => (if r3 = 0 then some (0, some (.int (0 : Int32)), D2) else (cI (S_X13_fallsOf a0 D2) (fun r6 D5 => some (0, some (.int r6), D5))))))
set_option maxRecDepth 100000 in
set_option maxHeartbeats 4000000 in
theorem c_X13_opensOf (l : Launch) (G : va_G) (E : EE) (a0 : Int32) (D : DD) (r : RT) (h : S_X13_opensOf a0 D = some r) : MM l G E yX13_opensOf cX13_opensOf 2 (some .int) (rmm 4) [.ref (E.1 84), .int a0] D r := by
  refine m_of rfl (Nat.le_of_ble_eq_true rfl) ?_
  intro p e s m args below meth c X hr
  unfold S_X13_opensOf at h
  refine g_aload_n X 0 (i0 := 0) dX13_opensOf_0 rfl rfl ?_
  refine g_iload_n X 1 (i0 := 1) dX13_opensOf_1 rfl rfl ?_
  obtain ⟨r3, D2, e1, h⟩ := cI_s h
  refine g_V X (As := [.int a0]) (rest := []) (c_X13_looks l G E a0 _ _ e1) 84 (wg_84 E _) rfl rfl kv_X13_155 ⟨rfl, rfl⟩ ⟨rfl, hd_X13_looks⟩ (⟨Nat.le_of_ble_eq_true rfl, Nat.le_of_ble_eq_true rfl⟩) rfl rfl (Nat.le_of_ble_eq_true rfl) dX13_opensOf_2 ?_
  refine g_if_eq X (tgt := 16) dX13_opensOf_5 (by decide) (fun c7 => ?_) (fun c7 => ?_)
  · have h := (ite_s h).1 c7
    refine g_iconst X (v := (0 : Int32)) dX13_opensOf_16 (by decide) ?_
    exact g_iret X hr rfl dX13_opensOf_17 (Option.some.inj h)
  · have h := (ite_s h).2 c7
    refine g_aload_n X 0 (i0 := 0) dX13_opensOf_8 rfl rfl ?_
    refine g_iload_n X 1 (i0 := 1) dX13_opensOf_9 rfl rfl ?_
    obtain ⟨r6, D5, e4, h⟩ := cI_s h
    refine g_V X (As := [.int a0]) (rest := []) (c_X13_fallsOf l G E a0 _ _ e4) 84 (wg_84 E _) rfl rfl kv_X13_164 ⟨rfl, rfl⟩ ⟨rfl, hd_X13_fallsOf⟩ (⟨Nat.le_of_ble_eq_true rfl, Nat.le_of_ble_eq_true rfl⟩) rfl rfl (Nat.le_of_ble_eq_true rfl) dX13_opensOf_10 ?_
    refine g_goto X (tgt := 17) dX13_opensOf_13 (by decide) ?_
    exact g_iret X hr rfl dX13_opensOf_17 (Option.some.inj h)
