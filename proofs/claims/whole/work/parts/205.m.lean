def S_X8_lay (a0 : Int32) (a1 : Int32) (D : DD) : Option RT := (cI (S_X12_inRange (D.1 0) (0 : Int32) (5 : Int32) D) (fun r3 D2 => (if r3 = 0 then some (0, some (.int (D.1 0)), D2) else (if inB (D.1 0) 6 = true then (if inB (D.1 0) 6 = true then some (0, some (.int (D.1 0)), (setI (setA (setA D2 1 (upd (D2.2.2.1 1) (D.1 0).toNatClampNeg a0)) 2 (upd (D2.2.2.1 2) (D.1 0).toNatClampNeg a1)) 0 ((D2.1 0) + (1 : Int32)))) else none) else none))))
set_option maxRecDepth 100000 in
set_option maxHeartbeats 4000000 in
theorem c_X8_lay (l : Launch) (G : va_G) (E : EE) (a0 : Int32) (a1 : Int32) (D : DD) (r : RT) (h : S_X8_lay a0 a1 D = some r) : MM l G E yX8_lay cX8_lay 4 (some .int) (rmm 1) [.ref (E.1 1), .int a0, .int a1] D r := by
  refine m_of rfl (Nat.le_of_ble_eq_true rfl) ?_
  intro p e s m args below meth c X hr
  unfold S_X8_lay at h
  refine g_aload_n X 0 (i0 := 0) dX8_lay_0 rfl rfl ?_
  refine g_get X (D := D) (v := .int (D.1 0)) (T := TX8) 1 uX8 (wg_1 E _) rfl 4 (by decide) fl_X8_36 rfl rfl dX8_lay_1 ?_
  refine g_istore_n X (i0 := 3) (lv' := [(3, .int (D.1 0)), (0, .ref (E.1 1)), (1, .int a0), (2, .int a1)]) dX8_lay_4 rfl (by decide) rfl ?_
  refine g_iload_n X 0 (i0 := 3) dX8_lay_5 rfl rfl ?_
  refine g_iconst X (v := (0 : Int32)) dX8_lay_6 (by decide) ?_
  refine g_iconst X (v := (5 : Int32)) dX8_lay_7 (by decide) ?_
  obtain ⟨r3, D2, e1, h⟩ := cI_s h
  refine g_SN X (As := [.int (D.1 0), .int (0 : Int32), .int (5 : Int32)]) (rest := []) (c_X12_inRange l G E (D.1 0) (0 : Int32) (5 : Int32) _ _ e1) wc_X12_inRange kn_X8_64 wi_RX12 wt_X12_inRange ⟨rfl, rfl⟩ hd_X12_inRange (⟨Nat.le_of_ble_eq_true rfl, Nat.le_of_ble_eq_true rfl⟩) rfl rfl (Nat.le_of_ble_eq_true rfl) dX8_lay_8 ?_
  refine g_if_eq X (tgt := 38) dX8_lay_11 (by decide) (fun c6 => ?_) (fun c6 => ?_)
  · have h := (ite_s h).1 c6
    refine g_iload_n X 0 (i0 := 3) dX8_lay_38 rfl rfl ?_
    exact g_iret X hr rfl dX8_lay_39 (Option.some.inj h)
  · have h := (ite_s h).2 c6
    refine g_aload_n X 1 (i0 := 0) dX8_lay_14 rfl rfl ?_
    refine g_get X (D := D2) (v := .ref (E.1 3)) (T := TX8) 1 uX8 (wg_1 E _) rfl 1 (by decide) fl_X8_15 rfl rfl dX8_lay_15 ?_
    refine g_iload_n X 0 (i0 := 3) dX8_lay_18 rfl rfl ?_
    refine g_iload_n X 2 (i0 := 1) dX8_lay_19 rfl rfl ?_
    obtain ⟨b4, h⟩ := chk_s h
    refine g_iast X (D := D2) (f := (D2.2.2.1 1)) (i := (D.1 0)) (x := a0) (D' := (setA D2 1 (upd (D2.2.2.1 1) (D.1 0).toNatClampNeg a0))) 3 (wg_3 E _) (inB_vp b4) (ws_A_1 E _ _) dX8_lay_20 ?_
    refine g_aload_n X 1 (i0 := 0) dX8_lay_21 rfl rfl ?_
    refine g_get X (D := (setA D2 1 (upd (D2.2.2.1 1) (D.1 0).toNatClampNeg a0))) (v := .ref (E.1 4)) (T := TX8) 1 uX8 (wg_1 E _) rfl 2 (by decide) fl_X8_18 rfl rfl dX8_lay_22 ?_
    refine g_iload_n X 0 (i0 := 3) dX8_lay_25 rfl rfl ?_
    refine g_iload_n X 3 (i0 := 2) dX8_lay_26 rfl rfl ?_
    obtain ⟨b5, h⟩ := chk_s h
    refine g_iast X (D := (setA D2 1 (upd (D2.2.2.1 1) (D.1 0).toNatClampNeg a0))) (f := (D2.2.2.1 2)) (i := (D.1 0)) (x := a1) (D' := (setA (setA D2 1 (upd (D2.2.2.1 1) (D.1 0).toNatClampNeg a0)) 2 (upd (D2.2.2.1 2) (D.1 0).toNatClampNeg a1))) 4 (wg_4 E _) (inB_vp b5) (ws_A_2 E _ _) dX8_lay_27 ?_
    refine g_aload_n X 1 (i0 := 0) dX8_lay_28 rfl rfl ?_
    refine g_dup X dX8_lay_29 rfl ?_
    refine g_get X (D := (setA (setA D2 1 (upd (D2.2.2.1 1) (D.1 0).toNatClampNeg a0)) 2 (upd (D2.2.2.1 2) (D.1 0).toNatClampNeg a1))) (v := .int (D2.1 0)) (T := TX8) 1 uX8 (wg_1 E _) rfl 4 (by decide) fl_X8_36 rfl rfl dX8_lay_30 ?_
    refine g_iconst X (v := (1 : Int32)) dX8_lay_33 (by decide) ?_
    refine g_iadd X dX8_lay_34 ?_
    refine g_put X (D := (setA (setA D2 1 (upd (D2.2.2.1 1) (D.1 0).toNatClampNeg a0)) 2 (upd (D2.2.2.1 2) (D.1 0).toNatClampNeg a1))) (v := .int ((D2.1 0) + (1 : Int32))) (T := TX8) (D' := (setI (setA (setA D2 1 (upd (D2.2.2.1 1) (D.1 0).toNatClampNeg a0)) 2 (upd (D2.2.2.1 2) (D.1 0).toNatClampNeg a1)) 0 ((D2.1 0) + (1 : Int32)))) 1 uX8 tyX8 tyX8_ok nmX8 (wg_1 E _) rfl 4 (by decide) fl_X8_36 rfl rfl rfl rfl (Nat.le_of_ble_eq_true rfl) (ws_I_0 E _ _) dX8_lay_35 ?_
    refine g_iload_n X 0 (i0 := 3) dX8_lay_38 rfl rfl ?_
    exact g_iret X hr rfl dX8_lay_39 (Option.some.inj h)
def S_X8_renumber (a0 : Int32) (a1 : Int32) (D : DD) : Option RT := (cI (S_X8_hasCharge a0 D) (fun r3 D2 => (if r3 = 0 then some (0, none, D2) else (cI (S_X8_hasCharge a1 D2) (fun r6 D5 => (if r6 = 0 then some (0, none, D5) else (if inB a0 6 = true then (if inB a1 6 = true then (if inB a0 6 = true then (if inB a1 6 = true then some (0, none, (setA (setA D5 1 (upd (D5.2.2.1 1) a1.toNatClampNeg ((D5.2.2.1 1) a0.toNatClampNeg))) 2 (upd (D5.2.2.1 2) a1.toNatClampNeg ((D5.2.2.1 2) a0.toNatClampNeg)))) else none) else none) else none) else none)))))))
set_option maxRecDepth 100000 in
set_option maxHeartbeats 4000000 in
theorem c_X8_renumber (l : Launch) (G : va_G) (E : EE) (a0 : Int32) (a1 : Int32) (D : DD) (r : RT) (h : S_X8_renumber a0 a1 D = some r) : MM l G E yX8_renumber cX8_renumber 3 none (rmm 1) [.ref (E.1 1), .int a0, .int a1] D r := by
  refine m_of rfl (Nat.le_of_ble_eq_true rfl) ?_
  intro p e s m args below meth c X hr
  unfold S_X8_renumber at h
  refine g_aload_n X 0 (i0 := 0) dX8_renumber_0 rfl rfl ?_
  refine g_iload_n X 1 (i0 := 1) dX8_renumber_1 rfl rfl ?_
  obtain ⟨r3, D2, e1, h⟩ := cI_s h
  refine g_V X (As := [.int a0]) (rest := []) (c_X8_hasCharge l G E a0 _ _ e1) 1 (wg_1 E _) rfl rfl kv_X8_57 ⟨rfl, rfl⟩ ⟨rfl, hd_X8_hasCharge⟩ (⟨Nat.le_of_ble_eq_true rfl, Nat.le_of_ble_eq_true rfl⟩) rfl rfl (Nat.le_of_ble_eq_true rfl) dX8_renumber_2 ?_
  refine g_if_eq X (tgt := 40) dX8_renumber_5 (by decide) (fun c12 => ?_) (fun c12 => ?_)
  · have h := (ite_s h).1 c12
    exact g_vret X hr dX8_renumber_40 (Option.some.inj h)
  · have h := (ite_s h).2 c12
    refine g_aload_n X 0 (i0 := 0) dX8_renumber_8 rfl rfl ?_
    refine g_iload_n X 2 (i0 := 2) dX8_renumber_9 rfl rfl ?_
    obtain ⟨r6, D5, e4, h⟩ := cI_s h
    refine g_V X (As := [.int a1]) (rest := []) (c_X8_hasCharge l G E a1 _ _ e4) 1 (wg_1 E _) rfl rfl kv_X8_57 ⟨rfl, rfl⟩ ⟨rfl, hd_X8_hasCharge⟩ (⟨Nat.le_of_ble_eq_true rfl, Nat.le_of_ble_eq_true rfl⟩) rfl rfl (Nat.le_of_ble_eq_true rfl) dX8_renumber_10 ?_
    refine g_if_eq X (tgt := 40) dX8_renumber_13 (by decide) (fun c11 => ?_) (fun c11 => ?_)
    · have h := (ite_s h).1 c11
      exact g_vret X hr dX8_renumber_40 (Option.some.inj h)
    · have h := (ite_s h).2 c11
      refine g_aload_n X 0 (i0 := 0) dX8_renumber_16 rfl rfl ?_
      refine g_get X (D := D5) (v := .ref (E.1 3)) (T := TX8) 1 uX8 (wg_1 E _) rfl 1 (by decide) fl_X8_15 rfl rfl dX8_renumber_17 ?_
      refine g_iload_n X 2 (i0 := 2) dX8_renumber_20 rfl rfl ?_
      refine g_aload_n X 0 (i0 := 0) dX8_renumber_21 rfl rfl ?_
      refine g_get X (D := D5) (v := .ref (E.1 3)) (T := TX8) 1 uX8 (wg_1 E _) rfl 1 (by decide) fl_X8_15 rfl rfl dX8_renumber_22 ?_
      refine g_iload_n X 1 (i0 := 1) dX8_renumber_25 rfl rfl ?_
      obtain ⟨b7, h⟩ := chk_s h
      refine g_iald X (D := D5) (f := (D5.2.2.1 1)) (i := a0) 3 (wg_3 E _) (inB_vp b7) dX8_renumber_26 ?_
      obtain ⟨b8, h⟩ := chk_s h
      refine g_iast X (D := D5) (f := (D5.2.2.1 1)) (i := a1) (x := ((D5.2.2.1 1) a0.toNatClampNeg)) (D' := (setA D5 1 (upd (D5.2.2.1 1) a1.toNatClampNeg ((D5.2.2.1 1) a0.toNatClampNeg)))) 3 (wg_3 E _) (inB_vp b8) (ws_A_1 E _ _) dX8_renumber_27 ?_
      refine g_aload_n X 0 (i0 := 0) dX8_renumber_28 rfl rfl ?_
      refine g_get X (D := (setA D5 1 (upd (D5.2.2.1 1) a1.toNatClampNeg ((D5.2.2.1 1) a0.toNatClampNeg)))) (v := .ref (E.1 4)) (T := TX8) 1 uX8 (wg_1 E _) rfl 2 (by decide) fl_X8_18 rfl rfl dX8_renumber_29 ?_
      refine g_iload_n X 2 (i0 := 2) dX8_renumber_32 rfl rfl ?_
      refine g_aload_n X 0 (i0 := 0) dX8_renumber_33 rfl rfl ?_
      refine g_get X (D := (setA D5 1 (upd (D5.2.2.1 1) a1.toNatClampNeg ((D5.2.2.1 1) a0.toNatClampNeg)))) (v := .ref (E.1 4)) (T := TX8) 1 uX8 (wg_1 E _) rfl 2 (by decide) fl_X8_18 rfl rfl dX8_renumber_34 ?_
      refine g_iload_n X 1 (i0 := 1) dX8_renumber_37 rfl rfl ?_
      obtain ⟨b9, h⟩ := chk_s h
      refine g_iald X (D := (setA D5 1 (upd (D5.2.2.1 1) a1.toNatClampNeg ((D5.2.2.1 1) a0.toNatClampNeg)))) (f := (D5.2.2.1 2)) (i := a0) 4 (wg_4 E _) (inB_vp b9) dX8_renumber_38 ?_
      obtain ⟨b10, h⟩ := chk_s h
      refine g_iast X (D := (setA D5 1 (upd (D5.2.2.1 1) a1.toNatClampNeg ((D5.2.2.1 1) a0.toNatClampNeg)))) (f := (D5.2.2.1 2)) (i := a1) (x := ((D5.2.2.1 2) a0.toNatClampNeg)) (D' := (setA (setA D5 1 (upd (D5.2.2.1 1) a1.toNatClampNeg ((D5.2.2.1 1) a0.toNatClampNeg))) 2 (upd (D5.2.2.1 2) a1.toNatClampNeg ((D5.2.2.1 2) a0.toNatClampNeg)))) 4 (wg_4 E _) (inB_vp b10) (ws_A_2 E _ _) dX8_renumber_39 ?_
      exact g_vret X hr dX8_renumber_40 (Option.some.inj h)
theorem hd_X8_renumber : yX8_renumber.cls ≠ "java/lang/invoke/MethodHandle" ∧ yX8_renumber.cls ≠ "java/lang/invoke/VarHandle" ∧ (parseMethodDescriptor yX8_renumber.desc).map (fun d => d.parameters.length) = some 2 := by decide +kernel
theorem wc_X8_renumber : Cond.code yX8_renumber cX8_renumber 3 none ∈ UT := ut 925 (by decide +kernel) (by decide +kernel)
theorem we_X8_renumber : Cond.selects RX8 yX8_renumber yX8_renumber ∈ UT := ut 24 (by decide +kernel) (by decide +kernel)
theorem wm_X8_renumber : Cond.instanceMethod yX8_renumber ∈ UT := ut 924 (by decide +kernel) (by decide +kernel)
theorem kv_X8_94 : GoodIn UT (wsV RX8 94 RX8 yX8_renumber (Cond.code yX8_renumber cX8_renumber 3 none :: UT)) := gu_V (ut 922 (by decide +kernel) (by decide +kernel)) wm_X8_renumber we_X8_renumber wi_RX8 wc_X8_renumber
def b_X8_takeAway_0 (a0 : Int32) (D : DD) : Option ((Nat × List Int32 × DD) ⊕ RT) := some (.inl (1, [a0, (0 : Int32), (0 : Int32)], D))
def b_X8_takeAway_1 (x1 : Int32) (x2 : Int32) (x3 : Int32) (D : DD) : Option ((Nat × List Int32 × DD) ⊕ RT) := (if (D.1 0) ≤ x3 then some (.inr (0, some (.int x2), (setI D 0 x2))) else (if x3 = x1 then some (.inl (1, [x1, x2, (x3 + (1 : Int32))], D)) else (cV (S_X8_renumber x3 x2 D) (fun D2 => some (.inl (1, [x1, (x2 + (1 : Int32)), (x3 + (1 : Int32))], D2))))))
def T_X8_takeAway (k : Nat) (ls : List Int32) (D : DD) : Option ((Nat × List Int32 × DD) ⊕ RT) := match k, ls with
  | 0, [a0] => b_X8_takeAway_0 a0 D
  | 1, [x1, x2, x3] => b_X8_takeAway_1 x1 x2 x3 D
  | _, _ => none
def S_X8_takeAway (a0 : Int32) (D : DD) : Option RT := run T_X8_takeAway FUEL 0 [a0] D
def hg_X8_takeAway (p : Program) (l : Launch) (e : Env) (s : State) (m : MethodId) (args : Array Value) (below : List Frame) (meth : Method) (c : Code) (G : va_G) (E : EE) (r : RT) (k : Nat) (ls : List Int32) (D : DD) : Prop := match k, ls with
  | 0, [a0] => GW p l e (rmm 2) s m args below meth c G E 4 (MQ below (QR G E s.heap.size r) args s 0 0 (fr E s.heap.size)) 0 0 D 0 [(0, .ref (E.1 1)), (1, .int a0)] []
  | 1, [x1, x2, x3] => GW p l e (rmm 2) s m args below meth c G E 4 (MQ below (QR G E s.heap.size r) args s 0 0 (fr E s.heap.size)) 0 0 D 4 [(0, .ref (E.1 1)), (1, .int x1), (2, .int x2), (3, .int x3)] []
  | _, _ => True
set_option maxRecDepth 100000 in
set_option maxHeartbeats 4000000 in
theorem bl_X8_takeAway_0 {p : Program} {l : Launch} {e : Env} {s : State} {m : MethodId} {args : Array Value} {below : List Frame} {meth : Method} {c : Code} {G : va_G} {E : EE} {r : RT} (X : CX p s m args meth c cX8_takeAway RX8 4 G E) (hr : meth.sig.returnType = (some .int)) (a0 : Int32) (D : DD) (o : (Nat × List Int32 × DD) ⊕ RT) (h : b_X8_takeAway_0 a0 D = some o) (h1 : ∀ x, o = .inl x → hg_X8_takeAway p l e s m args below meth c G E r x.1 x.2.1 x.2.2) (h2 : ∀ x, o = .inr x → x = r) : GW p l e (rmm 2) s m args below meth c G E 4 (MQ below (QR G E s.heap.size r) args s 0 0 (fr E s.heap.size)) 0 0 D 0 [(0, .ref (E.1 1)), (1, .int a0)] [] := by
  unfold b_X8_takeAway_0 at h
  refine g_iconst X (v := (0 : Int32)) dX8_takeAway_0 (by decide) ?_
  refine g_istore_n X (i0 := 2) (lv' := [(2, .int (0 : Int32)), (0, .ref (E.1 1)), (1, .int a0)]) dX8_takeAway_1 rfl (by decide) rfl ?_
  refine g_iconst X (v := (0 : Int32)) dX8_takeAway_2 (by decide) ?_
  refine g_istore_n X (i0 := 3) (lv' := [(3, .int (0 : Int32)), (2, .int (0 : Int32)), (0, .ref (E.1 1)), (1, .int a0)]) dX8_takeAway_3 rfl (by decide) rfl ?_
  refine g_sub (lv' := [(0, .ref (E.1 1)), (1, .int a0), (2, .int (0 : Int32)), (3, .int (0 : Int32))]) [2, 3, 1, 0] rfl ?_
  exact h1 _ (Option.some.inj h).symm
set_option maxRecDepth 100000 in
set_option maxHeartbeats 4000000 in
theorem bl_X8_takeAway_1 {p : Program} {l : Launch} {e : Env} {s : State} {m : MethodId} {args : Array Value} {below : List Frame} {meth : Method} {c : Code} {G : va_G} {E : EE} {r : RT} (X : CX p s m args meth c cX8_takeAway RX8 4 G E) (hr : meth.sig.returnType = (some .int)) (x1 : Int32) (x2 : Int32) (x3 : Int32) (D : DD) (o : (Nat × List Int32 × DD) ⊕ RT) (h : b_X8_takeAway_1 x1 x2 x3 D = some o) (h1 : ∀ x, o = .inl x → hg_X8_takeAway p l e s m args below meth c G E r x.1 x.2.1 x.2.2) (h2 : ∀ x, o = .inr x → x = r) : GW p l e (rmm 2) s m args below meth c G E 4 (MQ below (QR G E s.heap.size r) args s 0 0 (fr E s.heap.size)) 0 0 D 4 [(0, .ref (E.1 1)), (1, .int x1), (2, .int x2), (3, .int x3)] [] := by
  unfold b_X8_takeAway_1 at h
  refine g_iload_n X 3 (i0 := 3) dX8_takeAway_4 rfl rfl ?_
  refine g_aload_n X 0 (i0 := 0) dX8_takeAway_5 rfl rfl ?_
  refine g_get X (D := D) (v := .int (D.1 0)) (T := TX8) 1 uX8 (wg_1 E _) rfl 4 (by decide) fl_X8_36 rfl rfl dX8_takeAway_6 ?_
  refine g_icmp_ge X (tgt := 32) dX8_takeAway_9 (by decide) (fun c4 => ?_) (fun c4 => ?_)
  · have h := (ite_s h).1 c4
    refine g_aload_n X 0 (i0 := 0) dX8_takeAway_32 rfl rfl ?_
    refine g_iload_n X 2 (i0 := 2) dX8_takeAway_33 rfl rfl ?_
    refine g_put X (D := D) (v := .int x2) (T := TX8) (D' := (setI D 0 x2)) 1 uX8 tyX8 tyX8_ok nmX8 (wg_1 E _) rfl 4 (by decide) fl_X8_36 rfl rfl rfl rfl (Nat.le_of_ble_eq_true rfl) (ws_I_0 E _ _) dX8_takeAway_34 ?_
    refine g_iload_n X 2 (i0 := 2) dX8_takeAway_37 rfl rfl ?_
    exact g_iret X hr rfl dX8_takeAway_38 (h2 _ (Option.some.inj h).symm)
  · have h := (ite_s h).2 c4
    refine g_iload_n X 3 (i0 := 3) dX8_takeAway_12 rfl rfl ?_
    refine g_iload_n X 1 (i0 := 1) dX8_takeAway_13 rfl rfl ?_
    refine g_icmp_eq X (tgt := 26) dX8_takeAway_14 (by decide) (fun c3 => ?_) (fun c3 => ?_)
    · have h := (ite_s h).1 c3
      refine g_iinc X 3 (v := (x3 + (1 : Int32))) (lv' := [(3, .int (x3 + (1 : Int32))), (0, .ref (E.1 1)), (1, .int x1), (2, .int x2)]) dX8_takeAway_26 rfl rfl (by decide) rfl ?_
      refine g_goto X (tgt := 4) dX8_takeAway_29 (by decide) ?_
      refine g_sub (lv' := [(0, .ref (E.1 1)), (1, .int x1), (2, .int x2), (3, .int (x3 + (1 : Int32)))]) [1, 2, 3, 0] rfl ?_
      exact h1 _ (Option.some.inj h).symm
    · have h := (ite_s h).2 c3
      refine g_aload_n X 0 (i0 := 0) dX8_takeAway_17 rfl rfl ?_
      refine g_iload_n X 3 (i0 := 3) dX8_takeAway_18 rfl rfl ?_
      refine g_iload_n X 2 (i0 := 2) dX8_takeAway_19 rfl rfl ?_
      obtain ⟨D2, e1, h⟩ := cV_s h
      refine g_V X (As := [.int x3, .int x2]) (rest := []) (c_X8_renumber l G E x3 x2 _ _ e1) 1 (wg_1 E _) rfl rfl kv_X8_94 ⟨rfl, rfl⟩ ⟨rfl, hd_X8_renumber⟩ (⟨Nat.le_of_ble_eq_true rfl, Nat.le_of_ble_eq_true rfl⟩) rfl rfl (Nat.le_of_ble_eq_true rfl) dX8_takeAway_20 ?_
      refine g_iinc X 2 (v := (x2 + (1 : Int32))) (lv' := [(2, .int (x2 + (1 : Int32))), (0, .ref (E.1 1)), (1, .int x1), (3, .int x3)]) dX8_takeAway_23 rfl rfl (by decide) rfl ?_
      refine g_iinc X 3 (v := (x3 + (1 : Int32))) (lv' := [(3, .int (x3 + (1 : Int32))), (2, .int (x2 + (1 : Int32))), (0, .ref (E.1 1)), (1, .int x1)]) dX8_takeAway_26 rfl rfl (by decide) rfl ?_
      refine g_goto X (tgt := 4) dX8_takeAway_29 (by decide) ?_
      refine g_sub (lv' := [(0, .ref (E.1 1)), (1, .int x1), (2, .int (x2 + (1 : Int32))), (3, .int (x3 + (1 : Int32)))]) [2, 3, 1, 0] rfl ?_
      exact h1 _ (Option.some.inj h).symm
set_option maxRecDepth 100000 in
set_option maxHeartbeats 4000000 in
theorem c_X8_takeAway (l : Launch) (G : va_G) (E : EE) (a0 : Int32) (D : DD) (r : RT) (h : S_X8_takeAway a0 D = some r) : MM l G E yX8_takeAway cX8_takeAway 4 (some .int) (rmm 2) [.ref (E.1 1), .int a0] D r := by
  unfold S_X8_takeAway at h
  refine m_of rfl (Nat.le_of_ble_eq_true rfl) ?_
  intro p e s m args below meth c X hr
  exact run_G (T := T_X8_takeAway) (HG := hg_X8_takeAway p l e s m args below meth c G E r) (by
    intro k ls D o hT h1 h2
    unfold T_X8_takeAway at hT
    split at hT
    · exact bl_X8_takeAway_0 X hr _ D o hT h1 h2
    · exact bl_X8_takeAway_1 X hr _ _ _ D o hT h1 h2
    · cases hT) FUEL 0 [a0] D h
theorem kv_X8_103 : GoodIn UT (wsV RX8 103 RX1 yX1_explodes (Cond.code yX1_explodes cX1_explodes 2 (some .boolean) :: UT)) := gu_V (ut 942 (by decide +kernel) (by decide +kernel)) wm_X1_explodes we_X1_explodes wi_RX1 wc_X1_explodes
theorem kv_X8_98 : GoodIn UT (wsV RX8 98 RX1 yX1_opens (Cond.code yX1_opens cX1_opens 2 (some .boolean) :: UT)) := gu_V (ut 941 (by decide +kernel) (by decide +kernel)) wm_X1_opens we_X1_opens wi_RX1 wc_X1_opens
def b_X8_applyBlast_0  (D : DD) : Option ((Nat × List Int32 × DD) ⊕ RT) := some (.inl (1, [(0 : Int32)], D))
def b_X8_applyBlast_1 (x2 : Int32) (D : DD) : Option ((Nat × List Int32 × DD) ⊕ RT) := (if (36 : Int32) ≤ x2 then some (.inl (2, [(0 : Int32), (0 : Int32)], D)) else (cI (S_X1_opens x2 D) (fun r3 D2 => (if r3 = 0 then some (.inl (1, [(x2 + (1 : Int32))], D2)) else (cV (S_X8_makeOpen x2 D2) (fun D5 => some (.inl (1, [(x2 + (1 : Int32))], D5))))))))
def b_X8_applyBlast_2 (x2 : Int32) (x3 : Int32) (D : DD) : Option ((Nat × List Int32 × DD) ⊕ RT) := (if (D.1 0) ≤ x3 then some (.inr (0, none, (setI D 0 x2))) else (cI (S_X1_explodes x3 D) (fun r10 D9 => (if r10 = 0 then (cV (S_X8_renumber x3 x2 D9) (fun D12 => some (.inl (2, [(x2 + (1 : Int32)), (x3 + (1 : Int32))], D12)))) else some (.inl (2, [x2, (x3 + (1 : Int32))], D9))))))
def T_X8_applyBlast (k : Nat) (ls : List Int32) (D : DD) : Option ((Nat × List Int32 × DD) ⊕ RT) := match k, ls with
  | 0, [] => b_X8_applyBlast_0  D
  | 1, [x2] => b_X8_applyBlast_1 x2 D
  | 2, [x2, x3] => b_X8_applyBlast_2 x2 x3 D
  | _, _ => none
def S_X8_applyBlast  (D : DD) : Option RT := run T_X8_applyBlast FUEL 0 [] D
def hg_X8_applyBlast (p : Program) (l : Launch) (e : Env) (s : State) (m : MethodId) (args : Array Value) (below : List Frame) (meth : Method) (c : Code) (G : va_G) (E : EE) (r : RT) (k : Nat) (ls : List Int32) (D : DD) : Prop := match k, ls with
  | 0, [] => GW p l e (rmm 3) s m args below meth c G E 4 (MQ below (QR G E s.heap.size r) args s 0 0 (fr E s.heap.size)) 0 0 D 0 [(0, .ref (E.1 1)), (1, .ref (E.1 61))] []
  | 1, [x2] => GW p l e (rmm 3) s m args below meth c G E 4 (MQ below (QR G E s.heap.size r) args s 0 0 (fr E s.heap.size)) 0 0 D 2 [(0, .ref (E.1 1)), (1, .ref (E.1 61)), (2, .int x2)] []
  | 2, [x2, x3] => GW p l e (rmm 3) s m args below meth c G E 4 (MQ below (QR G E s.heap.size r) args s 0 0 (fr E s.heap.size)) 0 0 D 31 [(0, .ref (E.1 1)), (1, .ref (E.1 61)), (2, .int x2), (3, .int x3)] []
  | _, _ => True
set_option maxRecDepth 100000 in
set_option maxHeartbeats 4000000 in
theorem bl_X8_applyBlast_0 {p : Program} {l : Launch} {e : Env} {s : State} {m : MethodId} {args : Array Value} {below : List Frame} {meth : Method} {c : Code} {G : va_G} {E : EE} {r : RT} (X : CX p s m args meth c cX8_applyBlast RX8 4 G E) (hr : meth.sig.returnType = none)  (D : DD) (o : (Nat × List Int32 × DD) ⊕ RT) (h : b_X8_applyBlast_0  D = some o) (h1 : ∀ x, o = .inl x → hg_X8_applyBlast p l e s m args below meth c G E r x.1 x.2.1 x.2.2) (h2 : ∀ x, o = .inr x → x = r) : GW p l e (rmm 3) s m args below meth c G E 4 (MQ below (QR G E s.heap.size r) args s 0 0 (fr E s.heap.size)) 0 0 D 0 [(0, .ref (E.1 1)), (1, .ref (E.1 61))] [] := by
  unfold b_X8_applyBlast_0 at h
  refine g_iconst X (v := (0 : Int32)) dX8_applyBlast_0 (by decide) ?_
  refine g_istore_n X (i0 := 2) (lv' := [(2, .int (0 : Int32)), (0, .ref (E.1 1)), (1, .ref (E.1 61))]) dX8_applyBlast_1 rfl (by decide) rfl ?_
  refine g_sub (lv' := [(0, .ref (E.1 1)), (1, .ref (E.1 61)), (2, .int (0 : Int32))]) [1, 2, 0] rfl ?_
  exact h1 _ (Option.some.inj h).symm
set_option maxRecDepth 100000 in
set_option maxHeartbeats 4000000 in
theorem bl_X8_applyBlast_1 {p : Program} {l : Launch} {e : Env} {s : State} {m : MethodId} {args : Array Value} {below : List Frame} {meth : Method} {c : Code} {G : va_G} {E : EE} {r : RT} (X : CX p s m args meth c cX8_applyBlast RX8 4 G E) (hr : meth.sig.returnType = none) (x2 : Int32) (D : DD) (o : (Nat × List Int32 × DD) ⊕ RT) (h : b_X8_applyBlast_1 x2 D = some o) (h1 : ∀ x, o = .inl x → hg_X8_applyBlast p l e s m args below meth c G E r x.1 x.2.1 x.2.2) (h2 : ∀ x, o = .inr x → x = r) : GW p l e (rmm 3) s m args below meth c G E 4 (MQ below (QR G E s.heap.size r) args s 0 0 (fr E s.heap.size)) 0 0 D 2 [(0, .ref (E.1 1)), (1, .ref (E.1 61)), (2, .int x2)] [] := by
  unfold b_X8_applyBlast_1 at h
  refine g_iload_n X 2 (i0 := 2) dX8_applyBlast_2 rfl rfl ?_
  refine g_bipush X (v := (36 : Int32)) dX8_applyBlast_3 (by decide) ?_
  refine g_icmp_ge X (tgt := 27) dX8_applyBlast_5 (by decide) (fun c7 => ?_) (fun c7 => ?_)
  · have h := (ite_s h).1 c7
    refine g_iconst X (v := (0 : Int32)) dX8_applyBlast_27 (by decide) ?_
    refine g_istore_n X (i0 := 2) (lv' := [(2, .int (0 : Int32)), (0, .ref (E.1 1)), (1, .ref (E.1 61))]) dX8_applyBlast_28 rfl (by decide) rfl ?_
    refine g_iconst X (v := (0 : Int32)) dX8_applyBlast_29 (by decide) ?_
    refine g_istore_n X (i0 := 3) (lv' := [(3, .int (0 : Int32)), (2, .int (0 : Int32)), (0, .ref (E.1 1)), (1, .ref (E.1 61))]) dX8_applyBlast_30 rfl (by decide) rfl ?_
    refine g_sub (lv' := [(0, .ref (E.1 1)), (1, .ref (E.1 61)), (2, .int (0 : Int32)), (3, .int (0 : Int32))]) [2, 3, 1, 0] rfl ?_
    exact h1 _ (Option.some.inj h).symm
  · have h := (ite_s h).2 c7
    refine g_aload_n X 1 (i0 := 1) dX8_applyBlast_8 rfl rfl ?_
    refine g_iload_n X 2 (i0 := 2) dX8_applyBlast_9 rfl rfl ?_
    obtain ⟨r3, D2, e1, h⟩ := cI_s h
    refine g_V X (As := [.int x2]) (rest := []) (c_X1_opens l G E x2 _ _ e1) 61 (wg_61 E _) rfl rfl kv_X8_98 ⟨rfl, rfl⟩ ⟨rfl, hd_X1_opens⟩ (⟨Nat.le_of_ble_eq_true rfl, Nat.le_of_ble_eq_true rfl⟩) rfl rfl (Nat.le_of_ble_eq_true rfl) dX8_applyBlast_10 ?_
    refine g_if_eq X (tgt := 21) dX8_applyBlast_13 (by decide) (fun c6 => ?_) (fun c6 => ?_)
    · have h := (ite_s h).1 c6
      refine g_iinc X 2 (v := (x2 + (1 : Int32))) (lv' := [(2, .int (x2 + (1 : Int32))), (0, .ref (E.1 1)), (1, .ref (E.1 61))]) dX8_applyBlast_21 rfl rfl (by decide) rfl ?_
      refine g_goto X (tgt := 2) dX8_applyBlast_24 (by decide) ?_
      refine g_sub (lv' := [(0, .ref (E.1 1)), (1, .ref (E.1 61)), (2, .int (x2 + (1 : Int32)))]) [1, 2, 0] rfl ?_
      exact h1 _ (Option.some.inj h).symm
    · have h := (ite_s h).2 c6
      refine g_aload_n X 0 (i0 := 0) dX8_applyBlast_16 rfl rfl ?_
      refine g_iload_n X 2 (i0 := 2) dX8_applyBlast_17 rfl rfl ?_
      obtain ⟨D5, e4, h⟩ := cV_s h
      refine g_V X (As := [.int x2]) (rest := []) (c_X8_makeOpen l G E x2 _ _ e4) 1 (wg_1 E _) rfl rfl kv_X8_90 ⟨rfl, rfl⟩ ⟨rfl, hd_X8_makeOpen⟩ (⟨Nat.le_of_ble_eq_true rfl, Nat.le_of_ble_eq_true rfl⟩) rfl rfl (Nat.le_of_ble_eq_true rfl) dX8_applyBlast_18 ?_
      refine g_iinc X 2 (v := (x2 + (1 : Int32))) (lv' := [(2, .int (x2 + (1 : Int32))), (0, .ref (E.1 1)), (1, .ref (E.1 61))]) dX8_applyBlast_21 rfl rfl (by decide) rfl ?_
      refine g_goto X (tgt := 2) dX8_applyBlast_24 (by decide) ?_
      refine g_sub (lv' := [(0, .ref (E.1 1)), (1, .ref (E.1 61)), (2, .int (x2 + (1 : Int32)))]) [1, 2, 0] rfl ?_
      exact h1 _ (Option.some.inj h).symm
set_option maxRecDepth 100000 in
set_option maxHeartbeats 4000000 in
theorem bl_X8_applyBlast_2 {p : Program} {l : Launch} {e : Env} {s : State} {m : MethodId} {args : Array Value} {below : List Frame} {meth : Method} {c : Code} {G : va_G} {E : EE} {r : RT} (X : CX p s m args meth c cX8_applyBlast RX8 4 G E) (hr : meth.sig.returnType = none) (x2 : Int32) (x3 : Int32) (D : DD) (o : (Nat × List Int32 × DD) ⊕ RT) (h : b_X8_applyBlast_2 x2 x3 D = some o) (h1 : ∀ x, o = .inl x → hg_X8_applyBlast p l e s m args below meth c G E r x.1 x.2.1 x.2.2) (h2 : ∀ x, o = .inr x → x = r) : GW p l e (rmm 3) s m args below meth c G E 4 (MQ below (QR G E s.heap.size r) args s 0 0 (fr E s.heap.size)) 0 0 D 31 [(0, .ref (E.1 1)), (1, .ref (E.1 61)), (2, .int x2), (3, .int x3)] [] := by
  unfold b_X8_applyBlast_2 at h
  refine g_iload_n X 3 (i0 := 3) dX8_applyBlast_31 rfl rfl ?_
  refine g_aload_n X 0 (i0 := 0) dX8_applyBlast_32 rfl rfl ?_
  refine g_get X (D := D) (v := .int (D.1 0)) (T := TX8) 1 uX8 (wg_1 E _) rfl 4 (by decide) fl_X8_36 rfl rfl dX8_applyBlast_33 ?_
  refine g_icmp_ge X (tgt := 62) dX8_applyBlast_36 (by decide) (fun c14 => ?_) (fun c14 => ?_)
  · have h := (ite_s h).1 c14
    refine g_aload_n X 0 (i0 := 0) dX8_applyBlast_62 rfl rfl ?_
    refine g_iload_n X 2 (i0 := 2) dX8_applyBlast_63 rfl rfl ?_
    refine g_put X (D := D) (v := .int x2) (T := TX8) (D' := (setI D 0 x2)) 1 uX8 tyX8 tyX8_ok nmX8 (wg_1 E _) rfl 4 (by decide) fl_X8_36 rfl rfl rfl rfl (Nat.le_of_ble_eq_true rfl) (ws_I_0 E _ _) dX8_applyBlast_64 ?_
    exact g_vret X hr dX8_applyBlast_67 (h2 _ (Option.some.inj h).symm)
  · have h := (ite_s h).2 c14
    refine g_aload_n X 1 (i0 := 1) dX8_applyBlast_39 rfl rfl ?_
    refine g_iload_n X 3 (i0 := 3) dX8_applyBlast_40 rfl rfl ?_
    obtain ⟨r10, D9, e8, h⟩ := cI_s h
    refine g_V X (As := [.int x3]) (rest := []) (c_X1_explodes l G E x3 _ _ e8) 61 (wg_61 E _) rfl rfl kv_X8_103 ⟨rfl, rfl⟩ ⟨rfl, hd_X1_explodes⟩ (⟨Nat.le_of_ble_eq_true rfl, Nat.le_of_ble_eq_true rfl⟩) rfl rfl (Nat.le_of_ble_eq_true rfl) dX8_applyBlast_41 ?_
    refine g_if_ne X (tgt := 56) dX8_applyBlast_44 (by decide) (fun c13 => ?_) (fun c13 => ?_)
    · have h := (ite_s h).2 c13
      refine g_iinc X 3 (v := (x3 + (1 : Int32))) (lv' := [(3, .int (x3 + (1 : Int32))), (0, .ref (E.1 1)), (1, .ref (E.1 61)), (2, .int x2)]) dX8_applyBlast_56 rfl rfl (by decide) rfl ?_
      refine g_goto X (tgt := 31) dX8_applyBlast_59 (by decide) ?_
      refine g_sub (lv' := [(0, .ref (E.1 1)), (1, .ref (E.1 61)), (2, .int x2), (3, .int (x3 + (1 : Int32)))]) [1, 2, 3, 0] rfl ?_
      exact h1 _ (Option.some.inj h).symm
    · have h := (ite_s h).1 c13
      refine g_aload_n X 0 (i0 := 0) dX8_applyBlast_47 rfl rfl ?_
      refine g_iload_n X 3 (i0 := 3) dX8_applyBlast_48 rfl rfl ?_
      refine g_iload_n X 2 (i0 := 2) dX8_applyBlast_49 rfl rfl ?_
      obtain ⟨D12, e11, h⟩ := cV_s h
      refine g_V X (As := [.int x3, .int x2]) (rest := []) (c_X8_renumber l G E x3 x2 _ _ e11) 1 (wg_1 E _) rfl rfl kv_X8_94 ⟨rfl, rfl⟩ ⟨rfl, hd_X8_renumber⟩ (⟨Nat.le_of_ble_eq_true rfl, Nat.le_of_ble_eq_true rfl⟩) rfl rfl (Nat.le_of_ble_eq_true rfl) dX8_applyBlast_50 ?_
      refine g_iinc X 2 (v := (x2 + (1 : Int32))) (lv' := [(2, .int (x2 + (1 : Int32))), (0, .ref (E.1 1)), (1, .ref (E.1 61)), (3, .int x3)]) dX8_applyBlast_53 rfl rfl (by decide) rfl ?_
      refine g_iinc X 3 (v := (x3 + (1 : Int32))) (lv' := [(3, .int (x3 + (1 : Int32))), (2, .int (x2 + (1 : Int32))), (0, .ref (E.1 1)), (1, .ref (E.1 61))]) dX8_applyBlast_56 rfl rfl (by decide) rfl ?_
      refine g_goto X (tgt := 31) dX8_applyBlast_59 (by decide) ?_
      refine g_sub (lv' := [(0, .ref (E.1 1)), (1, .ref (E.1 61)), (2, .int (x2 + (1 : Int32))), (3, .int (x3 + (1 : Int32)))]) [2, 3, 1, 0] rfl ?_
      exact h1 _ (Option.some.inj h).symm
set_option maxRecDepth 100000 in
set_option maxHeartbeats 4000000 in
theorem c_X8_applyBlast (l : Launch) (G : va_G) (E : EE)  (D : DD) (r : RT) (h : S_X8_applyBlast  D = some r) : MM l G E yX8_applyBlast cX8_applyBlast 4 none (rmm 3) [.ref (E.1 1), .ref (E.1 61)] D r := by
  unfold S_X8_applyBlast at h
  refine m_of rfl (Nat.le_of_ble_eq_true rfl) ?_
  intro p e s m args below meth c X hr
  exact run_G (T := T_X8_applyBlast) (HG := hg_X8_applyBlast p l e s m args below meth c G E r) (by
    intro k ls D o hT h1 h2
    unfold T_X8_applyBlast at hT
    split at hT
    · exact bl_X8_applyBlast_0 X hr  D o hT h1 h2
    · exact bl_X8_applyBlast_1 X hr _ D o hT h1 h2
    · exact bl_X8_applyBlast_2 X hr _ _ D o hT h1 h2
    · cases hT) FUEL 0 [] D h
theorem kv_X8_106 : GoodIn UT (wsV RX8 106 RX8 yX8_priceAt (Cond.code yX8_priceAt cX8_priceAt 2 (some .int) :: UT)) := gu_V (ut 1027 (by decide +kernel) (by decide +kernel)) wm_X8_priceAt we_X8_priceAt wi_RX8 wc_X8_priceAt
def S_X8_putPrice (a0 : Int32) (a1 : Int32) (D : DD) : Option RT := (cI (S_X8_priceAt a0 D) (fun r3 D2 => (cI (S_X12_inRange a0 (1 : Int32) (10 : Int32) D2) (fun r6 D5 => (if r6 = 0 then some (0, some (.int r3), D5) else (if inB a0 11 = true then some (0, some (.int r3), (setA D5 3 (upd (D5.2.2.1 3) a0.toNatClampNeg a1))) else none))))))
set_option maxRecDepth 100000 in
set_option maxHeartbeats 4000000 in
theorem c_X8_putPrice (l : Launch) (G : va_G) (E : EE) (a0 : Int32) (a1 : Int32) (D : DD) (r : RT) (h : S_X8_putPrice a0 a1 D = some r) : MM l G E yX8_putPrice cX8_putPrice 4 (some .int) (rmm 2) [.ref (E.1 1), .int a0, .int a1] D r := by
  refine m_of rfl (Nat.le_of_ble_eq_true rfl) ?_
  intro p e s m args below meth c X hr
  unfold S_X8_putPrice at h
  refine g_aload_n X 0 (i0 := 0) dX8_putPrice_0 rfl rfl ?_
  refine g_iload_n X 1 (i0 := 1) dX8_putPrice_1 rfl rfl ?_
  obtain ⟨r3, D2, e1, h⟩ := cI_s h
  refine g_V X (As := [.int a0]) (rest := []) (c_X8_priceAt l G E a0 _ _ e1) 1 (wg_1 E _) rfl rfl kv_X8_106 ⟨rfl, rfl⟩ ⟨rfl, hd_X8_priceAt⟩ (⟨Nat.le_of_ble_eq_true rfl, Nat.le_of_ble_eq_true rfl⟩) rfl rfl (Nat.le_of_ble_eq_true rfl) dX8_putPrice_2 ?_
  refine g_istore_n X (i0 := 3) (lv' := [(3, .int r3), (0, .ref (E.1 1)), (1, .int a0), (2, .int a1)]) dX8_putPrice_5 rfl (by decide) rfl ?_
  refine g_iload_n X 2 (i0 := 1) dX8_putPrice_6 rfl rfl ?_
  refine g_iconst X (v := (1 : Int32)) dX8_putPrice_7 (by decide) ?_
  refine g_bipush X (v := (10 : Int32)) dX8_putPrice_8 (by decide) ?_
  obtain ⟨r6, D5, e4, h⟩ := cI_s h
  refine g_SN X (As := [.int a0, .int (1 : Int32), .int (10 : Int32)]) (rest := []) (c_X12_inRange l G E a0 (1 : Int32) (10 : Int32) _ _ e4) wc_X12_inRange kn_X8_64 wi_RX12 wt_X12_inRange ⟨rfl, rfl⟩ hd_X12_inRange (⟨Nat.le_of_ble_eq_true rfl, Nat.le_of_ble_eq_true rfl⟩) rfl rfl (Nat.le_of_ble_eq_true rfl) dX8_putPrice_10 ?_
  refine g_if_eq X (tgt := 23) dX8_putPrice_13 (by decide) (fun c8 => ?_) (fun c8 => ?_)
  · have h := (ite_s h).1 c8
    refine g_iload_n X 0 (i0 := 3) dX8_putPrice_23 rfl rfl ?_
    exact g_iret X hr rfl dX8_putPrice_24 (Option.some.inj h)
  · have h := (ite_s h).2 c8
    refine g_aload_n X 1 (i0 := 0) dX8_putPrice_16 rfl rfl ?_
    refine g_get X (D := D5) (v := .ref (E.1 5)) (T := TX8) 1 uX8 (wg_1 E _) rfl 3 (by decide) fl_X8_21 rfl rfl dX8_putPrice_17 ?_
    refine g_iload_n X 2 (i0 := 1) dX8_putPrice_20 rfl rfl ?_
    refine g_iload_n X 3 (i0 := 2) dX8_putPrice_21 rfl rfl ?_
    obtain ⟨b7, h⟩ := chk_s h
    refine g_iast X (D := D5) (f := (D5.2.2.1 3)) (i := a0) (x := a1) (D' := (setA D5 3 (upd (D5.2.2.1 3) a0.toNatClampNeg a1))) 5 (wg_5 E _) (inB_vp b7) (ws_A_3 E _ _) dX8_putPrice_22 ?_
    refine g_iload_n X 0 (i0 := 3) dX8_putPrice_23 rfl rfl ?_
    exact g_iret X hr rfl dX8_putPrice_24 (Option.some.inj h)
def S_X8_handOver (a0 : Int32) (a1 : Int32) (D : DD) : Option RT := some (0, none, (setJ (setI (setI D 1 ((D.1 1) - a0)) 3 ((D.1 3) + a0)) 0 ((D.2.1 0) + a1.toInt64)))
set_option maxRecDepth 100000 in
set_option maxHeartbeats 4000000 in
theorem c_X8_handOver (l : Launch) (G : va_G) (E : EE) (a0 : Int32) (a1 : Int32) (D : DD) (r : RT) (h : S_X8_handOver a0 a1 D = some r) : MM l G E yX8_handOver cX8_handOver 3 none (rmm 0) [.ref (E.1 1), .int a0, .int a1] D r := by
  refine m_of rfl (Nat.le_of_ble_eq_true rfl) ?_
  intro p e s m args below meth c X hr
  unfold S_X8_handOver at h
  refine g_aload_n X 0 (i0 := 0) dX8_handOver_0 rfl rfl ?_
  refine g_dup X dX8_handOver_1 rfl ?_
  refine g_get X (D := D) (v := .int (D.1 1)) (T := TX8) 1 uX8 (wg_1 E _) rfl 5 (by decide) fl_X8_40 rfl rfl dX8_handOver_2 ?_
  refine g_iload_n X 1 (i0 := 1) dX8_handOver_5 rfl rfl ?_
  refine g_isub X dX8_handOver_6 ?_
  refine g_put X (D := D) (v := .int ((D.1 1) - a0)) (T := TX8) (D' := (setI D 1 ((D.1 1) - a0))) 1 uX8 tyX8 tyX8_ok nmX8 (wg_1 E _) rfl 5 (by decide) fl_X8_40 rfl rfl rfl rfl (Nat.le_of_ble_eq_true rfl) (ws_I_1 E _ _) dX8_handOver_7 ?_
  refine g_aload_n X 0 (i0 := 0) dX8_handOver_10 rfl rfl ?_
  refine g_dup X dX8_handOver_11 rfl ?_
  refine g_get X (D := (setI D 1 ((D.1 1) - a0))) (v := .int (D.1 3)) (T := TX8) 1 uX8 (wg_1 E _) rfl 7 (by decide) fl_X8_46 rfl rfl dX8_handOver_12 ?_
  refine g_iload_n X 1 (i0 := 1) dX8_handOver_15 rfl rfl ?_
  refine g_iadd X dX8_handOver_16 ?_
  refine g_put X (D := (setI D 1 ((D.1 1) - a0))) (v := .int ((D.1 3) + a0)) (T := TX8) (D' := (setI (setI D 1 ((D.1 1) - a0)) 3 ((D.1 3) + a0))) 1 uX8 tyX8 tyX8_ok nmX8 (wg_1 E _) rfl 7 (by decide) fl_X8_46 rfl rfl rfl rfl (Nat.le_of_ble_eq_true rfl) (ws_I_3 E _ _) dX8_handOver_17 ?_
  refine g_aload_n X 0 (i0 := 0) dX8_handOver_20 rfl rfl ?_
  refine g_dup X dX8_handOver_21 rfl ?_
  refine g_get X (D := (setI (setI D 1 ((D.1 1) - a0)) 3 ((D.1 3) + a0))) (v := .long (D.2.1 0)) (T := TX8) 1 uX8 (wg_1 E _) rfl 8 (by decide) fl_X8_49 rfl rfl dX8_handOver_22 ?_
  refine g_iload_n X 2 (i0 := 2) dX8_handOver_25 rfl rfl ?_
  refine g_i2l X dX8_handOver_26 ?_
  refine g_ladd X dX8_handOver_27 ?_
  refine g_put X (D := (setI (setI D 1 ((D.1 1) - a0)) 3 ((D.1 3) + a0))) (v := .long ((D.2.1 0) + a1.toInt64)) (T := TX8) (D' := (setJ (setI (setI D 1 ((D.1 1) - a0)) 3 ((D.1 3) + a0)) 0 ((D.2.1 0) + a1.toInt64))) 1 uX8 tyX8 tyX8_ok nmX8 (wg_1 E _) rfl 8 (by decide) fl_X8_49 rfl rfl rfl rfl (Nat.le_of_ble_eq_true rfl) (ws_J_0 E _ _) dX8_handOver_28 ?_
  exact g_vret X hr dX8_handOver_31 (Option.some.inj h)
theorem wg_69 (E : EE) (D : DD) : (wd E D)[69]? = some (E.1 69, .inl (E.2 0, 36, .inl (D.2.2.1 57))) := rfl
theorem ws_A_57 (E : EE) (D : DD) (f : Nat → Int32) : (wd E D).set 69 (E.1 69, .inl (E.2 0, 36, .inl f)) = wd E (setA D 57 f) := rfl
def b_J7_fill_53178_slabs_partner_0 (a1 : Int32) (D : DD) : Option ((Nat × List Int32 × DD) ⊕ RT) := some (.inl (1, [a1, (0 : Int32), (36 : Int32)], D))
def b_J7_fill_53178_slabs_partner_1 (x1 : Int32) (x2 : Int32) (x3 : Int32) (D : DD) : Option ((Nat × List Int32 × DD) ⊕ RT) := (if x3 ≤ x2 then some (.inr (0, none, D)) else (if inB x2 36 = true then some (.inl (1, [x1, (x2 + (1 : Int32)), x3], (setA D 57 (upd (D.2.2.1 57) x2.toNatClampNeg x1)))) else none))
def T_J7_fill_53178_slabs_partner (k : Nat) (ls : List Int32) (D : DD) : Option ((Nat × List Int32 × DD) ⊕ RT) := match k, ls with
  | 0, [a1] => b_J7_fill_53178_slabs_partner_0 a1 D
  | 1, [x1, x2, x3] => b_J7_fill_53178_slabs_partner_1 x1 x2 x3 D
  | _, _ => none
def S_J7_fill_53178_slabs_partner (a1 : Int32) (D : DD) : Option RT := run T_J7_fill_53178_slabs_partner FUEL 0 [a1] D
def hg_J7_fill_53178_slabs_partner (p : Program) (l : Launch) (e : Env) (s : State) (m : MethodId) (args : Array Value) (below : List Frame) (meth : Method) (c : Code) (G : va_G) (E : EE) (r : RT) (k : Nat) (ls : List Int32) (D : DD) : Prop := match k, ls with
  | 0, [a1] => GW p l e (rmm 0) s m args below meth c G E 4 (MQ below (QR G E s.heap.size r) args s 0 0 (fr E s.heap.size)) 0 0 D 0 [(0, .ref (E.1 69)), (1, .int a1)] []
  | 1, [x1, x2, x3] => GW p l e (rmm 0) s m args below meth c G E 4 (MQ below (QR G E s.heap.size r) args s 0 0 (fr E s.heap.size)) 0 0 D 5 [(0, .ref (E.1 69)), (1, .int x1), (2, .int x2), (3, .int x3)] []
  | _, _ => True
set_option maxRecDepth 100000 in
set_option maxHeartbeats 4000000 in
theorem bl_J7_fill_53178_slabs_partner_0 {p : Program} {l : Launch} {e : Env} {s : State} {m : MethodId} {args : Array Value} {below : List Frame} {meth : Method} {c : Code} {G : va_G} {E : EE} {r : RT} (X : CX p s m args meth c cJ7_fill_53178 RJ7 4 G E) (hr : meth.sig.returnType = none) (a1 : Int32) (D : DD) (o : (Nat × List Int32 × DD) ⊕ RT) (h : b_J7_fill_53178_slabs_partner_0 a1 D = some o) (h1 : ∀ x, o = .inl x → hg_J7_fill_53178_slabs_partner p l e s m args below meth c G E r x.1 x.2.1 x.2.2) (h2 : ∀ x, o = .inr x → x = r) : GW p l e (rmm 0) s m args below meth c G E 4 (MQ below (QR G E s.heap.size r) args s 0 0 (fr E s.heap.size)) 0 0 D 0 [(0, .ref (E.1 69)), (1, .int a1)] [] := by
  unfold b_J7_fill_53178_slabs_partner_0 at h
  refine g_iconst X (v := (0 : Int32)) dJ7_fill_53178_0 (by decide) ?_
  refine g_istore_n X (i0 := 2) (lv' := [(2, .int (0 : Int32)), (0, .ref (E.1 69)), (1, .int a1)]) dJ7_fill_53178_1 rfl (by decide) rfl ?_
  refine g_aload_n X 1 (i0 := 0) dJ7_fill_53178_2 rfl rfl ?_
  refine g_alen X (D := D) (v := (36 : Int32)) (t0 := 0) 69 (wg_69 E _) rfl rfl dJ7_fill_53178_3 ?_
  refine g_istore_n X (i0 := 3) (lv' := [(3, .int (36 : Int32)), (2, .int (0 : Int32)), (0, .ref (E.1 69)), (1, .int a1)]) dJ7_fill_53178_4 rfl (by decide) rfl ?_
  refine g_sub (lv' := [(0, .ref (E.1 69)), (1, .int a1), (2, .int (0 : Int32)), (3, .int (36 : Int32))]) [2, 3, 1, 0] rfl ?_
  exact h1 _ (Option.some.inj h).symm
set_option maxRecDepth 100000 in
set_option maxHeartbeats 4000000 in
theorem bl_J7_fill_53178_slabs_partner_1 {p : Program} {l : Launch} {e : Env} {s : State} {m : MethodId} {args : Array Value} {below : List Frame} {meth : Method} {c : Code} {G : va_G} {E : EE} {r : RT} (X : CX p s m args meth c cJ7_fill_53178 RJ7 4 G E) (hr : meth.sig.returnType = none) (x1 : Int32) (x2 : Int32) (x3 : Int32) (D : DD) (o : (Nat × List Int32 × DD) ⊕ RT) (h : b_J7_fill_53178_slabs_partner_1 x1 x2 x3 D = some o) (h1 : ∀ x, o = .inl x → hg_J7_fill_53178_slabs_partner p l e s m args below meth c G E r x.1 x.2.1 x.2.2) (h2 : ∀ x, o = .inr x → x = r) : GW p l e (rmm 0) s m args below meth c G E 4 (MQ below (QR G E s.heap.size r) args s 0 0 (fr E s.heap.size)) 0 0 D 5 [(0, .ref (E.1 69)), (1, .int x1), (2, .int x2), (3, .int x3)] [] := by
  unfold b_J7_fill_53178_slabs_partner_1 at h
  refine g_iload_n X 2 (i0 := 2) dJ7_fill_53178_5 rfl rfl ?_
  refine g_iload_n X 3 (i0 := 3) dJ7_fill_53178_6 rfl rfl ?_
  refine g_icmp_ge X (tgt := 20) dJ7_fill_53178_7 (by decide) (fun c2 => ?_) (fun c2 => ?_)
  · have h := (ite_s h).1 c2
    exact g_vret X hr dJ7_fill_53178_20 (h2 _ (Option.some.inj h).symm)
  · have h := (ite_s h).2 c2
    refine g_aload_n X 0 (i0 := 0) dJ7_fill_53178_10 rfl rfl ?_
    refine g_iload_n X 2 (i0 := 2) dJ7_fill_53178_11 rfl rfl ?_
    refine g_iload_n X 1 (i0 := 1) dJ7_fill_53178_12 rfl rfl ?_
    obtain ⟨b1, h⟩ := chk_s h
    refine g_iast X (D := D) (f := (D.2.2.1 57)) (i := x2) (x := x1) (D' := (setA D 57 (upd (D.2.2.1 57) x2.toNatClampNeg x1))) 69 (wg_69 E _) (inB_vp b1) (ws_A_57 E _ _) dJ7_fill_53178_13 ?_
    refine g_iinc X 2 (v := (x2 + (1 : Int32))) (lv' := [(2, .int (x2 + (1 : Int32))), (0, .ref (E.1 69)), (1, .int x1), (3, .int x3)]) dJ7_fill_53178_14 rfl rfl (by decide) rfl ?_
    refine g_goto X (tgt := 5) dJ7_fill_53178_17 (by decide) ?_
    refine g_sub (lv' := [(0, .ref (E.1 69)), (1, .int x1), (2, .int (x2 + (1 : Int32))), (3, .int x3)]) [1, 2, 0, 3] rfl ?_
    exact h1 _ (Option.some.inj h).symm
set_option maxRecDepth 100000 in
set_option maxHeartbeats 4000000 in
theorem c_J7_fill_53178_slabs_partner (l : Launch) (G : va_G) (E : EE) (a1 : Int32) (D : DD) (r : RT) (h : S_J7_fill_53178_slabs_partner a1 D = some r) : MM l G E yJ7_fill_53178 cJ7_fill_53178 4 none (rmm 0) [.ref (E.1 69), .int a1] D r := by
  unfold S_J7_fill_53178_slabs_partner at h
  refine m_of rfl (Nat.le_of_ble_eq_true rfl) ?_
  intro p e s m args below meth c X hr
  exact run_G (T := T_J7_fill_53178_slabs_partner) (HG := hg_J7_fill_53178_slabs_partner p l e s m args below meth c G E r) (by
    intro k ls D o hT h1 h2
    unfold T_J7_fill_53178_slabs_partner at hT
    split at hT
    · exact bl_J7_fill_53178_slabs_partner_0 X hr _ D o hT h1 h2
    · exact bl_J7_fill_53178_slabs_partner_1 X hr _ _ _ D o hT h1 h2
    · cases hT) FUEL 0 [a1] D h
theorem wg_70 (E : EE) (D : DD) : (wd E D)[70]? = some (E.1 70, .inl (E.2 1, 36, .inl (D.2.2.1 58))) := rfl
theorem ws_A_58 (E : EE) (D : DD) (f : Nat → Int32) : (wd E D).set 70 (E.1 70, .inl (E.2 1, 36, .inl f)) = wd E (setA D 58 f) := rfl
def b_X12_clear_slabs_asked_0  (D : DD) : Option ((Nat × List Int32 × DD) ⊕ RT) := some (.inl (1, [(0 : Int32)], D))
def b_X12_clear_slabs_asked_1 (x1 : Int32) (D : DD) : Option ((Nat × List Int32 × DD) ⊕ RT) := (if (36 : Int32) ≤ x1 then some (.inr (0, none, D)) else (if inB x1 36 = true then some (.inl (1, [(x1 + (1 : Int32))], (setA D 58 (upd (D.2.2.1 58) x1.toNatClampNeg (vp_nar .boolean (0 : Int32)))))) else none))
def T_X12_clear_slabs_asked (k : Nat) (ls : List Int32) (D : DD) : Option ((Nat × List Int32 × DD) ⊕ RT) := match k, ls with
  | 0, [] => b_X12_clear_slabs_asked_0  D
  | 1, [x1] => b_X12_clear_slabs_asked_1 x1 D
  | _, _ => none
def S_X12_clear_slabs_asked  (D : DD) : Option RT := run T_X12_clear_slabs_asked FUEL 0 [] D
def hg_X12_clear_slabs_asked (p : Program) (l : Launch) (e : Env) (s : State) (m : MethodId) (args : Array Value) (below : List Frame) (meth : Method) (c : Code) (G : va_G) (E : EE) (r : RT) (k : Nat) (ls : List Int32) (D : DD) : Prop := match k, ls with
  | 0, [] => GW p l e (rmm 0) s m args below meth c G E 2 (MQ below (QR G E s.heap.size r) args s 0 0 (fr E s.heap.size)) 0 0 D 0 [(0, .ref (E.1 70))] []
  | 1, [x1] => GW p l e (rmm 0) s m args below meth c G E 2 (MQ below (QR G E s.heap.size r) args s 0 0 (fr E s.heap.size)) 0 0 D 2 [(0, .ref (E.1 70)), (1, .int x1)] []
  | _, _ => True
set_option maxRecDepth 100000 in
set_option maxHeartbeats 4000000 in
theorem bl_X12_clear_slabs_asked_0 {p : Program} {l : Launch} {e : Env} {s : State} {m : MethodId} {args : Array Value} {below : List Frame} {meth : Method} {c : Code} {G : va_G} {E : EE} {r : RT} (X : CX p s m args meth c cX12_clear RX12 2 G E) (hr : meth.sig.returnType = none)  (D : DD) (o : (Nat × List Int32 × DD) ⊕ RT) (h : b_X12_clear_slabs_asked_0  D = some o) (h1 : ∀ x, o = .inl x → hg_X12_clear_slabs_asked p l e s m args below meth c G E r x.1 x.2.1 x.2.2) (h2 : ∀ x, o = .inr x → x = r) : GW p l e (rmm 0) s m args below meth c G E 2 (MQ below (QR G E s.heap.size r) args s 0 0 (fr E s.heap.size)) 0 0 D 0 [(0, .ref (E.1 70))] [] := by
  unfold b_X12_clear_slabs_asked_0 at h
  refine g_iconst X (v := (0 : Int32)) dX12_clear_0 (by decide) ?_
  refine g_istore_n X (i0 := 1) (lv' := [(1, .int (0 : Int32)), (0, .ref (E.1 70))]) dX12_clear_1 rfl (by decide) rfl ?_
  refine g_sub (lv' := [(0, .ref (E.1 70)), (1, .int (0 : Int32))]) [1, 0] rfl ?_
  exact h1 _ (Option.some.inj h).symm
set_option maxRecDepth 100000 in
set_option maxHeartbeats 4000000 in
theorem bl_X12_clear_slabs_asked_1 {p : Program} {l : Launch} {e : Env} {s : State} {m : MethodId} {args : Array Value} {below : List Frame} {meth : Method} {c : Code} {G : va_G} {E : EE} {r : RT} (X : CX p s m args meth c cX12_clear RX12 2 G E) (hr : meth.sig.returnType = none) (x1 : Int32) (D : DD) (o : (Nat × List Int32 × DD) ⊕ RT) (h : b_X12_clear_slabs_asked_1 x1 D = some o) (h1 : ∀ x, o = .inl x → hg_X12_clear_slabs_asked p l e s m args below meth c G E r x.1 x.2.1 x.2.2) (h2 : ∀ x, o = .inr x → x = r) : GW p l e (rmm 0) s m args below meth c G E 2 (MQ below (QR G E s.heap.size r) args s 0 0 (fr E s.heap.size)) 0 0 D 2 [(0, .ref (E.1 70)), (1, .int x1)] [] := by
  unfold b_X12_clear_slabs_asked_1 at h
  refine g_iload_n X 1 (i0 := 1) dX12_clear_2 rfl rfl ?_
  refine g_aload_n X 0 (i0 := 0) dX12_clear_3 rfl rfl ?_
  refine g_alen X (D := D) (v := (36 : Int32)) (t0 := 1) 70 (wg_70 E _) rfl rfl dX12_clear_4 ?_
  refine g_icmp_ge X (tgt := 18) dX12_clear_5 (by decide) (fun c2 => ?_) (fun c2 => ?_)
  · have h := (ite_s h).1 c2
    exact g_vret X hr dX12_clear_18 (h2 _ (Option.some.inj h).symm)
  · have h := (ite_s h).2 c2
    refine g_aload_n X 0 (i0 := 0) dX12_clear_8 rfl rfl ?_
    refine g_iload_n X 1 (i0 := 1) dX12_clear_9 rfl rfl ?_
    refine g_iconst X (v := (0 : Int32)) dX12_clear_10 (by decide) ?_
    obtain ⟨b1, h⟩ := chk_s h
    refine g_zast X (D := D) (f := (D.2.2.1 58)) (i := x1) (x := (0 : Int32)) (D' := (setA D 58 (upd (D.2.2.1 58) x1.toNatClampNeg (vp_nar .boolean (0 : Int32))))) 70 (wg_70 E _) (inB_vp b1) (ws_A_58 E _ _) dX12_clear_11 ?_
    refine g_iinc X 1 (v := (x1 + (1 : Int32))) (lv' := [(1, .int (x1 + (1 : Int32))), (0, .ref (E.1 70))]) dX12_clear_12 rfl rfl (by decide) rfl ?_
    refine g_goto X (tgt := 2) dX12_clear_15 (by decide) ?_
    refine g_sub (lv' := [(0, .ref (E.1 70)), (1, .int (x1 + (1 : Int32)))]) [1, 0] rfl ?_
    exact h1 _ (Option.some.inj h).symm
set_option maxRecDepth 100000 in
set_option maxHeartbeats 4000000 in
theorem c_X12_clear_slabs_asked (l : Launch) (G : va_G) (E : EE)  (D : DD) (r : RT) (h : S_X12_clear_slabs_asked  D = some r) : MM l G E yX12_clear cX12_clear 2 none (rmm 0) [.ref (E.1 70)] D r := by
  unfold S_X12_clear_slabs_asked at h
  refine m_of rfl (Nat.le_of_ble_eq_true rfl) ?_
  intro p e s m args below meth c X hr
  exact run_G (T := T_X12_clear_slabs_asked) (HG := hg_X12_clear_slabs_asked p l e s m args below meth c G E r) (by
    intro k ls D o hT h1 h2
    unfold T_X12_clear_slabs_asked at hT
    split at hT
    · exact bl_X12_clear_slabs_asked_0 X hr  D o hT h1 h2
    · exact bl_X12_clear_slabs_asked_1 X hr _ D o hT h1 h2
    · cases hT) FUEL 0 [] D h
theorem fl_X9_15 : Cond.fieldLink RX9 15 "StoneQuarry$Slabs" "asked" "[Z" ∈ UT := ut 238 (by decide +kernel) (by decide +kernel)
theorem fl_X9_9 : Cond.fieldLink RX9 9 "StoneQuarry$Slabs" "partner" "[I" ∈ UT := ut 237 (by decide +kernel) (by decide +kernel)
theorem hd_X9_makeRoom : yX9_makeRoom.cls ≠ "java/lang/invoke/MethodHandle" ∧ yX9_makeRoom.cls ≠ "java/lang/invoke/VarHandle" ∧ (parseMethodDescriptor yX9_makeRoom.desc).map (fun d => d.parameters.length) = some 4 := by decide +kernel
theorem kn_X9_45 : Cond.methodLinkNest RX9 45 yX12_neighbourOf "StoneQuarry" ∈ NEST := nst 443 (by decide +kernel) rfl
theorem kn_X9_49 : Cond.methodLinkNest RX9 49 yX12_isCell "StoneQuarry" ∈ NEST := nst 444 (by decide +kernel) rfl
theorem wc_X9_makeRoom : Cond.code yX9_makeRoom cX9_makeRoom 7 (some .boolean) ∈ UT := ut 442 (by decide +kernel) (by decide +kernel)
theorem wi_RX9 : Cond.initialized RX9 ∈ UT := ut 82 (by decide +kernel) (by decide +kernel)
theorem wt_X9_makeRoom : Cond.static yX9_makeRoom ∈ UT := ut 441 (by decide +kernel) (by decide +kernel)
theorem ks_X9_41 : GoodIn UT (va_wsS RX9 41 yX9_makeRoom (Cond.code yX9_makeRoom cX9_makeRoom 7 (some .boolean) :: UT)) := gu_S (ut 440 (by decide +kernel) (by decide +kernel)) wt_X9_makeRoom wi_RX9 wc_X9_makeRoom
theorem kv_X9_31 : GoodIn UT (wsV RX9 31 RX8 yX8_openAt (Cond.code yX8_openAt cX8_openAt 2 (some .boolean) :: UT)) := gu_V (ut 435 (by decide +kernel) (by decide +kernel)) wm_X8_openAt we_X8_openAt wi_RX8 wc_X8_openAt
theorem uX9 : ∀ w ∈ wsX90, w ∈ UT := ut_all (by decide +kernel) (by decide +kernel)
theorem wg_68 (E : EE) (D : DD) : (wd E D)[68]? = some (E.1 68, .inr (9, [.ref (E.1 69), .ref (E.1 70), .ref (E.1 71), .ref (E.1 72)])) := rfl
def b_X9_makeRoom_0 (rc : Int32 → Int32 →  DD → Option RT) (a2 : Int32) (a3 : Int32) (D : DD) : Option ((Nat × List Int32 × DD) ⊕ RT) := (if a3 < (36 : Int32) then some (.inl (1, [a2, a3, (0 : Int32)], D)) else some (.inr (0, some (.int (0 : Int32)), D)))
def b_X9_makeRoom_1 (rc : Int32 → Int32 →  DD → Option RT) (x2 : Int32) (x3 : Int32) (x4 : Int32) (D : DD) : Option ((Nat × List Int32 × DD) ⊕ RT) := (if (4 : Int32) ≤ x4 then some (.inr (0, some (.int (0 : Int32)), D)) else (cI (S_X12_neighbourOf x2 x4 D) (fun r4 D3 => (cI (S_X12_isCell r4 D3) (fun r7 D6 => (if r7 = 0 then some (.inl (1, [x2, x3, (x4 + (1 : Int32))], D6)) else (cI (S_X8_openAt r4 D6) (fun r10 D9 => (if r10 = 0 then some (.inl (1, [x2, x3, (x4 + (1 : Int32))], D9)) else (if inB r4 36 = true then (if ((D9.2.2.1 58) r4.toNatClampNeg) = 0 then (if inB r4 36 = true then (if inB r4 36 = true then (if ((D9.2.2.1 57) r4.toNatClampNeg) = (-1 : Int32) then (if inB r4 36 = true then some (.inr (0, some (.int (1 : Int32)), (setA (setA D9 58 (upd (D9.2.2.1 58) r4.toNatClampNeg (vp_nar .boolean (1 : Int32)))) 57 (upd (D9.2.2.1 57) r4.toNatClampNeg x2)))) else none) else (cI (rc ((D9.2.2.1 57) r4.toNatClampNeg) (x3 + (1 : Int32)) (setA D9 58 (upd (D9.2.2.1 58) r4.toNatClampNeg (vp_nar .boolean (1 : Int32))))) (fun r17 D16 => (if r17 = 0 then some (.inl (1, [x2, x3, (x4 + (1 : Int32))], D16)) else (if inB r4 36 = true then some (.inr (0, some (.int (1 : Int32)), (setA D16 57 (upd (D16.2.2.1 57) r4.toNatClampNeg x2)))) else none))))) else none) else none) else some (.inl (1, [x2, x3, (x4 + (1 : Int32))], D9))) else none))))))))))
def T_X9_makeRoom (rc : Int32 → Int32 →  DD → Option RT) (k : Nat) (ls : List Int32) (D : DD) : Option ((Nat × List Int32 × DD) ⊕ RT) := match k, ls with
  | 0, [a2, a3] => b_X9_makeRoom_0 rc a2 a3 D
  | 1, [x2, x3, x4] => b_X9_makeRoom_1 rc x2 x3 x4 D
  | _, _ => none
def S_X9_makeRoom : Nat → Int32 → Int32 → DD → Option RT
  | 0 => fun _ _ _ => none
  | d + 1 => fun a2 a3 D => run (T_X9_makeRoom (S_X9_makeRoom d)) FUEL 0 [a2, a3] D
def hg_X9_makeRoom (d : Nat) (p : Program) (l : Launch) (e : Env) (s : State) (m : MethodId) (args : Array Value) (below : List Frame) (meth : Method) (c : Code) (G : va_G) (E : EE) (r : RT) (k : Nat) (ls : List Int32) (D : DD) : Prop := match k, ls with
  | 0, [a2, a3] => GW p l e (rmm (2 + d)) s m args below meth c G E 7 (MQ below (QR G E s.heap.size r) args s 0 0 (fr E s.heap.size)) 0 0 D 0 [(0, .ref (E.1 68)), (1, .ref (E.1 1)), (2, .int a2), (3, .int a3)] []
  | 1, [x2, x3, x4] => GW p l e (rmm (2 + d)) s m args below meth c G E 7 (MQ below (QR G E s.heap.size r) args s 0 0 (fr E s.heap.size)) 0 0 D 11 [(0, .ref (E.1 68)), (1, .ref (E.1 1)), (2, .int x2), (3, .int x3), (4, .int x4)] []
  | _, _ => True
set_option maxRecDepth 100000 in
set_option maxHeartbeats 4000000 in
theorem bl_X9_makeRoom_0 {p : Program} {l : Launch} {e : Env} {s : State} {m : MethodId} {args : Array Value} {below : List Frame} {meth : Method} {c : Code} {G : va_G} {E : EE} {r : RT} (d : Nat) {rc : Int32 → Int32 → DD → Option RT} (ih : ∀ (a2 : Int32) (a3 : Int32) (D : DD) (r : RT), rc a2 a3 D = some r → MM l G E yX9_makeRoom cX9_makeRoom 7 (some .boolean) (rmm (2 + d)) [.ref (E.1 68), .ref (E.1 1), .int a2, .int a3] D r) (X : CX p s m args meth c cX9_makeRoom RX9 7 G E) (hr : meth.sig.returnType = (some .boolean)) (a2 : Int32) (a3 : Int32) (D : DD) (o : (Nat × List Int32 × DD) ⊕ RT) (h : b_X9_makeRoom_0 rc a2 a3 D = some o) (h1 : ∀ x, o = .inl x → hg_X9_makeRoom (d + 1) p l e s m args below meth c G E r x.1 x.2.1 x.2.2) (h2 : ∀ x, o = .inr x → x = r) : GW p l e (rmm (2 + (d + 1))) s m args below meth c G E 7 (MQ below (QR G E s.heap.size r) args s 0 0 (fr E s.heap.size)) 0 0 D 0 [(0, .ref (E.1 68)), (1, .ref (E.1 1)), (2, .int a2), (3, .int a3)] [] := by
  unfold b_X9_makeRoom_0 at h
  refine g_iload_n X 3 (i0 := 3) dX9_makeRoom_0 rfl rfl ?_
  refine g_bipush X (v := (36 : Int32)) dX9_makeRoom_1 (by decide) ?_
  refine g_icmp_lt X (tgt := 8) dX9_makeRoom_3 (by decide) (fun c1 => ?_) (fun c1 => ?_)
  · have h := (ite_s h).1 c1
    refine g_iconst X (v := (0 : Int32)) dX9_makeRoom_8 (by decide) ?_
    refine g_istore X (lv' := [(4, .int (0 : Int32)), (0, .ref (E.1 68)), (1, .ref (E.1 1)), (2, .int a2), (3, .int a3)]) dX9_makeRoom_9 (by decide) rfl ?_
    refine g_sub (lv' := [(0, .ref (E.1 68)), (1, .ref (E.1 1)), (2, .int a2), (3, .int a3), (4, .int (0 : Int32))]) [1, 2, 3, 4, 0] rfl ?_
    exact h1 _ (Option.some.inj h).symm
  · have h := (ite_s h).2 c1
    refine g_iconst X (v := (0 : Int32)) dX9_makeRoom_6 (by decide) ?_
    exact g_iret X hr rfl dX9_makeRoom_7 (h2 _ (Option.some.inj h).symm)
set_option maxRecDepth 100000 in
set_option maxHeartbeats 4000000 in
theorem bl_X9_makeRoom_1 {p : Program} {l : Launch} {e : Env} {s : State} {m : MethodId} {args : Array Value} {below : List Frame} {meth : Method} {c : Code} {G : va_G} {E : EE} {r : RT} (d : Nat) {rc : Int32 → Int32 → DD → Option RT} (ih : ∀ (a2 : Int32) (a3 : Int32) (D : DD) (r : RT), rc a2 a3 D = some r → MM l G E yX9_makeRoom cX9_makeRoom 7 (some .boolean) (rmm (2 + d)) [.ref (E.1 68), .ref (E.1 1), .int a2, .int a3] D r) (X : CX p s m args meth c cX9_makeRoom RX9 7 G E) (hr : meth.sig.returnType = (some .boolean)) (x2 : Int32) (x3 : Int32) (x4 : Int32) (D : DD) (o : (Nat × List Int32 × DD) ⊕ RT) (h : b_X9_makeRoom_1 rc x2 x3 x4 D = some o) (h1 : ∀ x, o = .inl x → hg_X9_makeRoom (d + 1) p l e s m args below meth c G E r x.1 x.2.1 x.2.2) (h2 : ∀ x, o = .inr x → x = r) : GW p l e (rmm (2 + (d + 1))) s m args below meth c G E 7 (MQ below (QR G E s.heap.size r) args s 0 0 (fr E s.heap.size)) 0 0 D 11 [(0, .ref (E.1 68)), (1, .ref (E.1 1)), (2, .int x2), (3, .int x3), (4, .int x4)] [] := by
  unfold b_X9_makeRoom_1 at h
  refine g_iload X 4 dX9_makeRoom_11 rfl ?_
  refine g_iconst X (v := (4 : Int32)) dX9_makeRoom_13 (by decide) ?_
  refine g_icmp_ge X (tgt := 104) dX9_makeRoom_14 (by decide) (fun c24 => ?_) (fun c24 => ?_)
  · have h := (ite_s h).1 c24
    refine g_iconst X (v := (0 : Int32)) dX9_makeRoom_104 (by decide) ?_
    exact g_iret X hr rfl dX9_makeRoom_105 (h2 _ (Option.some.inj h).symm)
  · have h := (ite_s h).2 c24
    refine g_iload_n X 2 (i0 := 2) dX9_makeRoom_17 rfl rfl ?_
    refine g_iload X 4 dX9_makeRoom_18 rfl ?_
    obtain ⟨r4, D3, e2, h⟩ := cI_s h
    refine g_SN X (As := [.int x2, .int x4]) (rest := []) (c_X12_neighbourOf l G E x2 x4 _ _ e2) wc_X12_neighbourOf kn_X9_45 wi_RX12 wt_X12_neighbourOf ⟨rfl, rfl⟩ hd_X12_neighbourOf (rmm_lt (by omega)) rfl rfl (Nat.le_of_ble_eq_true rfl) dX9_makeRoom_20 ?_
    refine g_istore X (lv' := [(5, .int r4), (0, .ref (E.1 68)), (1, .ref (E.1 1)), (2, .int x2), (3, .int x3), (4, .int x4)]) dX9_makeRoom_23 (by decide) rfl ?_
    refine g_iload X 0 dX9_makeRoom_25 rfl ?_
    obtain ⟨r7, D6, e5, h⟩ := cI_s h
    refine g_SN X (As := [.int r4]) (rest := []) (c_X12_isCell l G E r4 _ _ e5) wc_X12_isCell kn_X9_49 wi_RX12 wt_X12_isCell ⟨rfl, rfl⟩ hd_X12_isCell (rmm_lt (by omega)) rfl rfl (Nat.le_of_ble_eq_true rfl) dX9_makeRoom_27 ?_
    refine g_if_eq X (tgt := 98) dX9_makeRoom_30 (by decide) (fun c23 => ?_) (fun c23 => ?_)
    · have h := (ite_s h).1 c23
      refine g_iinc X 5 (v := (x4 + (1 : Int32))) (lv' := [(4, .int (x4 + (1 : Int32))), (5, .int r4), (0, .ref (E.1 68)), (1, .ref (E.1 1)), (2, .int x2), (3, .int x3)]) dX9_makeRoom_98 rfl rfl (by decide) rfl ?_
      refine g_goto X (tgt := 11) dX9_makeRoom_101 (by decide) ?_
      refine g_sub (lv' := [(0, .ref (E.1 68)), (1, .ref (E.1 1)), (2, .int x2), (3, .int x3), (4, .int (x4 + (1 : Int32)))]) [2, 3, 4, 5, 0] rfl ?_
      exact h1 _ (Option.some.inj h).symm
    · have h := (ite_s h).2 c23
      refine g_aload_n X 2 (i0 := 1) dX9_makeRoom_33 rfl rfl ?_
      refine g_iload X 0 dX9_makeRoom_34 rfl ?_
      obtain ⟨r10, D9, e8, h⟩ := cI_s h
      refine g_V X (As := [.int r4]) (rest := []) (c_X8_openAt l G E r4 _ _ e8) 1 (wg_1 E _) rfl rfl kv_X9_31 ⟨rfl, rfl⟩ ⟨rfl, hd_X8_openAt⟩ (rmm_lt (by omega)) rfl rfl (Nat.le_of_ble_eq_true rfl) dX9_makeRoom_36 ?_
      refine g_if_eq X (tgt := 98) dX9_makeRoom_39 (by decide) (fun c22 => ?_) (fun c22 => ?_)
      · have h := (ite_s h).1 c22
        refine g_iinc X 5 (v := (x4 + (1 : Int32))) (lv' := [(4, .int (x4 + (1 : Int32))), (5, .int r4), (0, .ref (E.1 68)), (1, .ref (E.1 1)), (2, .int x2), (3, .int x3)]) dX9_makeRoom_98 rfl rfl (by decide) rfl ?_
        refine g_goto X (tgt := 11) dX9_makeRoom_101 (by decide) ?_
        refine g_sub (lv' := [(0, .ref (E.1 68)), (1, .ref (E.1 1)), (2, .int x2), (3, .int x3), (4, .int (x4 + (1 : Int32)))]) [2, 3, 4, 5, 0] rfl ?_
        exact h1 _ (Option.some.inj h).symm
      · have h := (ite_s h).2 c22
        refine g_aload_n X 1 (i0 := 0) dX9_makeRoom_42 rfl rfl ?_
        refine g_get X (D := D9) (v := .ref (E.1 70)) (T := TX9) 68 uX9 (wg_68 E _) rfl 1 (by decide) fl_X9_15 rfl rfl dX9_makeRoom_43 ?_
        refine g_iload X 0 dX9_makeRoom_46 rfl ?_
        obtain ⟨b11, h⟩ := chk_s h
        refine g_zald X (D := D9) (f := (D9.2.2.1 58)) (i := r4) 70 (wg_70 E _) (inB_vp b11) dX9_makeRoom_48 ?_
        refine g_if_ne X (tgt := 98) dX9_makeRoom_49 (by decide) (fun c21 => ?_) (fun c21 => ?_)
        · have h := (ite_s h).2 c21
          refine g_iinc X 5 (v := (x4 + (1 : Int32))) (lv' := [(4, .int (x4 + (1 : Int32))), (5, .int r4), (0, .ref (E.1 68)), (1, .ref (E.1 1)), (2, .int x2), (3, .int x3)]) dX9_makeRoom_98 rfl rfl (by decide) rfl ?_
          refine g_goto X (tgt := 11) dX9_makeRoom_101 (by decide) ?_
          refine g_sub (lv' := [(0, .ref (E.1 68)), (1, .ref (E.1 1)), (2, .int x2), (3, .int x3), (4, .int (x4 + (1 : Int32)))]) [2, 3, 4, 5, 0] rfl ?_
          exact h1 _ (Option.some.inj h).symm
        · have h := (ite_s h).1 c21
          refine g_aload_n X 1 (i0 := 0) dX9_makeRoom_52 rfl rfl ?_
          refine g_get X (D := D9) (v := .ref (E.1 70)) (T := TX9) 68 uX9 (wg_68 E _) rfl 1 (by decide) fl_X9_15 rfl rfl dX9_makeRoom_53 ?_
          refine g_iload X 0 dX9_makeRoom_56 rfl ?_
          refine g_iconst X (v := (1 : Int32)) dX9_makeRoom_58 (by decide) ?_
          obtain ⟨b12, h⟩ := chk_s h
          refine g_zast X (D := D9) (f := (D9.2.2.1 58)) (i := r4) (x := (1 : Int32)) (D' := (setA D9 58 (upd (D9.2.2.1 58) r4.toNatClampNeg (vp_nar .boolean (1 : Int32))))) 70 (wg_70 E _) (inB_vp b12) (ws_A_58 E _ _) dX9_makeRoom_59 ?_
          refine g_aload_n X 1 (i0 := 0) dX9_makeRoom_60 rfl rfl ?_
          refine g_get X (D := (setA D9 58 (upd (D9.2.2.1 58) r4.toNatClampNeg (vp_nar .boolean (1 : Int32))))) (v := .ref (E.1 69)) (T := TX9) 68 uX9 (wg_68 E _) rfl 0 (by decide) fl_X9_9 rfl rfl dX9_makeRoom_61 ?_
          refine g_iload X 0 dX9_makeRoom_64 rfl ?_
          obtain ⟨b13, h⟩ := chk_s h
          refine g_iald X (D := (setA D9 58 (upd (D9.2.2.1 58) r4.toNatClampNeg (vp_nar .boolean (1 : Int32))))) (f := (D9.2.2.1 57)) (i := r4) 69 (wg_69 E _) (inB_vp b13) dX9_makeRoom_66 ?_
          refine g_istore X (lv' := [(6, .int ((D9.2.2.1 57) r4.toNatClampNeg)), (5, .int r4), (0, .ref (E.1 68)), (1, .ref (E.1 1)), (2, .int x2), (3, .int x3), (4, .int x4)]) dX9_makeRoom_67 (by decide) rfl ?_
          refine g_iload X 0 dX9_makeRoom_69 rfl ?_
          refine g_iconst X (v := (-1 : Int32)) dX9_makeRoom_71 (by decide) ?_
          refine g_icmp_eq X (tgt := 88) dX9_makeRoom_72 (by decide) (fun c20 => ?_) (fun c20 => ?_)
          · have h := (ite_s h).1 c20
            refine g_aload_n X 2 (i0 := 0) dX9_makeRoom_88 rfl rfl ?_
            refine g_get X (D := (setA D9 58 (upd (D9.2.2.1 58) r4.toNatClampNeg (vp_nar .boolean (1 : Int32))))) (v := .ref (E.1 69)) (T := TX9) 68 uX9 (wg_68 E _) rfl 0 (by decide) fl_X9_9 rfl rfl dX9_makeRoom_89 ?_
            refine g_iload X 1 dX9_makeRoom_92 rfl ?_
            refine g_iload_n X 4 (i0 := 2) dX9_makeRoom_94 rfl rfl ?_
            obtain ⟨b14, h⟩ := chk_s h
            refine g_iast X (D := (setA D9 58 (upd (D9.2.2.1 58) r4.toNatClampNeg (vp_nar .boolean (1 : Int32))))) (f := (D9.2.2.1 57)) (i := r4) (x := x2) (D' := (setA (setA D9 58 (upd (D9.2.2.1 58) r4.toNatClampNeg (vp_nar .boolean (1 : Int32)))) 57 (upd (D9.2.2.1 57) r4.toNatClampNeg x2))) 69 (wg_69 E _) (inB_vp b14) (ws_A_57 E _ _) dX9_makeRoom_95 ?_
            refine g_iconst X (v := (1 : Int32)) dX9_makeRoom_96 (by decide) ?_
            exact g_iret X hr rfl dX9_makeRoom_97 (h2 _ (Option.some.inj h).symm)
          · have h := (ite_s h).2 c20
            refine g_aload_n X 2 (i0 := 0) dX9_makeRoom_75 rfl rfl ?_
            refine g_aload_n X 3 (i0 := 1) dX9_makeRoom_76 rfl rfl ?_
            refine g_iload X 0 dX9_makeRoom_77 rfl ?_
            refine g_iload_n X 5 (i0 := 3) dX9_makeRoom_79 rfl rfl ?_
            refine g_iconst X (v := (1 : Int32)) dX9_makeRoom_80 (by decide) ?_
            refine g_iadd X dX9_makeRoom_81 ?_
            obtain ⟨r17, D16, e15, h⟩ := cI_s h
            refine g_S X (As := [.ref (E.1 68), .ref (E.1 1), .int ((D9.2.2.1 57) r4.toNatClampNeg), .int (x3 + (1 : Int32))]) (rest := []) (ih ((D9.2.2.1 57) r4.toNatClampNeg) (x3 + (1 : Int32)) _ _ e15) ks_X9_41 ⟨rfl, rfl⟩ hd_X9_makeRoom (rmm_lt (by omega)) rfl rfl (Nat.le_of_ble_eq_true rfl) dX9_makeRoom_82 ?_
            refine g_if_eq X (tgt := 98) dX9_makeRoom_85 (by decide) (fun c19 => ?_) (fun c19 => ?_)
            · have h := (ite_s h).1 c19
              refine g_iinc X 6 (v := (x4 + (1 : Int32))) (lv' := [(4, .int (x4 + (1 : Int32))), (6, .int ((D9.2.2.1 57) r4.toNatClampNeg)), (5, .int r4), (0, .ref (E.1 68)), (1, .ref (E.1 1)), (2, .int x2), (3, .int x3)]) dX9_makeRoom_98 rfl rfl (by decide) rfl ?_
              refine g_goto X (tgt := 11) dX9_makeRoom_101 (by decide) ?_
              refine g_sub (lv' := [(0, .ref (E.1 68)), (1, .ref (E.1 1)), (2, .int x2), (3, .int x3), (4, .int (x4 + (1 : Int32)))]) [3, 4, 5, 6, 0] rfl ?_
              exact h1 _ (Option.some.inj h).symm
            · have h := (ite_s h).2 c19
              refine g_aload_n X 2 (i0 := 0) dX9_makeRoom_88 rfl rfl ?_
              refine g_get X (D := D16) (v := .ref (E.1 69)) (T := TX9) 68 uX9 (wg_68 E _) rfl 0 (by decide) fl_X9_9 rfl rfl dX9_makeRoom_89 ?_
              refine g_iload X 1 dX9_makeRoom_92 rfl ?_
              refine g_iload_n X 4 (i0 := 2) dX9_makeRoom_94 rfl rfl ?_
              obtain ⟨b18, h⟩ := chk_s h
              refine g_iast X (D := D16) (f := (D16.2.2.1 57)) (i := r4) (x := x2) (D' := (setA D16 57 (upd (D16.2.2.1 57) r4.toNatClampNeg x2))) 69 (wg_69 E _) (inB_vp b18) (ws_A_57 E _ _) dX9_makeRoom_95 ?_
              refine g_iconst X (v := (1 : Int32)) dX9_makeRoom_96 (by decide) ?_
              exact g_iret X hr rfl dX9_makeRoom_97 (h2 _ (Option.some.inj h).symm)
set_option maxRecDepth 100000 in
set_option maxHeartbeats 4000000 in
theorem c_X9_makeRoom (l : Launch) (G : va_G) (E : EE) : ∀ (d : Nat) (a2 : Int32) (a3 : Int32) (D : DD) (r : RT) (h : S_X9_makeRoom d a2 a3 D = some r), MM l G E yX9_makeRoom cX9_makeRoom 7 (some .boolean) (rmm (2 + d)) [.ref (E.1 68), .ref (E.1 1), .int a2, .int a3] D r := by
  intro d
  induction d with
  | zero => intro a2 a3 D r h; cases h
  | succ d ih =>
    intro a2 a3 D r h
    simp only [S_X9_makeRoom] at h
    refine m_of rfl (Nat.le_of_ble_eq_true rfl) ?_
    intro p e s m args below meth c X hr
    exact run_G (T := T_X9_makeRoom (S_X9_makeRoom d)) (HG := hg_X9_makeRoom (d + 1) p l e s m args below meth c G E r) (by
      intro k ls D o hT h1 h2
      unfold T_X9_makeRoom at hT
      split at hT
      · exact bl_X9_makeRoom_0 d ih X hr _ _ D o hT h1 h2
      · exact bl_X9_makeRoom_1 d ih X hr _ _ _ D o hT h1 h2
      · cases hT) FUEL 0 [a2, a3] D h
theorem kn_X9_37 : Cond.methodLinkNest RX9 37 yX12_clear "StoneQuarry" ∈ NEST := nst 439 (by decide +kernel) rfl
theorem ks_X9_25 : GoodIn UT (va_wsS RX9 25 yJ7_fill_53178 (Cond.code yJ7_fill_53178 cJ7_fill_53178 4 none :: UT)) := gu_S (ut 434 (by decide +kernel) (by decide +kernel)) wt_J7_fill_53178 wi_RJ7 wc_J7_fill_53178
def b_X9_countByMoving_0  (D : DD) : Option ((Nat × List Int32 × DD) ⊕ RT) := (cV (S_J7_fill_53178_slabs_partner (-1 : Int32) D) (fun D2 => some (.inl (1, [(0 : Int32), (0 : Int32)], D2))))
def b_X9_countByMoving_1 (x2 : Int32) (x3 : Int32) (D : DD) : Option ((Nat × List Int32 × DD) ⊕ RT) := (if (36 : Int32) ≤ x3 then some (.inr (0, some (.int x2), D)) else (if (((x3 / (6 : Int32)) + (x3 - x3 / (6 : Int32) * (6 : Int32))) - ((x3 / (6 : Int32)) + (x3 - x3 / (6 : Int32) * (6 : Int32))) / (2 : Int32) * (2 : Int32)) = 0 then (cI (S_X8_openAt x3 D) (fun r5 D4 => (if r5 = 0 then some (.inl (1, [x2, (x3 + (1 : Int32))], D4)) else (cV (S_X12_clear_slabs_asked D4) (fun D7 => (cI (S_X9_makeRoom 40 x3 (0 : Int32) D7) (fun r10 D9 => (if r10 = 0 then some (.inl (1, [x2, (x3 + (1 : Int32))], D9)) else some (.inl (1, [(x2 + (1 : Int32)), (x3 + (1 : Int32))], D9)))))))))) else some (.inl (1, [x2, (x3 + (1 : Int32))], D))))
def T_X9_countByMoving (k : Nat) (ls : List Int32) (D : DD) : Option ((Nat × List Int32 × DD) ⊕ RT) := match k, ls with
  | 0, [] => b_X9_countByMoving_0  D
  | 1, [x2, x3] => b_X9_countByMoving_1 x2 x3 D
  | _, _ => none
def S_X9_countByMoving  (D : DD) : Option RT := run T_X9_countByMoving FUEL 0 [] D
def hg_X9_countByMoving (p : Program) (l : Launch) (e : Env) (s : State) (m : MethodId) (args : Array Value) (below : List Frame) (meth : Method) (c : Code) (G : va_G) (E : EE) (r : RT) (k : Nat) (ls : List Int32) (D : DD) : Prop := match k, ls with
  | 0, [] => GW p l e (rmm 43) s m args below meth c G E 4 (MQ below (QR G E s.heap.size r) args s 0 0 (fr E s.heap.size)) 0 0 D 0 [(0, .ref (E.1 68)), (1, .ref (E.1 1))] []
  | 1, [x2, x3] => GW p l e (rmm 43) s m args below meth c G E 4 (MQ below (QR G E s.heap.size r) args s 0 0 (fr E s.heap.size)) 0 0 D 12 [(0, .ref (E.1 68)), (1, .ref (E.1 1)), (2, .int x2), (3, .int x3)] []
  | _, _ => True
set_option maxRecDepth 100000 in
set_option maxHeartbeats 4000000 in
theorem bl_X9_countByMoving_0 {p : Program} {l : Launch} {e : Env} {s : State} {m : MethodId} {args : Array Value} {below : List Frame} {meth : Method} {c : Code} {G : va_G} {E : EE} {r : RT} (X : CX p s m args meth c cX9_countByMoving RX9 4 G E) (hr : meth.sig.returnType = (some .int))  (D : DD) (o : (Nat × List Int32 × DD) ⊕ RT) (h : b_X9_countByMoving_0  D = some o) (h1 : ∀ x, o = .inl x → hg_X9_countByMoving p l e s m args below meth c G E r x.1 x.2.1 x.2.2) (h2 : ∀ x, o = .inr x → x = r) : GW p l e (rmm 43) s m args below meth c G E 4 (MQ below (QR G E s.heap.size r) args s 0 0 (fr E s.heap.size)) 0 0 D 0 [(0, .ref (E.1 68)), (1, .ref (E.1 1))] [] := by
  unfold b_X9_countByMoving_0 at h
  refine g_aload_n X 0 (i0 := 0) dX9_countByMoving_0 rfl rfl ?_
  refine g_get X (D := D) (v := .ref (E.1 69)) (T := TX9) 68 uX9 (wg_68 E _) rfl 0 (by decide) fl_X9_9 rfl rfl dX9_countByMoving_1 ?_
  refine g_iconst X (v := (-1 : Int32)) dX9_countByMoving_4 (by decide) ?_
  obtain ⟨D2, e1, h⟩ := cV_s h
  refine g_S X (As := [.ref (E.1 69), .int (-1 : Int32)]) (rest := []) (c_J7_fill_53178_slabs_partner l G E (-1 : Int32) _ _ e1) ks_X9_25 ⟨rfl, rfl⟩ hd_J7_fill_53178 (⟨Nat.le_of_ble_eq_true rfl, Nat.le_of_ble_eq_true rfl⟩) rfl rfl (Nat.le_of_ble_eq_true rfl) dX9_countByMoving_5 ?_
  refine g_iconst X (v := (0 : Int32)) dX9_countByMoving_8 (by decide) ?_
  refine g_istore_n X (i0 := 2) (lv' := [(2, .int (0 : Int32)), (0, .ref (E.1 68)), (1, .ref (E.1 1))]) dX9_countByMoving_9 rfl (by decide) rfl ?_
  refine g_iconst X (v := (0 : Int32)) dX9_countByMoving_10 (by decide) ?_
  refine g_istore_n X (i0 := 3) (lv' := [(3, .int (0 : Int32)), (2, .int (0 : Int32)), (0, .ref (E.1 68)), (1, .ref (E.1 1))]) dX9_countByMoving_11 rfl (by decide) rfl ?_
  refine g_sub (lv' := [(0, .ref (E.1 68)), (1, .ref (E.1 1)), (2, .int (0 : Int32)), (3, .int (0 : Int32))]) [2, 3, 1, 0] rfl ?_
  exact h1 _ (Option.some.inj h).symm
set_option maxRecDepth 100000 in
set_option maxHeartbeats 4000000 in
theorem bl_X9_countByMoving_1 {p : Program} {l : Launch} {e : Env} {s : State} {m : MethodId} {args : Array Value} {below : List Frame} {meth : Method} {c : Code} {G : va_G} {E : EE} {r : RT} (X : CX p s m args meth c cX9_countByMoving RX9 4 G E) (hr : meth.sig.returnType = (some .int)) (x2 : Int32) (x3 : Int32) (D : DD) (o : (Nat × List Int32 × DD) ⊕ RT) (h : b_X9_countByMoving_1 x2 x3 D = some o) (h1 : ∀ x, o = .inl x → hg_X9_countByMoving p l e s m args below meth c G E r x.1 x.2.1 x.2.2) (h2 : ∀ x, o = .inr x → x = r) : GW p l e (rmm 43) s m args below meth c G E 4 (MQ below (QR G E s.heap.size r) args s 0 0 (fr E s.heap.size)) 0 0 D 12 [(0, .ref (E.1 68)), (1, .ref (E.1 1)), (2, .int x2), (3, .int x3)] [] := by
  unfold b_X9_countByMoving_1 at h
  refine g_iload_n X 3 (i0 := 3) dX9_countByMoving_12 rfl rfl ?_
  refine g_bipush X (v := (36 : Int32)) dX9_countByMoving_13 (by decide) ?_
  refine g_icmp_ge X (tgt := 66) dX9_countByMoving_15 (by decide) (fun c14 => ?_) (fun c14 => ?_)
  · have h := (ite_s h).1 c14
    refine g_iload_n X 2 (i0 := 2) dX9_countByMoving_66 rfl rfl ?_
    exact g_iret X hr rfl dX9_countByMoving_67 (h2 _ (Option.some.inj h).symm)
  · have h := (ite_s h).2 c14
    refine g_iload_n X 3 (i0 := 3) dX9_countByMoving_18 rfl rfl ?_
    refine g_bipush X (v := (6 : Int32)) dX9_countByMoving_19 (by decide) ?_
    refine g_idiv X (by decide) dX9_countByMoving_21 ?_
    refine g_iload_n X 3 (i0 := 3) dX9_countByMoving_22 rfl rfl ?_
    refine g_bipush X (v := (6 : Int32)) dX9_countByMoving_23 (by decide) ?_
    refine g_irem X (by decide) dX9_countByMoving_25 ?_
    refine g_iadd X dX9_countByMoving_26 ?_
    refine g_iconst X (v := (2 : Int32)) dX9_countByMoving_27 (by decide) ?_
    refine g_irem X (by decide) dX9_countByMoving_28 ?_
    refine g_if_ne X (tgt := 60) dX9_countByMoving_29 (by decide) (fun c13 => ?_) (fun c13 => ?_)
    · have h := (ite_s h).2 c13
      refine g_iinc X 3 (v := (x3 + (1 : Int32))) (lv' := [(3, .int (x3 + (1 : Int32))), (0, .ref (E.1 68)), (1, .ref (E.1 1)), (2, .int x2)]) dX9_countByMoving_60 rfl rfl (by decide) rfl ?_
      refine g_goto X (tgt := 12) dX9_countByMoving_63 (by decide) ?_
      refine g_sub (lv' := [(0, .ref (E.1 68)), (1, .ref (E.1 1)), (2, .int x2), (3, .int (x3 + (1 : Int32)))]) [1, 2, 3, 0] rfl ?_
      exact h1 _ (Option.some.inj h).symm
    · have h := (ite_s h).1 c13
      refine g_aload_n X 1 (i0 := 1) dX9_countByMoving_32 rfl rfl ?_
      refine g_iload_n X 3 (i0 := 3) dX9_countByMoving_33 rfl rfl ?_
      obtain ⟨r5, D4, e3, h⟩ := cI_s h
      refine g_V X (As := [.int x3]) (rest := []) (c_X8_openAt l G E x3 _ _ e3) 1 (wg_1 E _) rfl rfl kv_X9_31 ⟨rfl, rfl⟩ ⟨rfl, hd_X8_openAt⟩ (⟨Nat.le_of_ble_eq_true rfl, Nat.le_of_ble_eq_true rfl⟩) rfl rfl (Nat.le_of_ble_eq_true rfl) dX9_countByMoving_34 ?_
      refine g_if_eq X (tgt := 60) dX9_countByMoving_37 (by decide) (fun c12 => ?_) (fun c12 => ?_)
      · have h := (ite_s h).1 c12
        refine g_iinc X 3 (v := (x3 + (1 : Int32))) (lv' := [(3, .int (x3 + (1 : Int32))), (0, .ref (E.1 68)), (1, .ref (E.1 1)), (2, .int x2)]) dX9_countByMoving_60 rfl rfl (by decide) rfl ?_
        refine g_goto X (tgt := 12) dX9_countByMoving_63 (by decide) ?_
        refine g_sub (lv' := [(0, .ref (E.1 68)), (1, .ref (E.1 1)), (2, .int x2), (3, .int (x3 + (1 : Int32)))]) [1, 2, 3, 0] rfl ?_
        exact h1 _ (Option.some.inj h).symm
      · have h := (ite_s h).2 c12
        refine g_aload_n X 0 (i0 := 0) dX9_countByMoving_40 rfl rfl ?_
        refine g_get X (D := D4) (v := .ref (E.1 70)) (T := TX9) 68 uX9 (wg_68 E _) rfl 1 (by decide) fl_X9_15 rfl rfl dX9_countByMoving_41 ?_
        obtain ⟨D7, e6, h⟩ := cV_s h
        refine g_SN X (As := [.ref (E.1 70)]) (rest := []) (c_X12_clear_slabs_asked l G E  _ _ e6) wc_X12_clear kn_X9_37 wi_RX12 wt_X12_clear ⟨rfl, rfl⟩ hd_X12_clear (⟨Nat.le_of_ble_eq_true rfl, Nat.le_of_ble_eq_true rfl⟩) rfl rfl (Nat.le_of_ble_eq_true rfl) dX9_countByMoving_44 ?_
        refine g_aload_n X 0 (i0 := 0) dX9_countByMoving_47 rfl rfl ?_
        refine g_aload_n X 1 (i0 := 1) dX9_countByMoving_48 rfl rfl ?_
        refine g_iload_n X 3 (i0 := 3) dX9_countByMoving_49 rfl rfl ?_
        refine g_iconst X (v := (0 : Int32)) dX9_countByMoving_50 (by decide) ?_
        obtain ⟨r10, D9, e8, h⟩ := cI_s h
        refine g_S X (As := [.ref (E.1 68), .ref (E.1 1), .int x3, .int (0 : Int32)]) (rest := []) (c_X9_makeRoom l G E 40 x3 (0 : Int32) _ _ e8) ks_X9_41 ⟨rfl, rfl⟩ hd_X9_makeRoom (⟨Nat.le_of_ble_eq_true rfl, Nat.le_of_ble_eq_true rfl⟩) rfl rfl (Nat.le_of_ble_eq_true rfl) dX9_countByMoving_51 ?_
        refine g_if_eq X (tgt := 60) dX9_countByMoving_54 (by decide) (fun c11 => ?_) (fun c11 => ?_)
        · have h := (ite_s h).1 c11
          refine g_iinc X 3 (v := (x3 + (1 : Int32))) (lv' := [(3, .int (x3 + (1 : Int32))), (0, .ref (E.1 68)), (1, .ref (E.1 1)), (2, .int x2)]) dX9_countByMoving_60 rfl rfl (by decide) rfl ?_
          refine g_goto X (tgt := 12) dX9_countByMoving_63 (by decide) ?_
          refine g_sub (lv' := [(0, .ref (E.1 68)), (1, .ref (E.1 1)), (2, .int x2), (3, .int (x3 + (1 : Int32)))]) [1, 2, 3, 0] rfl ?_
          exact h1 _ (Option.some.inj h).symm
        · have h := (ite_s h).2 c11
          refine g_iinc X 2 (v := (x2 + (1 : Int32))) (lv' := [(2, .int (x2 + (1 : Int32))), (0, .ref (E.1 68)), (1, .ref (E.1 1)), (3, .int x3)]) dX9_countByMoving_57 rfl rfl (by decide) rfl ?_
          refine g_iinc X 3 (v := (x3 + (1 : Int32))) (lv' := [(3, .int (x3 + (1 : Int32))), (2, .int (x2 + (1 : Int32))), (0, .ref (E.1 68)), (1, .ref (E.1 1))]) dX9_countByMoving_60 rfl rfl (by decide) rfl ?_
          refine g_goto X (tgt := 12) dX9_countByMoving_63 (by decide) ?_
          refine g_sub (lv' := [(0, .ref (E.1 68)), (1, .ref (E.1 1)), (2, .int (x2 + (1 : Int32))), (3, .int (x3 + (1 : Int32)))]) [2, 3, 1, 0] rfl ?_
          exact h1 _ (Option.some.inj h).symm
set_option maxRecDepth 100000 in
set_option maxHeartbeats 4000000 in
theorem c_X9_countByMoving (l : Launch) (G : va_G) (E : EE)  (D : DD) (r : RT) (h : S_X9_countByMoving  D = some r) : MM l G E yX9_countByMoving cX9_countByMoving 4 (some .int) (rmm 43) [.ref (E.1 68), .ref (E.1 1)] D r := by
  unfold S_X9_countByMoving at h
  refine m_of rfl (Nat.le_of_ble_eq_true rfl) ?_
  intro p e s m args below meth c X hr
  exact run_G (T := T_X9_countByMoving) (HG := hg_X9_countByMoving p l e s m args below meth c G E r) (by
    intro k ls D o hT h1 h2
    unfold T_X9_countByMoving at hT
    split at hT
    · exact bl_X9_countByMoving_0 X hr  D o hT h1 h2
    · exact bl_X9_countByMoving_1 X hr _ _ D o hT h1 h2
    · cases hT) FUEL 0 [] D h
theorem wg_71 (E : EE) (D : DD) : (wd E D)[71]? = some (E.1 71, .inl (E.2 0, 64, .inl (D.2.2.1 59))) := rfl
theorem ws_A_59 (E : EE) (D : DD) (f : Nat → Int32) : (wd E D).set 71 (E.1 71, .inl (E.2 0, 64, .inl f)) = wd E (setA D 59 f) := rfl
def b_J7_fill_53178_slabs_most_0 (a1 : Int32) (D : DD) : Option ((Nat × List Int32 × DD) ⊕ RT) := some (.inl (1, [a1, (0 : Int32), (64 : Int32)], D))
def b_J7_fill_53178_slabs_most_1 (x1 : Int32) (x2 : Int32) (x3 : Int32) (D : DD) : Option ((Nat × List Int32 × DD) ⊕ RT) := (if x3 ≤ x2 then some (.inr (0, none, D)) else (if inB x2 64 = true then some (.inl (1, [x1, (x2 + (1 : Int32)), x3], (setA D 59 (upd (D.2.2.1 59) x2.toNatClampNeg x1)))) else none))
def T_J7_fill_53178_slabs_most (k : Nat) (ls : List Int32) (D : DD) : Option ((Nat × List Int32 × DD) ⊕ RT) := match k, ls with
  | 0, [a1] => b_J7_fill_53178_slabs_most_0 a1 D
  | 1, [x1, x2, x3] => b_J7_fill_53178_slabs_most_1 x1 x2 x3 D
  | _, _ => none
def S_J7_fill_53178_slabs_most (a1 : Int32) (D : DD) : Option RT := run T_J7_fill_53178_slabs_most FUEL 0 [a1] D
def hg_J7_fill_53178_slabs_most (p : Program) (l : Launch) (e : Env) (s : State) (m : MethodId) (args : Array Value) (below : List Frame) (meth : Method) (c : Code) (G : va_G) (E : EE) (r : RT) (k : Nat) (ls : List Int32) (D : DD) : Prop := match k, ls with
  | 0, [a1] => GW p l e (rmm 0) s m args below meth c G E 4 (MQ below (QR G E s.heap.size r) args s 0 0 (fr E s.heap.size)) 0 0 D 0 [(0, .ref (E.1 71)), (1, .int a1)] []
  | 1, [x1, x2, x3] => GW p l e (rmm 0) s m args below meth c G E 4 (MQ below (QR G E s.heap.size r) args s 0 0 (fr E s.heap.size)) 0 0 D 5 [(0, .ref (E.1 71)), (1, .int x1), (2, .int x2), (3, .int x3)] []
  | _, _ => True
set_option maxRecDepth 100000 in
set_option maxHeartbeats 4000000 in
theorem bl_J7_fill_53178_slabs_most_0 {p : Program} {l : Launch} {e : Env} {s : State} {m : MethodId} {args : Array Value} {below : List Frame} {meth : Method} {c : Code} {G : va_G} {E : EE} {r : RT} (X : CX p s m args meth c cJ7_fill_53178 RJ7 4 G E) (hr : meth.sig.returnType = none) (a1 : Int32) (D : DD) (o : (Nat × List Int32 × DD) ⊕ RT) (h : b_J7_fill_53178_slabs_most_0 a1 D = some o) (h1 : ∀ x, o = .inl x → hg_J7_fill_53178_slabs_most p l e s m args below meth c G E r x.1 x.2.1 x.2.2) (h2 : ∀ x, o = .inr x → x = r) : GW p l e (rmm 0) s m args below meth c G E 4 (MQ below (QR G E s.heap.size r) args s 0 0 (fr E s.heap.size)) 0 0 D 0 [(0, .ref (E.1 71)), (1, .int a1)] [] := by
  unfold b_J7_fill_53178_slabs_most_0 at h
  refine g_iconst X (v := (0 : Int32)) dJ7_fill_53178_0 (by decide) ?_
  refine g_istore_n X (i0 := 2) (lv' := [(2, .int (0 : Int32)), (0, .ref (E.1 71)), (1, .int a1)]) dJ7_fill_53178_1 rfl (by decide) rfl ?_
  refine g_aload_n X 1 (i0 := 0) dJ7_fill_53178_2 rfl rfl ?_
  refine g_alen X (D := D) (v := (64 : Int32)) (t0 := 0) 71 (wg_71 E _) rfl rfl dJ7_fill_53178_3 ?_
  refine g_istore_n X (i0 := 3) (lv' := [(3, .int (64 : Int32)), (2, .int (0 : Int32)), (0, .ref (E.1 71)), (1, .int a1)]) dJ7_fill_53178_4 rfl (by decide) rfl ?_
  refine g_sub (lv' := [(0, .ref (E.1 71)), (1, .int a1), (2, .int (0 : Int32)), (3, .int (64 : Int32))]) [2, 3, 1, 0] rfl ?_
  exact h1 _ (Option.some.inj h).symm
set_option maxRecDepth 100000 in
set_option maxHeartbeats 4000000 in
theorem bl_J7_fill_53178_slabs_most_1 {p : Program} {l : Launch} {e : Env} {s : State} {m : MethodId} {args : Array Value} {below : List Frame} {meth : Method} {c : Code} {G : va_G} {E : EE} {r : RT} (X : CX p s m args meth c cJ7_fill_53178 RJ7 4 G E) (hr : meth.sig.returnType = none) (x1 : Int32) (x2 : Int32) (x3 : Int32) (D : DD) (o : (Nat × List Int32 × DD) ⊕ RT) (h : b_J7_fill_53178_slabs_most_1 x1 x2 x3 D = some o) (h1 : ∀ x, o = .inl x → hg_J7_fill_53178_slabs_most p l e s m args below meth c G E r x.1 x.2.1 x.2.2) (h2 : ∀ x, o = .inr x → x = r) : GW p l e (rmm 0) s m args below meth c G E 4 (MQ below (QR G E s.heap.size r) args s 0 0 (fr E s.heap.size)) 0 0 D 5 [(0, .ref (E.1 71)), (1, .int x1), (2, .int x2), (3, .int x3)] [] := by
  unfold b_J7_fill_53178_slabs_most_1 at h
  refine g_iload_n X 2 (i0 := 2) dJ7_fill_53178_5 rfl rfl ?_
  refine g_iload_n X 3 (i0 := 3) dJ7_fill_53178_6 rfl rfl ?_
  refine g_icmp_ge X (tgt := 20) dJ7_fill_53178_7 (by decide) (fun c2 => ?_) (fun c2 => ?_)
  · have h := (ite_s h).1 c2
    exact g_vret X hr dJ7_fill_53178_20 (h2 _ (Option.some.inj h).symm)
  · have h := (ite_s h).2 c2
    refine g_aload_n X 0 (i0 := 0) dJ7_fill_53178_10 rfl rfl ?_
    refine g_iload_n X 2 (i0 := 2) dJ7_fill_53178_11 rfl rfl ?_
    refine g_iload_n X 1 (i0 := 1) dJ7_fill_53178_12 rfl rfl ?_
    obtain ⟨b1, h⟩ := chk_s h
    refine g_iast X (D := D) (f := (D.2.2.1 59)) (i := x2) (x := x1) (D' := (setA D 59 (upd (D.2.2.1 59) x2.toNatClampNeg x1))) 71 (wg_71 E _) (inB_vp b1) (ws_A_59 E _ _) dJ7_fill_53178_13 ?_
    refine g_iinc X 2 (v := (x2 + (1 : Int32))) (lv' := [(2, .int (x2 + (1 : Int32))), (0, .ref (E.1 71)), (1, .int x1), (3, .int x3)]) dJ7_fill_53178_14 rfl rfl (by decide) rfl ?_
    refine g_goto X (tgt := 5) dJ7_fill_53178_17 (by decide) ?_
    refine g_sub (lv' := [(0, .ref (E.1 71)), (1, .int x1), (2, .int (x2 + (1 : Int32))), (3, .int x3)]) [1, 2, 0, 3] rfl ?_
    exact h1 _ (Option.some.inj h).symm
set_option maxRecDepth 100000 in
set_option maxHeartbeats 4000000 in
theorem c_J7_fill_53178_slabs_most (l : Launch) (G : va_G) (E : EE) (a1 : Int32) (D : DD) (r : RT) (h : S_J7_fill_53178_slabs_most a1 D = some r) : MM l G E yJ7_fill_53178 cJ7_fill_53178 4 none (rmm 0) [.ref (E.1 71), .int a1] D r := by
  unfold S_J7_fill_53178_slabs_most at h
  refine m_of rfl (Nat.le_of_ble_eq_true rfl) ?_
  intro p e s m args below meth c X hr
  exact run_G (T := T_J7_fill_53178_slabs_most) (HG := hg_J7_fill_53178_slabs_most p l e s m args below meth c G E r) (by
    intro k ls D o hT h1 h2
    unfold T_J7_fill_53178_slabs_most at hT
    split at hT
    · exact bl_J7_fill_53178_slabs_most_0 X hr _ D o hT h1 h2
    · exact bl_J7_fill_53178_slabs_most_1 X hr _ _ _ D o hT h1 h2
    · cases hT) FUEL 0 [a1] D h
theorem wg_72 (E : EE) (D : DD) : (wd E D)[72]? = some (E.1 72, .inl (E.2 0, 64, .inl (D.2.2.1 60))) := rfl
theorem ws_A_60 (E : EE) (D : DD) (f : Nat → Int32) : (wd E D).set 72 (E.1 72, .inl (E.2 0, 64, .inl f)) = wd E (setA D 60 f) := rfl
def b_J7_fill_53178_slabs_mostNext_0 (a1 : Int32) (D : DD) : Option ((Nat × List Int32 × DD) ⊕ RT) := some (.inl (1, [a1, (0 : Int32), (64 : Int32)], D))
def b_J7_fill_53178_slabs_mostNext_1 (x1 : Int32) (x2 : Int32) (x3 : Int32) (D : DD) : Option ((Nat × List Int32 × DD) ⊕ RT) := (if x3 ≤ x2 then some (.inr (0, none, D)) else (if inB x2 64 = true then some (.inl (1, [x1, (x2 + (1 : Int32)), x3], (setA D 60 (upd (D.2.2.1 60) x2.toNatClampNeg x1)))) else none))
def T_J7_fill_53178_slabs_mostNext (k : Nat) (ls : List Int32) (D : DD) : Option ((Nat × List Int32 × DD) ⊕ RT) := match k, ls with
  | 0, [a1] => b_J7_fill_53178_slabs_mostNext_0 a1 D
  | 1, [x1, x2, x3] => b_J7_fill_53178_slabs_mostNext_1 x1 x2 x3 D
  | _, _ => none
def S_J7_fill_53178_slabs_mostNext (a1 : Int32) (D : DD) : Option RT := run T_J7_fill_53178_slabs_mostNext FUEL 0 [a1] D
def hg_J7_fill_53178_slabs_mostNext (p : Program) (l : Launch) (e : Env) (s : State) (m : MethodId) (args : Array Value) (below : List Frame) (meth : Method) (c : Code) (G : va_G) (E : EE) (r : RT) (k : Nat) (ls : List Int32) (D : DD) : Prop := match k, ls with
  | 0, [a1] => GW p l e (rmm 0) s m args below meth c G E 4 (MQ below (QR G E s.heap.size r) args s 0 0 (fr E s.heap.size)) 0 0 D 0 [(0, .ref (E.1 72)), (1, .int a1)] []
  | 1, [x1, x2, x3] => GW p l e (rmm 0) s m args below meth c G E 4 (MQ below (QR G E s.heap.size r) args s 0 0 (fr E s.heap.size)) 0 0 D 5 [(0, .ref (E.1 72)), (1, .int x1), (2, .int x2), (3, .int x3)] []
  | _, _ => True
set_option maxRecDepth 100000 in
set_option maxHeartbeats 4000000 in
theorem bl_J7_fill_53178_slabs_mostNext_0 {p : Program} {l : Launch} {e : Env} {s : State} {m : MethodId} {args : Array Value} {below : List Frame} {meth : Method} {c : Code} {G : va_G} {E : EE} {r : RT} (X : CX p s m args meth c cJ7_fill_53178 RJ7 4 G E) (hr : meth.sig.returnType = none) (a1 : Int32) (D : DD) (o : (Nat × List Int32 × DD) ⊕ RT) (h : b_J7_fill_53178_slabs_mostNext_0 a1 D = some o) (h1 : ∀ x, o = .inl x → hg_J7_fill_53178_slabs_mostNext p l e s m args below meth c G E r x.1 x.2.1 x.2.2) (h2 : ∀ x, o = .inr x → x = r) : GW p l e (rmm 0) s m args below meth c G E 4 (MQ below (QR G E s.heap.size r) args s 0 0 (fr E s.heap.size)) 0 0 D 0 [(0, .ref (E.1 72)), (1, .int a1)] [] := by
  unfold b_J7_fill_53178_slabs_mostNext_0 at h
  refine g_iconst X (v := (0 : Int32)) dJ7_fill_53178_0 (by decide) ?_
  refine g_istore_n X (i0 := 2) (lv' := [(2, .int (0 : Int32)), (0, .ref (E.1 72)), (1, .int a1)]) dJ7_fill_53178_1 rfl (by decide) rfl ?_
  refine g_aload_n X 1 (i0 := 0) dJ7_fill_53178_2 rfl rfl ?_
  refine g_alen X (D := D) (v := (64 : Int32)) (t0 := 0) 72 (wg_72 E _) rfl rfl dJ7_fill_53178_3 ?_
  refine g_istore_n X (i0 := 3) (lv' := [(3, .int (64 : Int32)), (2, .int (0 : Int32)), (0, .ref (E.1 72)), (1, .int a1)]) dJ7_fill_53178_4 rfl (by decide) rfl ?_
  refine g_sub (lv' := [(0, .ref (E.1 72)), (1, .int a1), (2, .int (0 : Int32)), (3, .int (64 : Int32))]) [2, 3, 1, 0] rfl ?_
  exact h1 _ (Option.some.inj h).symm
set_option maxRecDepth 100000 in
set_option maxHeartbeats 4000000 in
theorem bl_J7_fill_53178_slabs_mostNext_1 {p : Program} {l : Launch} {e : Env} {s : State} {m : MethodId} {args : Array Value} {below : List Frame} {meth : Method} {c : Code} {G : va_G} {E : EE} {r : RT} (X : CX p s m args meth c cJ7_fill_53178 RJ7 4 G E) (hr : meth.sig.returnType = none) (x1 : Int32) (x2 : Int32) (x3 : Int32) (D : DD) (o : (Nat × List Int32 × DD) ⊕ RT) (h : b_J7_fill_53178_slabs_mostNext_1 x1 x2 x3 D = some o) (h1 : ∀ x, o = .inl x → hg_J7_fill_53178_slabs_mostNext p l e s m args below meth c G E r x.1 x.2.1 x.2.2) (h2 : ∀ x, o = .inr x → x = r) : GW p l e (rmm 0) s m args below meth c G E 4 (MQ below (QR G E s.heap.size r) args s 0 0 (fr E s.heap.size)) 0 0 D 5 [(0, .ref (E.1 72)), (1, .int x1), (2, .int x2), (3, .int x3)] [] := by
  unfold b_J7_fill_53178_slabs_mostNext_1 at h
  refine g_iload_n X 2 (i0 := 2) dJ7_fill_53178_5 rfl rfl ?_
  refine g_iload_n X 3 (i0 := 3) dJ7_fill_53178_6 rfl rfl ?_
  refine g_icmp_ge X (tgt := 20) dJ7_fill_53178_7 (by decide) (fun c2 => ?_) (fun c2 => ?_)
  · have h := (ite_s h).1 c2
    exact g_vret X hr dJ7_fill_53178_20 (h2 _ (Option.some.inj h).symm)
  · have h := (ite_s h).2 c2
    refine g_aload_n X 0 (i0 := 0) dJ7_fill_53178_10 rfl rfl ?_
    refine g_iload_n X 2 (i0 := 2) dJ7_fill_53178_11 rfl rfl ?_
    refine g_iload_n X 1 (i0 := 1) dJ7_fill_53178_12 rfl rfl ?_
    obtain ⟨b1, h⟩ := chk_s h
    refine g_iast X (D := D) (f := (D.2.2.1 60)) (i := x2) (x := x1) (D' := (setA D 60 (upd (D.2.2.1 60) x2.toNatClampNeg x1))) 72 (wg_72 E _) (inB_vp b1) (ws_A_60 E _ _) dJ7_fill_53178_13 ?_
    refine g_iinc X 2 (v := (x2 + (1 : Int32))) (lv' := [(2, .int (x2 + (1 : Int32))), (0, .ref (E.1 72)), (1, .int x1), (3, .int x3)]) dJ7_fill_53178_14 rfl rfl (by decide) rfl ?_
    refine g_goto X (tgt := 5) dJ7_fill_53178_17 (by decide) ?_
    refine g_sub (lv' := [(0, .ref (E.1 72)), (1, .int x1), (2, .int (x2 + (1 : Int32))), (3, .int x3)]) [1, 2, 0, 3] rfl ?_
    exact h1 _ (Option.some.inj h).symm
set_option maxRecDepth 100000 in
set_option maxHeartbeats 4000000 in
theorem c_J7_fill_53178_slabs_mostNext (l : Launch) (G : va_G) (E : EE) (a1 : Int32) (D : DD) (r : RT) (h : S_J7_fill_53178_slabs_mostNext a1 D = some r) : MM l G E yJ7_fill_53178 cJ7_fill_53178 4 none (rmm 0) [.ref (E.1 72), .int a1] D r := by
  unfold S_J7_fill_53178_slabs_mostNext at h
  refine m_of rfl (Nat.le_of_ble_eq_true rfl) ?_
  intro p e s m args below meth c X hr
  exact run_G (T := T_J7_fill_53178_slabs_mostNext) (HG := hg_J7_fill_53178_slabs_mostNext p l e s m args below meth c G E r) (by
    intro k ls D o hT h1 h2
    unfold T_J7_fill_53178_slabs_mostNext at hT
    split at hT
    · exact bl_J7_fill_53178_slabs_mostNext_0 X hr _ D o hT h1 h2
    · exact bl_J7_fill_53178_slabs_mostNext_1 X hr _ _ _ D o hT h1 h2
    · cases hT) FUEL 0 [a1] D h
theorem fl_X9_22 : Cond.fieldLink RX9 22 "StoneQuarry$Slabs" "mostNext" "[I" ∈ UT := ut 240 (by decide +kernel) (by decide +kernel)
def S_X9_reach (a0 : Int32) (a1 : Int32) (D : DD) : Option RT := (if a0 < 0 then some (0, none, D) else (if (64 : Int32) ≤ a0 then some (0, none, D) else (if inB a0 64 = true then (if a1 ≤ ((D.2.2.1 60) a0.toNatClampNeg) then some (0, none, D) else (if inB a0 64 = true then some (0, none, (setA D 60 (upd (D.2.2.1 60) a0.toNatClampNeg a1))) else none)) else none)))
set_option maxRecDepth 100000 in
set_option maxHeartbeats 4000000 in
theorem c_X9_reach (l : Launch) (G : va_G) (E : EE) (a0 : Int32) (a1 : Int32) (D : DD) (r : RT) (h : S_X9_reach a0 a1 D = some r) : MM l G E yX9_reach cX9_reach 3 none (rmm 0) [.ref (E.1 68), .int a0, .int a1] D r := by
  refine m_of rfl (Nat.le_of_ble_eq_true rfl) ?_
  intro p e s m args below meth c X hr
  unfold S_X9_reach at h
  refine g_iload_n X 1 (i0 := 1) dX9_reach_0 rfl rfl ?_
  refine g_if_lt X (tgt := 27) dX9_reach_1 (by decide) (fun c5 => ?_) (fun c5 => ?_)
  · have h := (ite_s h).1 c5
    exact g_vret X hr dX9_reach_27 (Option.some.inj h)
  · have h := (ite_s h).2 c5
    refine g_iload_n X 1 (i0 := 1) dX9_reach_4 rfl rfl ?_
    refine g_bipush X (v := (64 : Int32)) dX9_reach_5 (by decide) ?_
    refine g_icmp_ge X (tgt := 27) dX9_reach_7 (by decide) (fun c4 => ?_) (fun c4 => ?_)
    · have h := (ite_s h).1 c4
      exact g_vret X hr dX9_reach_27 (Option.some.inj h)
    · have h := (ite_s h).2 c4
      refine g_iload_n X 2 (i0 := 2) dX9_reach_10 rfl rfl ?_
      refine g_aload_n X 0 (i0 := 0) dX9_reach_11 rfl rfl ?_
      refine g_get X (D := D) (v := .ref (E.1 72)) (T := TX9) 68 uX9 (wg_68 E _) rfl 3 (by decide) fl_X9_22 rfl rfl dX9_reach_12 ?_
      refine g_iload_n X 1 (i0 := 1) dX9_reach_15 rfl rfl ?_
      obtain ⟨b1, h⟩ := chk_s h
      refine g_iald X (D := D) (f := (D.2.2.1 60)) (i := a0) 72 (wg_72 E _) (inB_vp b1) dX9_reach_16 ?_
      refine g_icmp_le X (tgt := 27) dX9_reach_17 (by decide) (fun c3 => ?_) (fun c3 => ?_)
      · have h := (ite_s h).1 c3
        exact g_vret X hr dX9_reach_27 (Option.some.inj h)
      · have h := (ite_s h).2 c3
        refine g_aload_n X 0 (i0 := 0) dX9_reach_20 rfl rfl ?_
        refine g_get X (D := D) (v := .ref (E.1 72)) (T := TX9) 68 uX9 (wg_68 E _) rfl 3 (by decide) fl_X9_22 rfl rfl dX9_reach_21 ?_
        refine g_iload_n X 1 (i0 := 1) dX9_reach_24 rfl rfl ?_
        refine g_iload_n X 2 (i0 := 2) dX9_reach_25 rfl rfl ?_
        obtain ⟨b2, h⟩ := chk_s h
        refine g_iast X (D := D) (f := (D.2.2.1 60)) (i := a0) (x := a1) (D' := (setA D 60 (upd (D.2.2.1 60) a0.toNatClampNeg a1))) 72 (wg_72 E _) (inB_vp b2) (ws_A_60 E _ _) dX9_reach_26 ?_
        exact g_vret X hr dX9_reach_27 (Option.some.inj h)
theorem fl_X9_19 : Cond.fieldLink RX9 19 "StoneQuarry$Slabs" "most" "[I" ∈ UT := ut 239 (by decide +kernel) (by decide +kernel)
theorem hd_X9_reach : yX9_reach.cls ≠ "java/lang/invoke/MethodHandle" ∧ yX9_reach.cls ≠ "java/lang/invoke/VarHandle" ∧ (parseMethodDescriptor yX9_reach.desc).map (fun d => d.parameters.length) = some 2 := by decide +kernel
theorem wc_X9_reach : Cond.code yX9_reach cX9_reach 3 none ∈ UT := ut 460 (by decide +kernel) (by decide +kernel)
theorem we_X9_reach : Cond.selects RX9 yX9_reach yX9_reach ∈ UT := ut 5 (by decide +kernel) (by decide +kernel)
theorem wm_X9_reach : Cond.instanceMethod yX9_reach ∈ UT := ut 459 (by decide +kernel) (by decide +kernel)
theorem kv_X9_62 : GoodIn UT (wsV RX9 62 RX9 yX9_reach (Cond.code yX9_reach cX9_reach 3 none :: UT)) := gu_V (ut 457 (by decide +kernel) (by decide +kernel)) wm_X9_reach we_X9_reach wi_RX9 wc_X9_reach
def b_X9_passCell_0 (a1 : Int32) (a2 : Int32) (D : DD) : Option ((Nat × List Int32 × DD) ⊕ RT) := (if a2 < 0 then some (.inl (1, [a1, a2], D)) else (if (64 : Int32) ≤ a2 then some (.inl (1, [a1, a2], D)) else (if inB a2 64 = true then (cV (S_X9_reach (a2 >>> ((1 : Int32) &&& 31)) ((D.2.2.1 59) a2.toNatClampNeg) D) (fun D3 => (if (a2 &&& (1 : Int32)) = 0 then (cI (S_X8_openAt a1 D3) (fun r6 D5 => (if r6 = 0 then some (.inr (0, none, D5)) else (if (5 : Int32) ≤ (a1 - a1 / (6 : Int32) * (6 : Int32)) then some (.inl (2, [a1, ((D.2.2.1 59) a2.toNatClampNeg), (a2 >>> ((1 : Int32) &&& 31))], D5)) else (cI (S_X8_openAt (a1 + (1 : Int32)) D5) (fun r9 D8 => (if r9 = 0 then some (.inl (2, [a1, ((D.2.2.1 59) a2.toNatClampNeg), (a2 >>> ((1 : Int32) &&& 31))], D8)) else (if ((a2 >>> ((1 : Int32) &&& 31)) &&& (1 : Int32)) = 0 then (cV (S_X9_reach ((a2 >>> ((1 : Int32) &&& 31)) ||| (1 : Int32)) (((D.2.2.1 59) a2.toNatClampNeg) + (1 : Int32)) D8) (fun D11 => some (.inl (2, [a1, ((D.2.2.1 59) a2.toNatClampNeg), (a2 >>> ((1 : Int32) &&& 31))], D11)))) else some (.inl (2, [a1, ((D.2.2.1 59) a2.toNatClampNeg), (a2 >>> ((1 : Int32) &&& 31))], D8)))))))))) else some (.inr (0, none, D3))))) else none)))
def b_X9_passCell_1 (x2 : Int32) (x3 : Int32) (D : DD) : Option ((Nat × List Int32 × DD) ⊕ RT) := (cV (S_X9_reach (x3 >>> ((1 : Int32) &&& 31)) (-1 : Int32) D) (fun D20 => (if (x3 &&& (1 : Int32)) = 0 then (cI (S_X8_openAt x2 D20) (fun r23 D22 => (if r23 = 0 then some (.inr (0, none, D22)) else (if (5 : Int32) ≤ (x2 - x2 / (6 : Int32) * (6 : Int32)) then some (.inl (2, [x2, (-1 : Int32), (x3 >>> ((1 : Int32) &&& 31))], D22)) else (cI (S_X8_openAt (x2 + (1 : Int32)) D22) (fun r26 D25 => (if r26 = 0 then some (.inl (2, [x2, (-1 : Int32), (x3 >>> ((1 : Int32) &&& 31))], D25)) else (if ((x3 >>> ((1 : Int32) &&& 31)) &&& (1 : Int32)) = 0 then (cV (S_X9_reach ((x3 >>> ((1 : Int32) &&& 31)) ||| (1 : Int32)) ((-1 : Int32) + (1 : Int32)) D25) (fun D28 => some (.inl (2, [x2, (-1 : Int32), (x3 >>> ((1 : Int32) &&& 31))], D28)))) else some (.inl (2, [x2, (-1 : Int32), (x3 >>> ((1 : Int32) &&& 31))], D25)))))))))) else some (.inr (0, none, D20)))))
def b_X9_passCell_2 (x2 : Int32) (x4 : Int32) (x5 : Int32) (D : DD) : Option ((Nat × List Int32 × DD) ⊕ RT) := (cI (S_X8_openAt (x2 + (6 : Int32)) D) (fun r36 D35 => (if r36 = 0 then some (.inr (0, none, D35)) else (cV (S_X9_reach (x5 ||| (32 : Int32)) (x4 + (1 : Int32)) D35) (fun D38 => some (.inr (0, none, D38)))))))
def T_X9_passCell (k : Nat) (ls : List Int32) (D : DD) : Option ((Nat × List Int32 × DD) ⊕ RT) := match k, ls with
  | 0, [a1, a2] => b_X9_passCell_0 a1 a2 D
  | 1, [x2, x3] => b_X9_passCell_1 x2 x3 D
  | 2, [x2, x4, x5] => b_X9_passCell_2 x2 x4 x5 D
  | _, _ => none
def S_X9_passCell (a1 : Int32) (a2 : Int32) (D : DD) : Option RT := run T_X9_passCell FUEL 0 [a1, a2] D
def hg_X9_passCell (p : Program) (l : Launch) (e : Env) (s : State) (m : MethodId) (args : Array Value) (below : List Frame) (meth : Method) (c : Code) (G : va_G) (E : EE) (r : RT) (k : Nat) (ls : List Int32) (D : DD) : Prop := match k, ls with
  | 0, [a1, a2] => GW p l e (rmm 2) s m args below meth c G E 6 (MQ below (QR G E s.heap.size r) args s 0 0 (fr E s.heap.size)) 0 0 D 0 [(0, .ref (E.1 68)), (1, .ref (E.1 1)), (2, .int a1), (3, .int a2)] []
  | 1, [x2, x3] => GW p l e (rmm 2) s m args below meth c G E 6 (MQ below (QR G E s.heap.size r) args s 0 0 (fr E s.heap.size)) 0 0 D 19 [(0, .ref (E.1 68)), (1, .ref (E.1 1)), (2, .int x2), (3, .int x3)] []
  | 2, [x2, x4, x5] => GW p l e (rmm 2) s m args below meth c G E 6 (MQ below (QR G E s.heap.size r) args s 0 0 (fr E s.heap.size)) 0 0 D 87 [(0, .ref (E.1 68)), (1, .ref (E.1 1)), (2, .int x2), (4, .int x4), (5, .int x5)] []
  | _, _ => True
set_option maxRecDepth 100000 in
set_option maxHeartbeats 4000000 in
theorem bl_X9_passCell_0 {p : Program} {l : Launch} {e : Env} {s : State} {m : MethodId} {args : Array Value} {below : List Frame} {meth : Method} {c : Code} {G : va_G} {E : EE} {r : RT} (X : CX p s m args meth c cX9_passCell RX9 6 G E) (hr : meth.sig.returnType = none) (a1 : Int32) (a2 : Int32) (D : DD) (o : (Nat × List Int32 × DD) ⊕ RT) (h : b_X9_passCell_0 a1 a2 D = some o) (h1 : ∀ x, o = .inl x → hg_X9_passCell p l e s m args below meth c G E r x.1 x.2.1 x.2.2) (h2 : ∀ x, o = .inr x → x = r) : GW p l e (rmm 2) s m args below meth c G E 6 (MQ below (QR G E s.heap.size r) args s 0 0 (fr E s.heap.size)) 0 0 D 0 [(0, .ref (E.1 68)), (1, .ref (E.1 1)), (2, .int a1), (3, .int a2)] [] := by
  unfold b_X9_passCell_0 at h
  refine g_iload_n X 3 (i0 := 3) dX9_passCell_0 rfl rfl ?_
  refine g_if_lt X (tgt := 19) dX9_passCell_1 (by decide) (fun c18 => ?_) (fun c18 => ?_)
  · have h := (ite_s h).1 c18
    refine g_sub (lv' := [(0, .ref (E.1 68)), (1, .ref (E.1 1)), (2, .int a1), (3, .int a2)]) [0, 1, 2, 3] rfl ?_
    exact h1 _ (Option.some.inj h).symm
  · have h := (ite_s h).2 c18
    refine g_iload_n X 3 (i0 := 3) dX9_passCell_4 rfl rfl ?_
    refine g_bipush X (v := (64 : Int32)) dX9_passCell_5 (by decide) ?_
    refine g_icmp_ge X (tgt := 19) dX9_passCell_7 (by decide) (fun c17 => ?_) (fun c17 => ?_)
    · have h := (ite_s h).1 c17
      refine g_sub (lv' := [(0, .ref (E.1 68)), (1, .ref (E.1 1)), (2, .int a1), (3, .int a2)]) [0, 1, 2, 3] rfl ?_
      exact h1 _ (Option.some.inj h).symm
    · have h := (ite_s h).2 c17
      refine g_aload_n X 0 (i0 := 0) dX9_passCell_10 rfl rfl ?_
      refine g_get X (D := D) (v := .ref (E.1 71)) (T := TX9) 68 uX9 (wg_68 E _) rfl 2 (by decide) fl_X9_19 rfl rfl dX9_passCell_11 ?_
      refine g_iload_n X 3 (i0 := 3) dX9_passCell_14 rfl rfl ?_
      obtain ⟨b1, h⟩ := chk_s h
      refine g_iald X (D := D) (f := (D.2.2.1 59)) (i := a2) 71 (wg_71 E _) (inB_vp b1) dX9_passCell_15 ?_
      refine g_goto X (tgt := 20) dX9_passCell_16 (by decide) ?_
      refine g_istore X (lv' := [(4, .int ((D.2.2.1 59) a2.toNatClampNeg)), (0, .ref (E.1 68)), (1, .ref (E.1 1)), (2, .int a1), (3, .int a2)]) dX9_passCell_20 (by decide) rfl ?_
      refine g_iload_n X 4 (i0 := 3) dX9_passCell_22 rfl rfl ?_
      refine g_iconst X (v := (1 : Int32)) dX9_passCell_23 (by decide) ?_
      refine g_ishr X dX9_passCell_24 ?_
      refine g_istore X (lv' := [(5, .int (a2 >>> ((1 : Int32) &&& 31))), (4, .int ((D.2.2.1 59) a2.toNatClampNeg)), (0, .ref (E.1 68)), (1, .ref (E.1 1)), (2, .int a1), (3, .int a2)]) dX9_passCell_25 (by decide) rfl ?_
      refine g_aload_n X 2 (i0 := 0) dX9_passCell_27 rfl rfl ?_
      refine g_iload X 0 dX9_passCell_28 rfl ?_
      refine g_iload X 1 dX9_passCell_30 rfl ?_
      obtain ⟨D3, e2, h⟩ := cV_s h
      refine g_V X (As := [.int (a2 >>> ((1 : Int32) &&& 31)), .int ((D.2.2.1 59) a2.toNatClampNeg)]) (rest := []) (c_X9_reach l G E (a2 >>> ((1 : Int32) &&& 31)) ((D.2.2.1 59) a2.toNatClampNeg) _ _ e2) 68 (wg_68 E _) rfl rfl kv_X9_62 ⟨rfl, rfl⟩ ⟨rfl, hd_X9_reach⟩ (⟨Nat.le_of_ble_eq_true rfl, Nat.le_of_ble_eq_true rfl⟩) rfl rfl (Nat.le_of_ble_eq_true rfl) dX9_passCell_32 ?_
      refine g_iload_n X 5 (i0 := 3) dX9_passCell_35 rfl rfl ?_
      refine g_iconst X (v := (1 : Int32)) dX9_passCell_36 (by decide) ?_
      refine g_iand X dX9_passCell_37 ?_
      refine g_if_ne X (tgt := 49) dX9_passCell_38 (by decide) (fun c16 => ?_) (fun c16 => ?_)
      · have h := (ite_s h).2 c16
        exact g_vret X hr dX9_passCell_49 (h2 _ (Option.some.inj h).symm)
      · have h := (ite_s h).1 c16
        refine g_aload_n X 3 (i0 := 1) dX9_passCell_41 rfl rfl ?_
        refine g_iload_n X 4 (i0 := 2) dX9_passCell_42 rfl rfl ?_
        obtain ⟨r6, D5, e4, h⟩ := cI_s h
        refine g_V X (As := [.int a1]) (rest := []) (c_X8_openAt l G E a1 _ _ e4) 1 (wg_1 E _) rfl rfl kv_X9_31 ⟨rfl, rfl⟩ ⟨rfl, hd_X8_openAt⟩ (⟨Nat.le_of_ble_eq_true rfl, Nat.le_of_ble_eq_true rfl⟩) rfl rfl (Nat.le_of_ble_eq_true rfl) dX9_passCell_43 ?_
        refine g_if_ne X (tgt := 50) dX9_passCell_46 (by decide) (fun c15 => ?_) (fun c15 => ?_)
        · have h := (ite_s h).2 c15
          refine g_iload_n X 4 (i0 := 2) dX9_passCell_50 rfl rfl ?_
          refine g_bipush X (v := (6 : Int32)) dX9_passCell_51 (by decide) ?_
          refine g_irem X (by decide) dX9_passCell_53 ?_
          refine g_iconst X (v := (5 : Int32)) dX9_passCell_54 (by decide) ?_
          refine g_icmp_ge X (tgt := 87) dX9_passCell_55 (by decide) (fun c14 => ?_) (fun c14 => ?_)
          · have h := (ite_s h).1 c14
            refine g_sub (lv' := [(0, .ref (E.1 68)), (1, .ref (E.1 1)), (2, .int a1), (4, .int ((D.2.2.1 59) a2.toNatClampNeg)), (5, .int (a2 >>> ((1 : Int32) &&& 31)))]) [2, 3, 4, 1, 0] rfl ?_
            exact h1 _ (Option.some.inj h).symm
          · have h := (ite_s h).2 c14
            refine g_aload_n X 3 (i0 := 1) dX9_passCell_58 rfl rfl ?_
            refine g_iload_n X 4 (i0 := 2) dX9_passCell_59 rfl rfl ?_
            refine g_iconst X (v := (1 : Int32)) dX9_passCell_60 (by decide) ?_
            refine g_iadd X dX9_passCell_61 ?_
            obtain ⟨r9, D8, e7, h⟩ := cI_s h
            refine g_V X (As := [.int (a1 + (1 : Int32))]) (rest := []) (c_X8_openAt l G E (a1 + (1 : Int32)) _ _ e7) 1 (wg_1 E _) rfl rfl kv_X9_31 ⟨rfl, rfl⟩ ⟨rfl, hd_X8_openAt⟩ (⟨Nat.le_of_ble_eq_true rfl, Nat.le_of_ble_eq_true rfl⟩) rfl rfl (Nat.le_of_ble_eq_true rfl) dX9_passCell_62 ?_
            refine g_if_eq X (tgt := 87) dX9_passCell_65 (by decide) (fun c13 => ?_) (fun c13 => ?_)
            · have h := (ite_s h).1 c13
              refine g_sub (lv' := [(0, .ref (E.1 68)), (1, .ref (E.1 1)), (2, .int a1), (4, .int ((D.2.2.1 59) a2.toNatClampNeg)), (5, .int (a2 >>> ((1 : Int32) &&& 31)))]) [2, 3, 4, 1, 0] rfl ?_
              exact h1 _ (Option.some.inj h).symm
            · have h := (ite_s h).2 c13
              refine g_iload X 0 dX9_passCell_68 rfl ?_
              refine g_iconst X (v := (1 : Int32)) dX9_passCell_70 (by decide) ?_
              refine g_iand X dX9_passCell_71 ?_
              refine g_if_ne X (tgt := 87) dX9_passCell_72 (by decide) (fun c12 => ?_) (fun c12 => ?_)
              · have h := (ite_s h).2 c12
                refine g_sub (lv' := [(0, .ref (E.1 68)), (1, .ref (E.1 1)), (2, .int a1), (4, .int ((D.2.2.1 59) a2.toNatClampNeg)), (5, .int (a2 >>> ((1 : Int32) &&& 31)))]) [2, 3, 4, 1, 0] rfl ?_
                exact h1 _ (Option.some.inj h).symm
              · have h := (ite_s h).1 c12
                refine g_aload_n X 2 (i0 := 0) dX9_passCell_75 rfl rfl ?_
                refine g_iload X 0 dX9_passCell_76 rfl ?_
                refine g_iconst X (v := (1 : Int32)) dX9_passCell_78 (by decide) ?_
                refine g_ior X dX9_passCell_79 ?_
                refine g_iload X 1 dX9_passCell_80 rfl ?_
                refine g_iconst X (v := (1 : Int32)) dX9_passCell_82 (by decide) ?_
                refine g_iadd X dX9_passCell_83 ?_
                obtain ⟨D11, e10, h⟩ := cV_s h
                refine g_V X (As := [.int ((a2 >>> ((1 : Int32) &&& 31)) ||| (1 : Int32)), .int (((D.2.2.1 59) a2.toNatClampNeg) + (1 : Int32))]) (rest := []) (c_X9_reach l G E ((a2 >>> ((1 : Int32) &&& 31)) ||| (1 : Int32)) (((D.2.2.1 59) a2.toNatClampNeg) + (1 : Int32)) _ _ e10) 68 (wg_68 E _) rfl rfl kv_X9_62 ⟨rfl, rfl⟩ ⟨rfl, hd_X9_reach⟩ (⟨Nat.le_of_ble_eq_true rfl, Nat.le_of_ble_eq_true rfl⟩) rfl rfl (Nat.le_of_ble_eq_true rfl) dX9_passCell_84 ?_
                refine g_sub (lv' := [(0, .ref (E.1 68)), (1, .ref (E.1 1)), (2, .int a1), (4, .int ((D.2.2.1 59) a2.toNatClampNeg)), (5, .int (a2 >>> ((1 : Int32) &&& 31)))]) [2, 3, 4, 1, 0] rfl ?_
                exact h1 _ (Option.some.inj h).symm
        · have h := (ite_s h).1 c15
          exact g_vret X hr dX9_passCell_49 (h2 _ (Option.some.inj h).symm)
set_option maxRecDepth 100000 in
set_option maxHeartbeats 4000000 in
theorem bl_X9_passCell_1 {p : Program} {l : Launch} {e : Env} {s : State} {m : MethodId} {args : Array Value} {below : List Frame} {meth : Method} {c : Code} {G : va_G} {E : EE} {r : RT} (X : CX p s m args meth c cX9_passCell RX9 6 G E) (hr : meth.sig.returnType = none) (x2 : Int32) (x3 : Int32) (D : DD) (o : (Nat × List Int32 × DD) ⊕ RT) (h : b_X9_passCell_1 x2 x3 D = some o) (h1 : ∀ x, o = .inl x → hg_X9_passCell p l e s m args below meth c G E r x.1 x.2.1 x.2.2) (h2 : ∀ x, o = .inr x → x = r) : GW p l e (rmm 2) s m args below meth c G E 6 (MQ below (QR G E s.heap.size r) args s 0 0 (fr E s.heap.size)) 0 0 D 19 [(0, .ref (E.1 68)), (1, .ref (E.1 1)), (2, .int x2), (3, .int x3)] [] := by
  unfold b_X9_passCell_1 at h
  refine g_iconst X (v := (-1 : Int32)) dX9_passCell_19 (by decide) ?_
  refine g_istore X (lv' := [(4, .int (-1 : Int32)), (0, .ref (E.1 68)), (1, .ref (E.1 1)), (2, .int x2), (3, .int x3)]) dX9_passCell_20 (by decide) rfl ?_
  refine g_iload_n X 4 (i0 := 3) dX9_passCell_22 rfl rfl ?_
  refine g_iconst X (v := (1 : Int32)) dX9_passCell_23 (by decide) ?_
  refine g_ishr X dX9_passCell_24 ?_
  refine g_istore X (lv' := [(5, .int (x3 >>> ((1 : Int32) &&& 31))), (4, .int (-1 : Int32)), (0, .ref (E.1 68)), (1, .ref (E.1 1)), (2, .int x2), (3, .int x3)]) dX9_passCell_25 (by decide) rfl ?_
  refine g_aload_n X 2 (i0 := 0) dX9_passCell_27 rfl rfl ?_
  refine g_iload X 0 dX9_passCell_28 rfl ?_
  refine g_iload X 1 dX9_passCell_30 rfl ?_
  obtain ⟨D20, e19, h⟩ := cV_s h
  refine g_V X (As := [.int (x3 >>> ((1 : Int32) &&& 31)), .int (-1 : Int32)]) (rest := []) (c_X9_reach l G E (x3 >>> ((1 : Int32) &&& 31)) (-1 : Int32) _ _ e19) 68 (wg_68 E _) rfl rfl kv_X9_62 ⟨rfl, rfl⟩ ⟨rfl, hd_X9_reach⟩ (⟨Nat.le_of_ble_eq_true rfl, Nat.le_of_ble_eq_true rfl⟩) rfl rfl (Nat.le_of_ble_eq_true rfl) dX9_passCell_32 ?_
  refine g_iload_n X 5 (i0 := 3) dX9_passCell_35 rfl rfl ?_
  refine g_iconst X (v := (1 : Int32)) dX9_passCell_36 (by decide) ?_
  refine g_iand X dX9_passCell_37 ?_
  refine g_if_ne X (tgt := 49) dX9_passCell_38 (by decide) (fun c33 => ?_) (fun c33 => ?_)
  · have h := (ite_s h).2 c33
    exact g_vret X hr dX9_passCell_49 (h2 _ (Option.some.inj h).symm)
  · have h := (ite_s h).1 c33
    refine g_aload_n X 3 (i0 := 1) dX9_passCell_41 rfl rfl ?_
    refine g_iload_n X 4 (i0 := 2) dX9_passCell_42 rfl rfl ?_
    obtain ⟨r23, D22, e21, h⟩ := cI_s h
    refine g_V X (As := [.int x2]) (rest := []) (c_X8_openAt l G E x2 _ _ e21) 1 (wg_1 E _) rfl rfl kv_X9_31 ⟨rfl, rfl⟩ ⟨rfl, hd_X8_openAt⟩ (⟨Nat.le_of_ble_eq_true rfl, Nat.le_of_ble_eq_true rfl⟩) rfl rfl (Nat.le_of_ble_eq_true rfl) dX9_passCell_43 ?_
    refine g_if_ne X (tgt := 50) dX9_passCell_46 (by decide) (fun c32 => ?_) (fun c32 => ?_)
    · have h := (ite_s h).2 c32
      refine g_iload_n X 4 (i0 := 2) dX9_passCell_50 rfl rfl ?_
      refine g_bipush X (v := (6 : Int32)) dX9_passCell_51 (by decide) ?_
      refine g_irem X (by decide) dX9_passCell_53 ?_
      refine g_iconst X (v := (5 : Int32)) dX9_passCell_54 (by decide) ?_
      refine g_icmp_ge X (tgt := 87) dX9_passCell_55 (by decide) (fun c31 => ?_) (fun c31 => ?_)
      · have h := (ite_s h).1 c31
        refine g_sub (lv' := [(0, .ref (E.1 68)), (1, .ref (E.1 1)), (2, .int x2), (4, .int (-1 : Int32)), (5, .int (x3 >>> ((1 : Int32) &&& 31)))]) [2, 3, 4, 1, 0] rfl ?_
        exact h1 _ (Option.some.inj h).symm
      · have h := (ite_s h).2 c31
        refine g_aload_n X 3 (i0 := 1) dX9_passCell_58 rfl rfl ?_
        refine g_iload_n X 4 (i0 := 2) dX9_passCell_59 rfl rfl ?_
        refine g_iconst X (v := (1 : Int32)) dX9_passCell_60 (by decide) ?_
        refine g_iadd X dX9_passCell_61 ?_
        obtain ⟨r26, D25, e24, h⟩ := cI_s h
        refine g_V X (As := [.int (x2 + (1 : Int32))]) (rest := []) (c_X8_openAt l G E (x2 + (1 : Int32)) _ _ e24) 1 (wg_1 E _) rfl rfl kv_X9_31 ⟨rfl, rfl⟩ ⟨rfl, hd_X8_openAt⟩ (⟨Nat.le_of_ble_eq_true rfl, Nat.le_of_ble_eq_true rfl⟩) rfl rfl (Nat.le_of_ble_eq_true rfl) dX9_passCell_62 ?_
        refine g_if_eq X (tgt := 87) dX9_passCell_65 (by decide) (fun c30 => ?_) (fun c30 => ?_)
        · have h := (ite_s h).1 c30
          refine g_sub (lv' := [(0, .ref (E.1 68)), (1, .ref (E.1 1)), (2, .int x2), (4, .int (-1 : Int32)), (5, .int (x3 >>> ((1 : Int32) &&& 31)))]) [2, 3, 4, 1, 0] rfl ?_
          exact h1 _ (Option.some.inj h).symm
        · have h := (ite_s h).2 c30
          refine g_iload X 0 dX9_passCell_68 rfl ?_
          refine g_iconst X (v := (1 : Int32)) dX9_passCell_70 (by decide) ?_
          refine g_iand X dX9_passCell_71 ?_
          refine g_if_ne X (tgt := 87) dX9_passCell_72 (by decide) (fun c29 => ?_) (fun c29 => ?_)
          · have h := (ite_s h).2 c29
            refine g_sub (lv' := [(0, .ref (E.1 68)), (1, .ref (E.1 1)), (2, .int x2), (4, .int (-1 : Int32)), (5, .int (x3 >>> ((1 : Int32) &&& 31)))]) [2, 3, 4, 1, 0] rfl ?_
            exact h1 _ (Option.some.inj h).symm
          · have h := (ite_s h).1 c29
            refine g_aload_n X 2 (i0 := 0) dX9_passCell_75 rfl rfl ?_
            refine g_iload X 0 dX9_passCell_76 rfl ?_
            refine g_iconst X (v := (1 : Int32)) dX9_passCell_78 (by decide) ?_
            refine g_ior X dX9_passCell_79 ?_
            refine g_iload X 1 dX9_passCell_80 rfl ?_
            refine g_iconst X (v := (1 : Int32)) dX9_passCell_82 (by decide) ?_
            refine g_iadd X dX9_passCell_83 ?_
            obtain ⟨D28, e27, h⟩ := cV_s h
            refine g_V X (As := [.int ((x3 >>> ((1 : Int32) &&& 31)) ||| (1 : Int32)), .int ((-1 : Int32) + (1 : Int32))]) (rest := []) (c_X9_reach l G E ((x3 >>> ((1 : Int32) &&& 31)) ||| (1 : Int32)) ((-1 : Int32) + (1 : Int32)) _ _ e27) 68 (wg_68 E _) rfl rfl kv_X9_62 ⟨rfl, rfl⟩ ⟨rfl, hd_X9_reach⟩ (⟨Nat.le_of_ble_eq_true rfl, Nat.le_of_ble_eq_true rfl⟩) rfl rfl (Nat.le_of_ble_eq_true rfl) dX9_passCell_84 ?_
            refine g_sub (lv' := [(0, .ref (E.1 68)), (1, .ref (E.1 1)), (2, .int x2), (4, .int (-1 : Int32)), (5, .int (x3 >>> ((1 : Int32) &&& 31)))]) [2, 3, 4, 1, 0] rfl ?_
            exact h1 _ (Option.some.inj h).symm
    · have h := (ite_s h).1 c32
      exact g_vret X hr dX9_passCell_49 (h2 _ (Option.some.inj h).symm)
set_option maxRecDepth 100000 in
set_option maxHeartbeats 4000000 in
theorem bl_X9_passCell_2 {p : Program} {l : Launch} {e : Env} {s : State} {m : MethodId} {args : Array Value} {below : List Frame} {meth : Method} {c : Code} {G : va_G} {E : EE} {r : RT} (X : CX p s m args meth c cX9_passCell RX9 6 G E) (hr : meth.sig.returnType = none) (x2 : Int32) (x4 : Int32) (x5 : Int32) (D : DD) (o : (Nat × List Int32 × DD) ⊕ RT) (h : b_X9_passCell_2 x2 x4 x5 D = some o) (h1 : ∀ x, o = .inl x → hg_X9_passCell p l e s m args below meth c G E r x.1 x.2.1 x.2.2) (h2 : ∀ x, o = .inr x → x = r) : GW p l e (rmm 2) s m args below meth c G E 6 (MQ below (QR G E s.heap.size r) args s 0 0 (fr E s.heap.size)) 0 0 D 87 [(0, .ref (E.1 68)), (1, .ref (E.1 1)), (2, .int x2), (4, .int x4), (5, .int x5)] [] := by
  unfold b_X9_passCell_2 at h
  refine g_aload_n X 1 (i0 := 1) dX9_passCell_87 rfl rfl ?_
  refine g_iload_n X 2 (i0 := 2) dX9_passCell_88 rfl rfl ?_
  refine g_bipush X (v := (6 : Int32)) dX9_passCell_89 (by decide) ?_
  refine g_iadd X dX9_passCell_91 ?_
  obtain ⟨r36, D35, e34, h⟩ := cI_s h
  refine g_V X (As := [.int (x2 + (6 : Int32))]) (rest := []) (c_X8_openAt l G E (x2 + (6 : Int32)) _ _ e34) 1 (wg_1 E _) rfl rfl kv_X9_31 ⟨rfl, rfl⟩ ⟨rfl, hd_X8_openAt⟩ (⟨Nat.le_of_ble_eq_true rfl, Nat.le_of_ble_eq_true rfl⟩) rfl rfl (Nat.le_of_ble_eq_true rfl) dX9_passCell_92 ?_
  refine g_if_eq X (tgt := 111) dX9_passCell_95 (by decide) (fun c39 => ?_) (fun c39 => ?_)
  · have h := (ite_s h).1 c39
    exact g_vret X hr dX9_passCell_111 (h2 _ (Option.some.inj h).symm)
  · have h := (ite_s h).2 c39
    refine g_aload_n X 0 (i0 := 0) dX9_passCell_98 rfl rfl ?_
    refine g_iload X 4 dX9_passCell_99 rfl ?_
    refine g_bipush X (v := (32 : Int32)) dX9_passCell_101 (by decide) ?_
    refine g_ior X dX9_passCell_103 ?_
    refine g_iload X 3 dX9_passCell_104 rfl ?_
    refine g_iconst X (v := (1 : Int32)) dX9_passCell_106 (by decide) ?_
    refine g_iadd X dX9_passCell_107 ?_
    obtain ⟨D38, e37, h⟩ := cV_s h
    refine g_V X (As := [.int (x5 ||| (32 : Int32)), .int (x4 + (1 : Int32))]) (rest := []) (c_X9_reach l G E (x5 ||| (32 : Int32)) (x4 + (1 : Int32)) _ _ e37) 68 (wg_68 E _) rfl rfl kv_X9_62 ⟨rfl, rfl⟩ ⟨rfl, hd_X9_reach⟩ (⟨Nat.le_of_ble_eq_true rfl, Nat.le_of_ble_eq_true rfl⟩) rfl rfl (Nat.le_of_ble_eq_true rfl) dX9_passCell_108 ?_
    exact g_vret X hr dX9_passCell_111 (h2 _ (Option.some.inj h).symm)
set_option maxRecDepth 100000 in
set_option maxHeartbeats 4000000 in
theorem c_X9_passCell (l : Launch) (G : va_G) (E : EE) (a1 : Int32) (a2 : Int32) (D : DD) (r : RT) (h : S_X9_passCell a1 a2 D = some r) : MM l G E yX9_passCell cX9_passCell 6 none (rmm 2) [.ref (E.1 68), .ref (E.1 1), .int a1, .int a2] D r := by
  unfold S_X9_passCell at h
  refine m_of rfl (Nat.le_of_ble_eq_true rfl) ?_
  intro p e s m args below meth c X hr
  exact run_G (T := T_X9_passCell) (HG := hg_X9_passCell p l e s m args below meth c G E r) (by
    intro k ls D o hT h1 h2
    unfold T_X9_passCell at hT
    split at hT
    · exact bl_X9_passCell_0 X hr _ _ D o hT h1 h2
    · exact bl_X9_passCell_1 X hr _ _ D o hT h1 h2
    · exact bl_X9_passCell_2 X hr _ _ _ D o hT h1 h2
    · cases hT) FUEL 0 [a1, a2] D h
theorem hd_X9_passCell : yX9_passCell.cls ≠ "java/lang/invoke/MethodHandle" ∧ yX9_passCell.cls ≠ "java/lang/invoke/VarHandle" ∧ (parseMethodDescriptor yX9_passCell.desc).map (fun d => d.parameters.length) = some 3 := by decide +kernel
theorem wc_X9_passCell : Cond.code yX9_passCell cX9_passCell 6 none ∈ UT := ut 456 (by decide +kernel) (by decide +kernel)
theorem we_X9_passCell : Cond.selects RX9 yX9_passCell yX9_passCell ∈ UT := ut 4 (by decide +kernel) (by decide +kernel)
theorem wm_X9_passCell : Cond.instanceMethod yX9_passCell ∈ UT := ut 455 (by decide +kernel) (by decide +kernel)
theorem kv_X9_52 : GoodIn UT (wsV RX9 52 RX9 yX9_passCell (Cond.code yX9_passCell cX9_passCell 6 none :: UT)) := gu_V (ut 453 (by decide +kernel) (by decide +kernel)) wm_X9_passCell we_X9_passCell wi_RX9 wc_X9_passCell
theorem wl_X9_56 : Cond.methodLink RX9 56 arraycopyName ∈ UT := ut 461 (by decide +kernel) (by decide +kernel)
def b_X9_countByCells_0  (D : DD) : Option ((Nat × List Int32 × DD) ⊕ RT) := (cV (S_J7_fill_53178_slabs_most (-1 : Int32) D) (fun D2 => some (.inl (1, [(0 : Int32)], (setA D2 59 (upd (D2.2.2.1 59) (0 : Int32).toNatClampNeg (0 : Int32)))))))
def b_X9_countByCells_1 (x2 : Int32) (D : DD) : Option ((Nat × List Int32 × DD) ⊕ RT) := (if (36 : Int32) ≤ x2 then some (.inr (0, some (.int ((D.2.2.1 59) (0 : Int32).toNatClampNeg)), D)) else (cV (S_J7_fill_53178_slabs_mostNext (-1 : Int32) D) (fun D4 => some (.inl (2, [x2, (0 : Int32)], D4)))))
def b_X9_countByCells_2 (x2 : Int32) (x3 : Int32) (D : DD) : Option ((Nat × List Int32 × DD) ⊕ RT) := (if (64 : Int32) ≤ x3 then some (.inl (1, [(x2 + (1 : Int32))], (setA D 59 (va_cpy (D.2.2.1 60) (D.2.2.1 59) (0 : Int32).toNatClampNeg (0 : Int32).toNatClampNeg (64 : Int32).toNatClampNeg)))) else (if inB x3 64 = true then (if ((D.2.2.1 59) x3.toNatClampNeg) = (-1 : Int32) then some (.inl (2, [x2, (x3 + (1 : Int32))], D)) else (cV (S_X9_passCell x2 x3 D) (fun D8 => some (.inl (2, [x2, (x3 + (1 : Int32))], D8))))) else none))
def T_X9_countByCells (k : Nat) (ls : List Int32) (D : DD) : Option ((Nat × List Int32 × DD) ⊕ RT) := match k, ls with
  | 0, [] => b_X9_countByCells_0  D
  | 1, [x2] => b_X9_countByCells_1 x2 D
  | 2, [x2, x3] => b_X9_countByCells_2 x2 x3 D
  | _, _ => none
def S_X9_countByCells  (D : DD) : Option RT := run T_X9_countByCells FUEL 0 [] D
def hg_X9_countByCells (p : Program) (l : Launch) (e : Env) (s : State) (m : MethodId) (args : Array Value) (below : List Frame) (meth : Method) (c : Code) (G : va_G) (E : EE) (r : RT) (k : Nat) (ls : List Int32) (D : DD) : Prop := match k, ls with
  | 0, [] => GW p l e (rmm 3) s m args below meth c G E 4 (MQ below (QR G E s.heap.size r) args s 0 0 (fr E s.heap.size)) 0 0 D 0 [(0, .ref (E.1 68)), (1, .ref (E.1 1))] []
  | 1, [x2] => GW p l e (rmm 3) s m args below meth c G E 4 (MQ below (QR G E s.heap.size r) args s 0 0 (fr E s.heap.size)) 0 0 D 17 [(0, .ref (E.1 68)), (1, .ref (E.1 1)), (2, .int x2)] []
  | 2, [x2, x3] => GW p l e (rmm 3) s m args below meth c G E 4 (MQ below (QR G E s.heap.size r) args s 0 0 (fr E s.heap.size)) 0 0 D 33 [(0, .ref (E.1 68)), (1, .ref (E.1 1)), (2, .int x2), (3, .int x3)] []
  | _, _ => True
set_option maxRecDepth 100000 in
set_option maxHeartbeats 4000000 in
theorem bl_X9_countByCells_0 {p : Program} {l : Launch} {e : Env} {s : State} {m : MethodId} {args : Array Value} {below : List Frame} {meth : Method} {c : Code} {G : va_G} {E : EE} {r : RT} (X : CX p s m args meth c cX9_countByCells RX9 4 G E) (hr : meth.sig.returnType = (some .int))  (D : DD) (o : (Nat × List Int32 × DD) ⊕ RT) (h : b_X9_countByCells_0  D = some o) (h1 : ∀ x, o = .inl x → hg_X9_countByCells p l e s m args below meth c G E r x.1 x.2.1 x.2.2) (h2 : ∀ x, o = .inr x → x = r) : GW p l e (rmm 3) s m args below meth c G E 4 (MQ below (QR G E s.heap.size r) args s 0 0 (fr E s.heap.size)) 0 0 D 0 [(0, .ref (E.1 68)), (1, .ref (E.1 1))] [] := by
  unfold b_X9_countByCells_0 at h
  refine g_aload_n X 0 (i0 := 0) dX9_countByCells_0 rfl rfl ?_
  refine g_get X (D := D) (v := .ref (E.1 71)) (T := TX9) 68 uX9 (wg_68 E _) rfl 2 (by decide) fl_X9_19 rfl rfl dX9_countByCells_1 ?_
  refine g_iconst X (v := (-1 : Int32)) dX9_countByCells_4 (by decide) ?_
  obtain ⟨D2, e1, h⟩ := cV_s h
  refine g_S X (As := [.ref (E.1 71), .int (-1 : Int32)]) (rest := []) (c_J7_fill_53178_slabs_most l G E (-1 : Int32) _ _ e1) ks_X9_25 ⟨rfl, rfl⟩ hd_J7_fill_53178 (⟨Nat.le_of_ble_eq_true rfl, Nat.le_of_ble_eq_true rfl⟩) rfl rfl (Nat.le_of_ble_eq_true rfl) dX9_countByCells_5 ?_
  refine g_aload_n X 0 (i0 := 0) dX9_countByCells_8 rfl rfl ?_
  refine g_get X (D := D2) (v := .ref (E.1 71)) (T := TX9) 68 uX9 (wg_68 E _) rfl 2 (by decide) fl_X9_19 rfl rfl dX9_countByCells_9 ?_
  refine g_iconst X (v := (0 : Int32)) dX9_countByCells_12 (by decide) ?_
  refine g_iconst X (v := (0 : Int32)) dX9_countByCells_13 (by decide) ?_
  refine g_iast X (D := D2) (f := (D2.2.2.1 59)) (i := (0 : Int32)) (x := (0 : Int32)) (D' := (setA D2 59 (upd (D2.2.2.1 59) (0 : Int32).toNatClampNeg (0 : Int32)))) 71 (wg_71 E _) (inB_vp (by decide)) (ws_A_59 E _ _) dX9_countByCells_14 ?_
  refine g_iconst X (v := (0 : Int32)) dX9_countByCells_15 (by decide) ?_
  refine g_istore_n X (i0 := 2) (lv' := [(2, .int (0 : Int32)), (0, .ref (E.1 68)), (1, .ref (E.1 1))]) dX9_countByCells_16 rfl (by decide) rfl ?_
  refine g_sub (lv' := [(0, .ref (E.1 68)), (1, .ref (E.1 1)), (2, .int (0 : Int32))]) [1, 2, 0] rfl ?_
  exact h1 _ (Option.some.inj h).symm
set_option maxRecDepth 100000 in
set_option maxHeartbeats 4000000 in
theorem bl_X9_countByCells_1 {p : Program} {l : Launch} {e : Env} {s : State} {m : MethodId} {args : Array Value} {below : List Frame} {meth : Method} {c : Code} {G : va_G} {E : EE} {r : RT} (X : CX p s m args meth c cX9_countByCells RX9 4 G E) (hr : meth.sig.returnType = (some .int)) (x2 : Int32) (D : DD) (o : (Nat × List Int32 × DD) ⊕ RT) (h : b_X9_countByCells_1 x2 D = some o) (h1 : ∀ x, o = .inl x → hg_X9_countByCells p l e s m args below meth c G E r x.1 x.2.1 x.2.2) (h2 : ∀ x, o = .inr x → x = r) : GW p l e (rmm 3) s m args below meth c G E 4 (MQ below (QR G E s.heap.size r) args s 0 0 (fr E s.heap.size)) 0 0 D 17 [(0, .ref (E.1 68)), (1, .ref (E.1 1)), (2, .int x2)] [] := by
  unfold b_X9_countByCells_1 at h
  refine g_iload_n X 2 (i0 := 2) dX9_countByCells_17 rfl rfl ?_
  refine g_bipush X (v := (36 : Int32)) dX9_countByCells_18 (by decide) ?_
  refine g_icmp_ge X (tgt := 83) dX9_countByCells_20 (by decide) (fun c5 => ?_) (fun c5 => ?_)
  · have h := (ite_s h).1 c5
    refine g_aload_n X 0 (i0 := 0) dX9_countByCells_83 rfl rfl ?_
    refine g_get X (D := D) (v := .ref (E.1 71)) (T := TX9) 68 uX9 (wg_68 E _) rfl 2 (by decide) fl_X9_19 rfl rfl dX9_countByCells_84 ?_
    refine g_iconst X (v := (0 : Int32)) dX9_countByCells_87 (by decide) ?_
    refine g_iald X (D := D) (f := (D.2.2.1 59)) (i := (0 : Int32)) 71 (wg_71 E _) (inB_vp (by decide)) dX9_countByCells_88 ?_
    exact g_iret X hr rfl dX9_countByCells_89 (h2 _ (Option.some.inj h).symm)
  · have h := (ite_s h).2 c5
    refine g_aload_n X 0 (i0 := 0) dX9_countByCells_23 rfl rfl ?_
    refine g_get X (D := D) (v := .ref (E.1 72)) (T := TX9) 68 uX9 (wg_68 E _) rfl 3 (by decide) fl_X9_22 rfl rfl dX9_countByCells_24 ?_
    refine g_iconst X (v := (-1 : Int32)) dX9_countByCells_27 (by decide) ?_
    obtain ⟨D4, e3, h⟩ := cV_s h
    refine g_S X (As := [.ref (E.1 72), .int (-1 : Int32)]) (rest := []) (c_J7_fill_53178_slabs_mostNext l G E (-1 : Int32) _ _ e3) ks_X9_25 ⟨rfl, rfl⟩ hd_J7_fill_53178 (⟨Nat.le_of_ble_eq_true rfl, Nat.le_of_ble_eq_true rfl⟩) rfl rfl (Nat.le_of_ble_eq_true rfl) dX9_countByCells_28 ?_
    refine g_iconst X (v := (0 : Int32)) dX9_countByCells_31 (by decide) ?_
    refine g_istore_n X (i0 := 3) (lv' := [(3, .int (0 : Int32)), (0, .ref (E.1 68)), (1, .ref (E.1 1)), (2, .int x2)]) dX9_countByCells_32 rfl (by decide) rfl ?_
    refine g_sub (lv' := [(0, .ref (E.1 68)), (1, .ref (E.1 1)), (2, .int x2), (3, .int (0 : Int32))]) [1, 2, 3, 0] rfl ?_
    exact h1 _ (Option.some.inj h).symm
set_option maxRecDepth 100000 in
set_option maxHeartbeats 4000000 in
theorem bl_X9_countByCells_2 {p : Program} {l : Launch} {e : Env} {s : State} {m : MethodId} {args : Array Value} {below : List Frame} {meth : Method} {c : Code} {G : va_G} {E : EE} {r : RT} (X : CX p s m args meth c cX9_countByCells RX9 4 G E) (hr : meth.sig.returnType = (some .int)) (x2 : Int32) (x3 : Int32) (D : DD) (o : (Nat × List Int32 × DD) ⊕ RT) (h : b_X9_countByCells_2 x2 x3 D = some o) (h1 : ∀ x, o = .inl x → hg_X9_countByCells p l e s m args below meth c G E r x.1 x.2.1 x.2.2) (h2 : ∀ x, o = .inr x → x = r) : GW p l e (rmm 3) s m args below meth c G E 4 (MQ below (QR G E s.heap.size r) args s 0 0 (fr E s.heap.size)) 0 0 D 33 [(0, .ref (E.1 68)), (1, .ref (E.1 1)), (2, .int x2), (3, .int x3)] [] := by
  unfold b_X9_countByCells_2 at h
  refine g_iload_n X 3 (i0 := 3) dX9_countByCells_33 rfl rfl ?_
  refine g_bipush X (v := (64 : Int32)) dX9_countByCells_34 (by decide) ?_
  refine g_icmp_ge X (tgt := 62) dX9_countByCells_36 (by decide) (fun c10 => ?_) (fun c10 => ?_)
  · have h := (ite_s h).1 c10
    refine g_aload_n X 0 (i0 := 0) dX9_countByCells_62 rfl rfl ?_
    refine g_get X (D := D) (v := .ref (E.1 72)) (T := TX9) 68 uX9 (wg_68 E _) rfl 3 (by decide) fl_X9_22 rfl rfl dX9_countByCells_63 ?_
    refine g_iconst X (v := (0 : Int32)) dX9_countByCells_66 (by decide) ?_
    refine g_aload_n X 0 (i0 := 0) dX9_countByCells_67 rfl rfl ?_
    refine g_get X (D := D) (v := .ref (E.1 71)) (T := TX9) 68 uX9 (wg_68 E _) rfl 2 (by decide) fl_X9_19 rfl rfl dX9_countByCells_68 ?_
    refine g_iconst X (v := (0 : Int32)) dX9_countByCells_71 (by decide) ?_
    refine g_bipush X (v := (64 : Int32)) dX9_countByCells_72 (by decide) ?_
    refine g_copyi X (D := D) (f := (D.2.2.1 60)) (g := (D.2.2.1 59)) (sp := (0 : Int32)) (dp := (0 : Int32)) (n := (64 : Int32)) (D' := (setA D 59 (va_cpy (D.2.2.1 60) (D.2.2.1 59) (0 : Int32).toNatClampNeg (0 : Int32).toNatClampNeg (64 : Int32).toNatClampNeg))) wl_X9_56 wn_copy ws_copy wi_sys 72 71 (wg_72 E _) (wg_71 E _) (by decide) (by decide) (by decide) (by decide) (by decide) (ws_A_59 E _ _) (Nat.le_of_ble_eq_true rfl) (Nat.le_of_ble_eq_true rfl) dX9_countByCells_74 ?_
    refine g_iinc X 2 (v := (x2 + (1 : Int32))) (lv' := [(2, .int (x2 + (1 : Int32))), (0, .ref (E.1 68)), (1, .ref (E.1 1)), (3, .int x3)]) dX9_countByCells_77 rfl rfl (by decide) rfl ?_
    refine g_goto X (tgt := 17) dX9_countByCells_80 (by decide) ?_
    refine g_sub (lv' := [(0, .ref (E.1 68)), (1, .ref (E.1 1)), (2, .int (x2 + (1 : Int32)))]) [1, 2, 0] rfl ?_
    exact h1 _ (Option.some.inj h).symm
  · have h := (ite_s h).2 c10
    refine g_aload_n X 0 (i0 := 0) dX9_countByCells_39 rfl rfl ?_
    refine g_get X (D := D) (v := .ref (E.1 71)) (T := TX9) 68 uX9 (wg_68 E _) rfl 2 (by decide) fl_X9_19 rfl rfl dX9_countByCells_40 ?_
    refine g_iload_n X 3 (i0 := 3) dX9_countByCells_43 rfl rfl ?_
    obtain ⟨b6, h⟩ := chk_s h
    refine g_iald X (D := D) (f := (D.2.2.1 59)) (i := x3) 71 (wg_71 E _) (inB_vp b6) dX9_countByCells_44 ?_
    refine g_iconst X (v := (-1 : Int32)) dX9_countByCells_45 (by decide) ?_
    refine g_icmp_eq X (tgt := 56) dX9_countByCells_46 (by decide) (fun c9 => ?_) (fun c9 => ?_)
    · have h := (ite_s h).1 c9
      refine g_iinc X 3 (v := (x3 + (1 : Int32))) (lv' := [(3, .int (x3 + (1 : Int32))), (0, .ref (E.1 68)), (1, .ref (E.1 1)), (2, .int x2)]) dX9_countByCells_56 rfl rfl (by decide) rfl ?_
      refine g_goto X (tgt := 33) dX9_countByCells_59 (by decide) ?_
      refine g_sub (lv' := [(0, .ref (E.1 68)), (1, .ref (E.1 1)), (2, .int x2), (3, .int (x3 + (1 : Int32)))]) [1, 2, 3, 0] rfl ?_
      exact h1 _ (Option.some.inj h).symm
    · have h := (ite_s h).2 c9
      refine g_aload_n X 0 (i0 := 0) dX9_countByCells_49 rfl rfl ?_
      refine g_aload_n X 1 (i0 := 1) dX9_countByCells_50 rfl rfl ?_
      refine g_iload_n X 2 (i0 := 2) dX9_countByCells_51 rfl rfl ?_
      refine g_iload_n X 3 (i0 := 3) dX9_countByCells_52 rfl rfl ?_
      obtain ⟨D8, e7, h⟩ := cV_s h
      refine g_V X (As := [.ref (E.1 1), .int x2, .int x3]) (rest := []) (c_X9_passCell l G E x2 x3 _ _ e7) 68 (wg_68 E _) rfl rfl kv_X9_52 ⟨rfl, rfl⟩ ⟨rfl, hd_X9_passCell⟩ (⟨Nat.le_of_ble_eq_true rfl, Nat.le_of_ble_eq_true rfl⟩) rfl rfl (Nat.le_of_ble_eq_true rfl) dX9_countByCells_53 ?_
      refine g_iinc X 3 (v := (x3 + (1 : Int32))) (lv' := [(3, .int (x3 + (1 : Int32))), (0, .ref (E.1 68)), (1, .ref (E.1 1)), (2, .int x2)]) dX9_countByCells_56 rfl rfl (by decide) rfl ?_
      refine g_goto X (tgt := 33) dX9_countByCells_59 (by decide) ?_
      refine g_sub (lv' := [(0, .ref (E.1 68)), (1, .ref (E.1 1)), (2, .int x2), (3, .int (x3 + (1 : Int32)))]) [1, 2, 3, 0] rfl ?_
      exact h1 _ (Option.some.inj h).symm
set_option maxRecDepth 100000 in
set_option maxHeartbeats 4000000 in
theorem c_X9_countByCells (l : Launch) (G : va_G) (E : EE)  (D : DD) (r : RT) (h : S_X9_countByCells  D = some r) : MM l G E yX9_countByCells cX9_countByCells 4 (some .int) (rmm 3) [.ref (E.1 68), .ref (E.1 1)] D r := by
  unfold S_X9_countByCells at h
  refine m_of rfl (Nat.le_of_ble_eq_true rfl) ?_
  intro p e s m args below meth c X hr
  exact run_G (T := T_X9_countByCells) (HG := hg_X9_countByCells p l e s m args below meth c G E r) (by
    intro k ls D o hT h1 h2
    unfold T_X9_countByCells at hT
    split at hT
    · exact bl_X9_countByCells_0 X hr  D o hT h1 h2
    · exact bl_X9_countByCells_1 X hr _ D o hT h1 h2
    · exact bl_X9_countByCells_2 X hr _ _ D o hT h1 h2
    · cases hT) FUEL 0 [] D h
theorem fl_X10_9 : Cond.fieldLink RX10 9 "StoneQuarry$Tunnels" "cost" "[I" ∈ UT := ut 224 (by decide +kernel) (by decide +kernel)
theorem kn_X10_31 : Cond.methodLinkNest RX10 31 yX12_isCell "StoneQuarry" ∈ NEST := nst 400 (by decide +kernel) rfl
theorem kn_X10_49 : Cond.methodLinkNest RX10 49 yX12_neighbourOf "StoneQuarry" ∈ NEST := nst 405 (by decide +kernel) rfl
theorem kv_X10_42 : GoodIn UT (wsV RX10 42 RX8 yX8_hardnessAt (Cond.code yX8_hardnessAt cX8_hardnessAt 2 (some .int) :: UT)) := gu_V (ut 385 (by decide +kernel) (by decide +kernel)) wm_X8_hardnessAt we_X8_hardnessAt wi_RX8 wc_X8_hardnessAt
theorem uX10 : ∀ w ∈ wsX100, w ∈ UT := ut_all (by decide +kernel) (by decide +kernel)
theorem wg_65 (E : EE) (D : DD) : (wd E D)[65]? = some (E.1 65, .inr (10, [.ref (E.1 66), .ref (E.1 67)])) := rfl
theorem wg_66 (E : EE) (D : DD) : (wd E D)[66]? = some (E.1 66, .inl (E.2 0, 36, .inl (D.2.2.1 55))) := rfl
theorem ws_A_55 (E : EE) (D : DD) (f : Nat → Int32) : (wd E D).set 66 (E.1 66, .inl (E.2 0, 36, .inl f)) = wd E (setA D 55 f) := rfl
def b_X10_goOn_0 (a1 : Int32) (D : DD) : Option ((Nat × List Int32 × DD) ⊕ RT) := some (.inl (1, [a1, (0 : Int32), (0 : Int32)], D))
def b_X10_goOn_1 (x2 : Int32) (x3 : Int32) (x4 : Int32) (D : DD) : Option ((Nat × List Int32 × DD) ⊕ RT) := (if (4 : Int32) ≤ x4 then (if vp_nar .boolean x3 = x3 then some (.inr (0, some (.int x3), D)) else none) else (cI (S_X12_neighbourOf x2 x4 D) (fun r4 D3 => (cI (S_X12_isCell x2 D3) (fun r7 D6 => (if r7 = 0 then some (.inl (1, [x2, x3, (x4 + (1 : Int32))], D6)) else (cI (S_X12_isCell r4 D6) (fun r10 D9 => (if r10 = 0 then some (.inl (1, [x2, x3, (x4 + (1 : Int32))], D9)) else (if inB x2 36 = true then (cI (S_X8_hardnessAt r4 D9) (fun r14 D13 => (if inB r4 36 = true then (if ((D13.2.2.1 55) r4.toNatClampNeg) ≤ (((D9.2.2.1 55) x2.toNatClampNeg) + r14) then some (.inl (1, [x2, x3, (x4 + (1 : Int32))], D13)) else (if inB x2 36 = true then (cI (S_X8_hardnessAt r4 D13) (fun r19 D18 => (if inB r4 36 = true then some (.inl (1, [x2, (1 : Int32), (x4 + (1 : Int32))], (setA D18 55 (upd (D18.2.2.1 55) r4.toNatClampNeg (((D13.2.2.1 55) x2.toNatClampNeg) + r19))))) else none))) else none)) else none))) else none))))))))))
def T_X10_goOn (k : Nat) (ls : List Int32) (D : DD) : Option ((Nat × List Int32 × DD) ⊕ RT) := match k, ls with
  | 0, [a1] => b_X10_goOn_0 a1 D
  | 1, [x2, x3, x4] => b_X10_goOn_1 x2 x3 x4 D
  | _, _ => none
def S_X10_goOn (a1 : Int32) (D : DD) : Option RT := run T_X10_goOn FUEL 0 [a1] D
def hg_X10_goOn (p : Program) (l : Launch) (e : Env) (s : State) (m : MethodId) (args : Array Value) (below : List Frame) (meth : Method) (c : Code) (G : va_G) (E : EE) (r : RT) (k : Nat) (ls : List Int32) (D : DD) : Prop := match k, ls with
  | 0, [a1] => GW p l e (rmm 2) s m args below meth c G E 6 (MQ below (QR G E s.heap.size r) args s 0 0 (fr E s.heap.size)) 0 0 D 0 [(0, .ref (E.1 65)), (1, .ref (E.1 1)), (2, .int a1)] []
  | 1, [x2, x3, x4] => GW p l e (rmm 2) s m args below meth c G E 6 (MQ below (QR G E s.heap.size r) args s 0 0 (fr E s.heap.size)) 0 0 D 5 [(0, .ref (E.1 65)), (1, .ref (E.1 1)), (2, .int x2), (3, .int x3), (4, .int x4)] []
  | _, _ => True
set_option maxRecDepth 100000 in
set_option maxHeartbeats 4000000 in
theorem bl_X10_goOn_0 {p : Program} {l : Launch} {e : Env} {s : State} {m : MethodId} {args : Array Value} {below : List Frame} {meth : Method} {c : Code} {G : va_G} {E : EE} {r : RT} (X : CX p s m args meth c cX10_goOn RX10 6 G E) (hr : meth.sig.returnType = (some .boolean)) (a1 : Int32) (D : DD) (o : (Nat × List Int32 × DD) ⊕ RT) (h : b_X10_goOn_0 a1 D = some o) (h1 : ∀ x, o = .inl x → hg_X10_goOn p l e s m args below meth c G E r x.1 x.2.1 x.2.2) (h2 : ∀ x, o = .inr x → x = r) : GW p l e (rmm 2) s m args below meth c G E 6 (MQ below (QR G E s.heap.size r) args s 0 0 (fr E s.heap.size)) 0 0 D 0 [(0, .ref (E.1 65)), (1, .ref (E.1 1)), (2, .int a1)] [] := by
  unfold b_X10_goOn_0 at h
  refine g_iconst X (v := (0 : Int32)) dX10_goOn_0 (by decide) ?_
  refine g_istore_n X (i0 := 3) (lv' := [(3, .int (0 : Int32)), (0, .ref (E.1 65)), (1, .ref (E.1 1)), (2, .int a1)]) dX10_goOn_1 rfl (by decide) rfl ?_
  refine g_iconst X (v := (0 : Int32)) dX10_goOn_2 (by decide) ?_
  refine g_istore X (lv' := [(4, .int (0 : Int32)), (3, .int (0 : Int32)), (0, .ref (E.1 65)), (1, .ref (E.1 1)), (2, .int a1)]) dX10_goOn_3 (by decide) rfl ?_
  refine g_sub (lv' := [(0, .ref (E.1 65)), (1, .ref (E.1 1)), (2, .int a1), (3, .int (0 : Int32)), (4, .int (0 : Int32))]) [2, 3, 4, 1, 0] rfl ?_
  exact h1 _ (Option.some.inj h).symm
set_option maxRecDepth 100000 in
set_option maxHeartbeats 4000000 in
theorem bl_X10_goOn_1 {p : Program} {l : Launch} {e : Env} {s : State} {m : MethodId} {args : Array Value} {below : List Frame} {meth : Method} {c : Code} {G : va_G} {E : EE} {r : RT} (X : CX p s m args meth c cX10_goOn RX10 6 G E) (hr : meth.sig.returnType = (some .boolean)) (x2 : Int32) (x3 : Int32) (x4 : Int32) (D : DD) (o : (Nat × List Int32 × DD) ⊕ RT) (h : b_X10_goOn_1 x2 x3 x4 D = some o) (h1 : ∀ x, o = .inl x → hg_X10_goOn p l e s m args below meth c G E r x.1 x.2.1 x.2.2) (h2 : ∀ x, o = .inr x → x = r) : GW p l e (rmm 2) s m args below meth c G E 6 (MQ below (QR G E s.heap.size r) args s 0 0 (fr E s.heap.size)) 0 0 D 5 [(0, .ref (E.1 65)), (1, .ref (E.1 1)), (2, .int x2), (3, .int x3), (4, .int x4)] [] := by
  unfold b_X10_goOn_1 at h
  refine g_iload X 4 dX10_goOn_5 rfl ?_
  refine g_iconst X (v := (4 : Int32)) dX10_goOn_7 (by decide) ?_
  refine g_icmp_ge X (tgt := 85) dX10_goOn_8 (by decide) (fun c24 => ?_) (fun c24 => ?_)
  · have h := (ite_s h).1 c24
    refine g_iload_n X 3 (i0 := 3) dX10_goOn_85 rfl rfl ?_
    obtain ⟨n1, h⟩ := chk_s h
    exact g_iret X hr (by first | exact congrArg Value.int n1 | (rw [show narrow .boolean (.int x3) = .int (vp_nar .boolean x3) from rfl, n1])) dX10_goOn_86 (h2 _ (Option.some.inj h).symm)
  · have h := (ite_s h).2 c24
    refine g_iload_n X 2 (i0 := 2) dX10_goOn_11 rfl rfl ?_
    refine g_iload X 4 dX10_goOn_12 rfl ?_
    obtain ⟨r4, D3, e2, h⟩ := cI_s h
    refine g_SN X (As := [.int x2, .int x4]) (rest := []) (c_X12_neighbourOf l G E x2 x4 _ _ e2) wc_X12_neighbourOf kn_X10_49 wi_RX12 wt_X12_neighbourOf ⟨rfl, rfl⟩ hd_X12_neighbourOf (⟨Nat.le_of_ble_eq_true rfl, Nat.le_of_ble_eq_true rfl⟩) rfl rfl (Nat.le_of_ble_eq_true rfl) dX10_goOn_14 ?_
    refine g_istore X (lv' := [(5, .int r4), (0, .ref (E.1 65)), (1, .ref (E.1 1)), (2, .int x2), (3, .int x3), (4, .int x4)]) dX10_goOn_17 (by decide) rfl ?_
    refine g_iload_n X 3 (i0 := 2) dX10_goOn_19 rfl rfl ?_
    obtain ⟨r7, D6, e5, h⟩ := cI_s h
    refine g_SN X (As := [.int x2]) (rest := []) (c_X12_isCell l G E x2 _ _ e5) wc_X12_isCell kn_X10_31 wi_RX12 wt_X12_isCell ⟨rfl, rfl⟩ hd_X12_isCell (⟨Nat.le_of_ble_eq_true rfl, Nat.le_of_ble_eq_true rfl⟩) rfl rfl (Nat.le_of_ble_eq_true rfl) dX10_goOn_20 ?_
    refine g_if_eq X (tgt := 79) dX10_goOn_23 (by decide) (fun c23 => ?_) (fun c23 => ?_)
    · have h := (ite_s h).1 c23
      refine g_iinc X 5 (v := (x4 + (1 : Int32))) (lv' := [(4, .int (x4 + (1 : Int32))), (5, .int r4), (0, .ref (E.1 65)), (1, .ref (E.1 1)), (2, .int x2), (3, .int x3)]) dX10_goOn_79 rfl rfl (by decide) rfl ?_
      refine g_goto X (tgt := 5) dX10_goOn_82 (by decide) ?_
      refine g_sub (lv' := [(0, .ref (E.1 65)), (1, .ref (E.1 1)), (2, .int x2), (3, .int x3), (4, .int (x4 + (1 : Int32)))]) [2, 3, 4, 5, 0] rfl ?_
      exact h1 _ (Option.some.inj h).symm
    · have h := (ite_s h).2 c23
      refine g_iload X 0 dX10_goOn_26 rfl ?_
      obtain ⟨r10, D9, e8, h⟩ := cI_s h
      refine g_SN X (As := [.int r4]) (rest := []) (c_X12_isCell l G E r4 _ _ e8) wc_X12_isCell kn_X10_31 wi_RX12 wt_X12_isCell ⟨rfl, rfl⟩ hd_X12_isCell (⟨Nat.le_of_ble_eq_true rfl, Nat.le_of_ble_eq_true rfl⟩) rfl rfl (Nat.le_of_ble_eq_true rfl) dX10_goOn_28 ?_
      refine g_if_eq X (tgt := 79) dX10_goOn_31 (by decide) (fun c22 => ?_) (fun c22 => ?_)
      · have h := (ite_s h).1 c22
        refine g_iinc X 5 (v := (x4 + (1 : Int32))) (lv' := [(4, .int (x4 + (1 : Int32))), (5, .int r4), (0, .ref (E.1 65)), (1, .ref (E.1 1)), (2, .int x2), (3, .int x3)]) dX10_goOn_79 rfl rfl (by decide) rfl ?_
        refine g_goto X (tgt := 5) dX10_goOn_82 (by decide) ?_
        refine g_sub (lv' := [(0, .ref (E.1 65)), (1, .ref (E.1 1)), (2, .int x2), (3, .int x3), (4, .int (x4 + (1 : Int32)))]) [2, 3, 4, 5, 0] rfl ?_
        exact h1 _ (Option.some.inj h).symm
      · have h := (ite_s h).2 c22
        refine g_aload_n X 1 (i0 := 0) dX10_goOn_34 rfl rfl ?_
        refine g_get X (D := D9) (v := .ref (E.1 66)) (T := TX10) 65 uX10 (wg_65 E _) rfl 0 (by decide) fl_X10_9 rfl rfl dX10_goOn_35 ?_
        refine g_iload_n X 3 (i0 := 2) dX10_goOn_38 rfl rfl ?_
        obtain ⟨b11, h⟩ := chk_s h
        refine g_iald X (D := D9) (f := (D9.2.2.1 55)) (i := x2) 66 (wg_66 E _) (inB_vp b11) dX10_goOn_39 ?_
        refine g_aload_n X 2 (i0 := 1) dX10_goOn_40 rfl rfl ?_
        refine g_iload X 0 dX10_goOn_41 rfl ?_
        obtain ⟨r14, D13, e12, h⟩ := cI_s h
        refine g_V X (As := [.int r4]) (rest := [.int ((D9.2.2.1 55) x2.toNatClampNeg)]) (c_X8_hardnessAt l G E r4 _ _ e12) 1 (wg_1 E _) rfl rfl kv_X10_42 ⟨rfl, rfl⟩ ⟨rfl, hd_X8_hardnessAt⟩ (⟨Nat.le_of_ble_eq_true rfl, Nat.le_of_ble_eq_true rfl⟩) rfl rfl (Nat.le_of_ble_eq_true rfl) dX10_goOn_43 ?_
        refine g_iadd X dX10_goOn_46 ?_
        refine g_aload_n X 1 (i0 := 0) dX10_goOn_47 rfl rfl ?_
        refine g_get X (D := D13) (v := .ref (E.1 66)) (T := TX10) 65 uX10 (wg_65 E _) rfl 0 (by decide) fl_X10_9 rfl rfl dX10_goOn_48 ?_
        refine g_iload X 0 dX10_goOn_51 rfl ?_
        obtain ⟨b15, h⟩ := chk_s h
        refine g_iald X (D := D13) (f := (D13.2.2.1 55)) (i := r4) 66 (wg_66 E _) (inB_vp b15) dX10_goOn_53 ?_
        refine g_icmp_ge X (tgt := 79) dX10_goOn_54 (by decide) (fun c21 => ?_) (fun c21 => ?_)
        · have h := (ite_s h).1 c21
          refine g_iinc X 5 (v := (x4 + (1 : Int32))) (lv' := [(4, .int (x4 + (1 : Int32))), (5, .int r4), (0, .ref (E.1 65)), (1, .ref (E.1 1)), (2, .int x2), (3, .int x3)]) dX10_goOn_79 rfl rfl (by decide) rfl ?_
          refine g_goto X (tgt := 5) dX10_goOn_82 (by decide) ?_
          refine g_sub (lv' := [(0, .ref (E.1 65)), (1, .ref (E.1 1)), (2, .int x2), (3, .int x3), (4, .int (x4 + (1 : Int32)))]) [2, 3, 4, 5, 0] rfl ?_
          exact h1 _ (Option.some.inj h).symm
        · have h := (ite_s h).2 c21
          refine g_aload_n X 1 (i0 := 0) dX10_goOn_57 rfl rfl ?_
          refine g_get X (D := D13) (v := .ref (E.1 66)) (T := TX10) 65 uX10 (wg_65 E _) rfl 0 (by decide) fl_X10_9 rfl rfl dX10_goOn_58 ?_
          refine g_iload X 0 dX10_goOn_61 rfl ?_
          refine g_aload_n X 1 (i0 := 0) dX10_goOn_63 rfl rfl ?_
          refine g_get X (D := D13) (v := .ref (E.1 66)) (T := TX10) 65 uX10 (wg_65 E _) rfl 0 (by decide) fl_X10_9 rfl rfl dX10_goOn_64 ?_
          refine g_iload_n X 3 (i0 := 2) dX10_goOn_67 rfl rfl ?_
          obtain ⟨b16, h⟩ := chk_s h
          refine g_iald X (D := D13) (f := (D13.2.2.1 55)) (i := x2) 66 (wg_66 E _) (inB_vp b16) dX10_goOn_68 ?_
          refine g_aload_n X 2 (i0 := 1) dX10_goOn_69 rfl rfl ?_
          refine g_iload X 0 dX10_goOn_70 rfl ?_
          obtain ⟨r19, D18, e17, h⟩ := cI_s h
          refine g_V X (As := [.int r4]) (rest := [.int ((D13.2.2.1 55) x2.toNatClampNeg), .int r4, .ref (E.1 66)]) (c_X8_hardnessAt l G E r4 _ _ e17) 1 (wg_1 E _) rfl rfl kv_X10_42 ⟨rfl, rfl⟩ ⟨rfl, hd_X8_hardnessAt⟩ (⟨Nat.le_of_ble_eq_true rfl, Nat.le_of_ble_eq_true rfl⟩) rfl rfl (Nat.le_of_ble_eq_true rfl) dX10_goOn_72 ?_
          refine g_iadd X dX10_goOn_75 ?_
          obtain ⟨b20, h⟩ := chk_s h
          refine g_iast X (D := D18) (f := (D18.2.2.1 55)) (i := r4) (x := (((D13.2.2.1 55) x2.toNatClampNeg) + r19)) (D' := (setA D18 55 (upd (D18.2.2.1 55) r4.toNatClampNeg (((D13.2.2.1 55) x2.toNatClampNeg) + r19)))) 66 (wg_66 E _) (inB_vp b20) (ws_A_55 E _ _) dX10_goOn_76 ?_
          refine g_iconst X (v := (1 : Int32)) dX10_goOn_77 (by decide) ?_
          refine g_istore_n X (i0 := 3) (lv' := [(3, .int (1 : Int32)), (5, .int r4), (0, .ref (E.1 65)), (1, .ref (E.1 1)), (2, .int x2), (4, .int x4)]) dX10_goOn_78 rfl (by decide) rfl ?_
          refine g_iinc X 5 (v := (x4 + (1 : Int32))) (lv' := [(4, .int (x4 + (1 : Int32))), (3, .int (1 : Int32)), (5, .int r4), (0, .ref (E.1 65)), (1, .ref (E.1 1)), (2, .int x2)]) dX10_goOn_79 rfl rfl (by decide) rfl ?_
          refine g_goto X (tgt := 5) dX10_goOn_82 (by decide) ?_
          refine g_sub (lv' := [(0, .ref (E.1 65)), (1, .ref (E.1 1)), (2, .int x2), (3, .int (1 : Int32)), (4, .int (x4 + (1 : Int32)))]) [3, 4, 5, 1, 0] rfl ?_
          exact h1 _ (Option.some.inj h).symm
set_option maxRecDepth 100000 in
set_option maxHeartbeats 4000000 in
theorem c_X10_goOn (l : Launch) (G : va_G) (E : EE) (a1 : Int32) (D : DD) (r : RT) (h : S_X10_goOn a1 D = some r) : MM l G E yX10_goOn cX10_goOn 6 (some .boolean) (rmm 2) [.ref (E.1 65), .ref (E.1 1), .int a1] D r := by
  unfold S_X10_goOn at h
  refine m_of rfl (Nat.le_of_ble_eq_true rfl) ?_
  intro p e s m args below meth c X hr
  exact run_G (T := T_X10_goOn) (HG := hg_X10_goOn p l e s m args below meth c G E r) (by
    intro k ls D o hT h1 h2
    unfold T_X10_goOn at hT
    split at hT
    · exact bl_X10_goOn_0 X hr _ D o hT h1 h2
    · exact bl_X10_goOn_1 X hr _ _ _ D o hT h1 h2
    · cases hT) FUEL 0 [a1] D h
theorem wk_X10_48 : Cond.constant RX10 48 (1000000 : Int32) ∈ UT := ut 392 (by decide +kernel) (by decide +kernel)
theorem wl_X10_53 : Cond.methodLink RX10 53 Lib.Math.min.name ∈ UT := ut 415 (by decide +kernel) (by decide +kernel)
def b_X10_leastAtEnd_0  (D : DD) : Option ((Nat × List Int32 × DD) ⊕ RT) := some (.inl (1, [(1000000 : Int32), (0 : Int32)], D))
def b_X10_leastAtEnd_1 (x1 : Int32) (x2 : Int32) (D : DD) : Option ((Nat × List Int32 × DD) ⊕ RT) := (if (6 : Int32) ≤ x2 then some (.inr (0, some (.int x1), D)) else (if inB (((x2 * (6 : Int32)) + (6 : Int32)) - (1 : Int32)) 36 = true then some (.inl (1, [(if ((D.2.2.1 55) (((x2 * (6 : Int32)) + (6 : Int32)) - (1 : Int32)).toNatClampNeg) < x1 then ((D.2.2.1 55) (((x2 * (6 : Int32)) + (6 : Int32)) - (1 : Int32)).toNatClampNeg) else x1), (x2 + (1 : Int32))], D)) else none))
def T_X10_leastAtEnd (k : Nat) (ls : List Int32) (D : DD) : Option ((Nat × List Int32 × DD) ⊕ RT) := match k, ls with
  | 0, [] => b_X10_leastAtEnd_0  D
  | 1, [x1, x2] => b_X10_leastAtEnd_1 x1 x2 D
  | _, _ => none
def S_X10_leastAtEnd  (D : DD) : Option RT := run T_X10_leastAtEnd FUEL 0 [] D
def hg_X10_leastAtEnd (p : Program) (l : Launch) (e : Env) (s : State) (m : MethodId) (args : Array Value) (below : List Frame) (meth : Method) (c : Code) (G : va_G) (E : EE) (r : RT) (k : Nat) (ls : List Int32) (D : DD) : Prop := match k, ls with
  | 0, [] => GW p l e (rmm 1) s m args below meth c G E 3 (MQ below (QR G E s.heap.size r) args s 0 0 (fr E s.heap.size)) 0 0 D 0 [(0, .ref (E.1 65))] []
  | 1, [x1, x2] => GW p l e (rmm 1) s m args below meth c G E 3 (MQ below (QR G E s.heap.size r) args s 0 0 (fr E s.heap.size)) 0 0 D 5 [(0, .ref (E.1 65)), (1, .int x1), (2, .int x2)] []
  | _, _ => True
set_option maxRecDepth 100000 in
set_option maxHeartbeats 4000000 in
theorem bl_X10_leastAtEnd_0 {p : Program} {l : Launch} {e : Env} {s : State} {m : MethodId} {args : Array Value} {below : List Frame} {meth : Method} {c : Code} {G : va_G} {E : EE} {r : RT} (X : CX p s m args meth c cX10_leastAtEnd RX10 3 G E) (hr : meth.sig.returnType = (some .int))  (D : DD) (o : (Nat × List Int32 × DD) ⊕ RT) (h : b_X10_leastAtEnd_0  D = some o) (h1 : ∀ x, o = .inl x → hg_X10_leastAtEnd p l e s m args below meth c G E r x.1 x.2.1 x.2.2) (h2 : ∀ x, o = .inr x → x = r) : GW p l e (rmm 1) s m args below meth c G E 3 (MQ below (QR G E s.heap.size r) args s 0 0 (fr E s.heap.size)) 0 0 D 0 [(0, .ref (E.1 65))] [] := by
  unfold b_X10_leastAtEnd_0 at h
  refine g_ldc X (v := (1000000 : Int32)) wk_X10_48 dX10_leastAtEnd_0 ?_
  refine g_istore_n X (i0 := 1) (lv' := [(1, .int (1000000 : Int32)), (0, .ref (E.1 65))]) dX10_leastAtEnd_2 rfl (by decide) rfl ?_
  refine g_iconst X (v := (0 : Int32)) dX10_leastAtEnd_3 (by decide) ?_
  refine g_istore_n X (i0 := 2) (lv' := [(2, .int (0 : Int32)), (1, .int (1000000 : Int32)), (0, .ref (E.1 65))]) dX10_leastAtEnd_4 rfl (by decide) rfl ?_
  refine g_sub (lv' := [(0, .ref (E.1 65)), (1, .int (1000000 : Int32)), (2, .int (0 : Int32))]) [2, 1, 0] rfl ?_
  exact h1 _ (Option.some.inj h).symm
set_option maxRecDepth 100000 in
set_option maxHeartbeats 4000000 in
theorem bl_X10_leastAtEnd_1 {p : Program} {l : Launch} {e : Env} {s : State} {m : MethodId} {args : Array Value} {below : List Frame} {meth : Method} {c : Code} {G : va_G} {E : EE} {r : RT} (X : CX p s m args meth c cX10_leastAtEnd RX10 3 G E) (hr : meth.sig.returnType = (some .int)) (x1 : Int32) (x2 : Int32) (D : DD) (o : (Nat × List Int32 × DD) ⊕ RT) (h : b_X10_leastAtEnd_1 x1 x2 D = some o) (h1 : ∀ x, o = .inl x → hg_X10_leastAtEnd p l e s m args below meth c G E r x.1 x.2.1 x.2.2) (h2 : ∀ x, o = .inr x → x = r) : GW p l e (rmm 1) s m args below meth c G E 3 (MQ below (QR G E s.heap.size r) args s 0 0 (fr E s.heap.size)) 0 0 D 5 [(0, .ref (E.1 65)), (1, .int x1), (2, .int x2)] [] := by
  unfold b_X10_leastAtEnd_1 at h
  refine g_iload_n X 2 (i0 := 2) dX10_leastAtEnd_5 rfl rfl ?_
  refine g_bipush X (v := (6 : Int32)) dX10_leastAtEnd_6 (by decide) ?_
  refine g_icmp_ge X (tgt := 36) dX10_leastAtEnd_8 (by decide) (fun c2 => ?_) (fun c2 => ?_)
  · have h := (ite_s h).1 c2
    refine g_iload_n X 1 (i0 := 1) dX10_leastAtEnd_36 rfl rfl ?_
    exact g_iret X hr rfl dX10_leastAtEnd_37 (h2 _ (Option.some.inj h).symm)
  · have h := (ite_s h).2 c2
    refine g_iload_n X 1 (i0 := 1) dX10_leastAtEnd_11 rfl rfl ?_
    refine g_aload_n X 0 (i0 := 0) dX10_leastAtEnd_12 rfl rfl ?_
    refine g_get X (D := D) (v := .ref (E.1 66)) (T := TX10) 65 uX10 (wg_65 E _) rfl 0 (by decide) fl_X10_9 rfl rfl dX10_leastAtEnd_13 ?_
    refine g_iload_n X 2 (i0 := 2) dX10_leastAtEnd_16 rfl rfl ?_
    refine g_bipush X (v := (6 : Int32)) dX10_leastAtEnd_17 (by decide) ?_
    refine g_imul X dX10_leastAtEnd_19 ?_
    refine g_bipush X (v := (6 : Int32)) dX10_leastAtEnd_20 (by decide) ?_
    refine g_iadd X dX10_leastAtEnd_22 ?_
    refine g_iconst X (v := (1 : Int32)) dX10_leastAtEnd_23 (by decide) ?_
    refine g_isub X dX10_leastAtEnd_24 ?_
    obtain ⟨b1, h⟩ := chk_s h
    refine g_iald X (D := D) (f := (D.2.2.1 55)) (i := (((x2 * (6 : Int32)) + (6 : Int32)) - (1 : Int32))) 66 (wg_66 E _) (inB_vp b1) dX10_leastAtEnd_25 ?_
    refine g_min X wl_X10_53 wm_min wi_math wc_min (Nat.le_of_ble_eq_true rfl) (Nat.le_of_ble_eq_true rfl) dX10_leastAtEnd_26 ?_
    refine g_istore_n X (i0 := 1) (lv' := [(1, .int (if ((D.2.2.1 55) (((x2 * (6 : Int32)) + (6 : Int32)) - (1 : Int32)).toNatClampNeg) < x1 then ((D.2.2.1 55) (((x2 * (6 : Int32)) + (6 : Int32)) - (1 : Int32)).toNatClampNeg) else x1)), (0, .ref (E.1 65)), (2, .int x2)]) dX10_leastAtEnd_29 rfl (by decide) rfl ?_
    refine g_iinc X 2 (v := (x2 + (1 : Int32))) (lv' := [(2, .int (x2 + (1 : Int32))), (1, .int (if ((D.2.2.1 55) (((x2 * (6 : Int32)) + (6 : Int32)) - (1 : Int32)).toNatClampNeg) < x1 then ((D.2.2.1 55) (((x2 * (6 : Int32)) + (6 : Int32)) - (1 : Int32)).toNatClampNeg) else x1)), (0, .ref (E.1 65))]) dX10_leastAtEnd_30 rfl rfl (by decide) rfl ?_
    refine g_goto X (tgt := 5) dX10_leastAtEnd_33 (by decide) ?_
    refine g_sub (lv' := [(0, .ref (E.1 65)), (1, .int (if ((D.2.2.1 55) (((x2 * (6 : Int32)) + (6 : Int32)) - (1 : Int32)).toNatClampNeg) < x1 then ((D.2.2.1 55) (((x2 * (6 : Int32)) + (6 : Int32)) - (1 : Int32)).toNatClampNeg) else x1)), (2, .int (x2 + (1 : Int32)))]) [2, 1, 0] rfl ?_
    exact h1 _ (Option.some.inj h).symm
set_option maxRecDepth 100000 in
set_option maxHeartbeats 4000000 in
theorem c_X10_leastAtEnd (l : Launch) (G : va_G) (E : EE)  (D : DD) (r : RT) (h : S_X10_leastAtEnd  D = some r) : MM l G E yX10_leastAtEnd cX10_leastAtEnd 3 (some .int) (rmm 1) [.ref (E.1 65)] D r := by
  unfold S_X10_leastAtEnd at h
  refine m_of rfl (Nat.le_of_ble_eq_true rfl) ?_
  intro p e s m args below meth c X hr
  exact run_G (T := T_X10_leastAtEnd) (HG := hg_X10_leastAtEnd p l e s m args below meth c G E r) (by
    intro k ls D o hT h1 h2
    unfold T_X10_leastAtEnd at hT
    split at hT
    · exact bl_X10_leastAtEnd_0 X hr  D o hT h1 h2
    · exact bl_X10_leastAtEnd_1 X hr _ _ D o hT h1 h2
    · cases hT) FUEL 0 [] D h
