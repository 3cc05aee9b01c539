theorem fl_X13_59 : Cond.fieldLink RX13 59 "StoneQuarryModel" "thrown" "I" ∈ UT := ut 1350 (by decide +kernel) (by decide +kernel)
theorem uX13 : ∀ w ∈ wsX130, w ∈ UT := ut_all (by decide +kernel) (by decide +kernel)
theorem wg_84 (E : EE) (D : DD) : (wd E D)[84]? = some (E.1 84, .inr (13, [.int (D.1 140), .int (D.1 141), .int (D.1 142), .int (D.1 143), .int (D.1 144), .ref (E.1 85), .ref (E.1 86), .ref (E.1 87), .ref (E.1 88), .ref (E.1 89), .ref (E.1 90), .ref (E.1 91), .ref (E.1 92), .ref (E.1 93), .ref (E.1 94), .ref (E.1 95), .ref (E.1 96), .ref (E.1 97), .ref (E.1 98), .int (D.1 145), .int (D.1 146), .int (D.1 147), .int (D.1 148), .int (D.1 149), .int (D.1 150)])) := rfl
def S_X13_thrown  (D : DD) : Option RT := some (0, some (.int (D.1 140)), D)
set_option maxRecDepth 100000 in
set_option maxHeartbeats 4000000 in
theorem c_X13_thrown (l : Launch) (G : va_G) (E : EE)  (D : DD) (r : RT) (h : S_X13_thrown  D = some r) : MM l G E yX13_thrown cX13_thrown 1 (some .int) (rmm 0) [.ref (E.1 84)] D r := by
  refine m_of rfl (Nat.le_of_ble_eq_true rfl) ?_
  intro p e s m args below meth c X hr
  unfold S_X13_thrown at h
  refine g_aload_n X 0 (i0 := 0) dX13_thrown_0 rfl rfl ?_
  refine g_get X (D := D) (v := .int (D.1 140)) (T := TX13) 84 uX13 (wg_84 E _) rfl 0 (by decide) fl_X13_59 rfl rfl dX13_thrown_1 ?_
  exact g_iret X hr rfl dX13_thrown_4 (Option.some.inj h)
theorem ws_I_140 (E : EE) (D : DD) (v : Int32) : (wd E D).set 84 (E.1 84, .inr (13, [.int v, .int (D.1 141), .int (D.1 142), .int (D.1 143), .int (D.1 144), .ref (E.1 85), .ref (E.1 86), .ref (E.1 87), .ref (E.1 88), .ref (E.1 89), .ref (E.1 90), .ref (E.1 91), .ref (E.1 92), .ref (E.1 93), .ref (E.1 94), .ref (E.1 95), .ref (E.1 96), .ref (E.1 97), .ref (E.1 98), .int (D.1 145), .int (D.1 146), .int (D.1 147), .int (D.1 148), .int (D.1 149), .int (D.1 150)])) = wd E (setI D 140 v) := rfl
def S_X13_fail (a0 : Int32) (D : DD) : Option RT := some (0, some (.int (0 : Int32)), (setI D 140 a0))
set_option maxRecDepth 100000 in
set_option maxHeartbeats 4000000 in
theorem c_X13_fail (l : Launch) (G : va_G) (E : EE) (a0 : Int32) (D : DD) (r : RT) (h : S_X13_fail a0 D = some r) : MM l G E yX13_fail cX13_fail 2 (some .int) (rmm 0) [.ref (E.1 84), .int a0] D r := by
  refine m_of rfl (Nat.le_of_ble_eq_true rfl) ?_
  intro p e s m args below meth c X hr
  unfold S_X13_fail at h
  refine g_aload_n X 0 (i0 := 0) dX13_fail_0 rfl rfl ?_
  refine g_iload_n X 1 (i0 := 1) dX13_fail_1 rfl rfl ?_
  refine g_put X (D := D) (v := .int a0) (T := TX13) (D' := (setI D 140 a0)) 84 uX13 tyX13 tyX13_ok nmX13 (wg_84 E _) rfl 0 (by decide) fl_X13_59 rfl rfl rfl rfl (Nat.le_of_ble_eq_true rfl) (ws_I_140 E _ _) dX13_fail_2 ?_
  refine g_iconst X (v := (0 : Int32)) dX13_fail_5 (by decide) ?_
  exact g_iret X hr rfl dX13_fail_6 (Option.some.inj h)
def S_X13_isIn (a0 : Int32) (a1 : Int32) (a2 : Int32) (D : DD) : Option RT := (if a0 < a1 then some (0, some (.int (0 : Int32)), D) else (if a2 < a0 then some (0, some (.int (0 : Int32)), D) else some (0, some (.int (1 : Int32)), D)))
set_option maxRecDepth 100000 in
set_option maxHeartbeats 4000000 in
theorem c_X13_isIn (l : Launch) (G : va_G) (E : EE) (a0 : Int32) (a1 : Int32) (a2 : Int32) (D : DD) (r : RT) (h : S_X13_isIn a0 a1 a2 D = some r) : MM l G E yX13_isIn cX13_isIn 3 (some .boolean) (rmm 0) [.int a0, .int a1, .int a2] D r := by
  refine m_of rfl (Nat.le_of_ble_eq_true rfl) ?_
  intro p e s m args below meth c X hr
  unfold S_X13_isIn at h
  refine g_iload_n X 0 (i0 := 0) dX13_isIn_0 rfl rfl ?_
  refine g_iload_n X 1 (i0 := 1) dX13_isIn_1 rfl rfl ?_
  refine g_icmp_lt X (tgt := 14) dX13_isIn_2 (by decide) (fun c2 => ?_) (fun c2 => ?_)
  · have h := (ite_s h).1 c2
    refine g_iconst X (v := (0 : Int32)) dX13_isIn_14 (by decide) ?_
    exact g_iret X hr rfl dX13_isIn_15 (Option.some.inj h)
  · have h := (ite_s h).2 c2
    refine g_iload_n X 0 (i0 := 0) dX13_isIn_5 rfl rfl ?_
    refine g_iload_n X 2 (i0 := 2) dX13_isIn_6 rfl rfl ?_
    refine g_icmp_gt X (tgt := 14) dX13_isIn_7 (by decide) (fun c1 => ?_) (fun c1 => ?_)
    · have h := (ite_s h).1 c1
      refine g_iconst X (v := (0 : Int32)) dX13_isIn_14 (by decide) ?_
      exact g_iret X hr rfl dX13_isIn_15 (Option.some.inj h)
    · have h := (ite_s h).2 c1
      refine g_iconst X (v := (1 : Int32)) dX13_isIn_10 (by decide) ?_
      refine g_goto X (tgt := 15) dX13_isIn_11 (by decide) ?_
      exact g_iret X hr rfl dX13_isIn_15 (Option.some.inj h)
theorem wg_85 (E : EE) (D : DD) : (wd E D)[85]? = some (E.1 85, .inl (E.2 0, 62, .inl (D.2.2.1 70))) := rfl
theorem wg_86 (E : EE) (D : DD) : (wd E D)[86]? = some (E.1 86, .inl (E.2 0, 62, .inl (D.2.2.1 71))) := rfl
theorem ws_A_71 (E : EE) (D : DD) (f : Nat → Int32) : (wd E D).set 86 (E.1 86, .inl (E.2 0, 62, .inl f)) = wd E (setA D 71 f) := rfl
def b_X13_lays_m_before_m_v_0  (D : DD) : Option ((Nat × List Int32 × DD) ⊕ RT) := some (.inl (1, [(0 : Int32)], D))
def b_X13_lays_m_before_m_v_1 (x2 : Int32) (D : DD) : Option ((Nat × List Int32 × DD) ⊕ RT) := (if (62 : Int32) ≤ x2 then some (.inr (0, none, D)) else (if inB x2 62 = true then (if inB x2 62 = true then some (.inl (1, [(x2 + (1 : Int32))], (setA D 71 (upd (D.2.2.1 71) x2.toNatClampNeg ((D.2.2.1 70) x2.toNatClampNeg))))) else none) else none))
def T_X13_lays_m_before_m_v (k : Nat) (ls : List Int32) (D : DD) : Option ((Nat × List Int32 × DD) ⊕ RT) := match k, ls with
  | 0, [] => b_X13_lays_m_before_m_v_0  D
  | 1, [x2] => b_X13_lays_m_before_m_v_1 x2 D
  | _, _ => none
def S_X13_lays_m_before_m_v  (D : DD) : Option RT := run T_X13_lays_m_before_m_v FUEL 0 [] D
def hg_X13_lays_m_before_m_v (p : Program) (l : Launch) (e : Env) (s : State) (m : MethodId) (args : Array Value) (below : List Frame) (meth : Method) (c : Code) (G : va_G) (E : EE) (r : RT) (k : Nat) (ls : List Int32) (D : DD) : Prop := match k, ls with
  | 0, [] => GW p l e (rmm 0) s m args below meth c G E 3 (MQ below (QR G E s.heap.size r) args s 0 0 (fr E s.heap.size)) 0 0 D 0 [(0, .ref (E.1 86)), (1, .ref (E.1 85))] []
  | 1, [x2] => GW p l e (rmm 0) s m args below meth c G E 3 (MQ below (QR G E s.heap.size r) args s 0 0 (fr E s.heap.size)) 0 0 D 2 [(0, .ref (E.1 86)), (1, .ref (E.1 85)), (2, .int x2)] []
  | _, _ => True
set_option maxRecDepth 100000 in
set_option maxHeartbeats 4000000 in
theorem bl_X13_lays_m_before_m_v_0 {p : Program} {l : Launch} {e : Env} {s : State} {m : MethodId} {args : Array Value} {below : List Frame} {meth : Method} {c : Code} {G : va_G} {E : EE} {r : RT} (X : CX p s m args meth c cX13_lays RX13 3 G E) (hr : meth.sig.returnType = none)  (D : DD) (o : (Nat × List Int32 × DD) ⊕ RT) (h : b_X13_lays_m_before_m_v_0  D = some o) (h1 : ∀ x, o = .inl x → hg_X13_lays_m_before_m_v p l e s m args below meth c G E r x.1 x.2.1 x.2.2) (h2 : ∀ x, o = .inr x → x = r) : GW p l e (rmm 0) s m args below meth c G E 3 (MQ below (QR G E s.heap.size r) args s 0 0 (fr E s.heap.size)) 0 0 D 0 [(0, .ref (E.1 86)), (1, .ref (E.1 85))] [] := by
  unfold b_X13_lays_m_before_m_v_0 at h
  refine g_iconst X (v := (0 : Int32)) dX13_lays_0 (by decide) ?_
  refine g_istore_n X (i0 := 2) (lv' := [(2, .int (0 : Int32)), (0, .ref (E.1 86)), (1, .ref (E.1 85))]) dX13_lays_1 rfl (by decide) rfl ?_
  refine g_sub (lv' := [(0, .ref (E.1 86)), (1, .ref (E.1 85)), (2, .int (0 : Int32))]) [1, 2, 0] rfl ?_
  exact h1 _ (Option.some.inj h).symm
set_option maxRecDepth 100000 in
set_option maxHeartbeats 4000000 in
theorem bl_X13_lays_m_before_m_v_1 {p : Program} {l : Launch} {e : Env} {s : State} {m : MethodId} {args : Array Value} {below : List Frame} {meth : Method} {c : Code} {G : va_G} {E : EE} {r : RT} (X : CX p s m args meth c cX13_lays RX13 3 G E) (hr : meth.sig.returnType = none) (x2 : Int32) (D : DD) (o : (Nat × List Int32 × DD) ⊕ RT) (h : b_X13_lays_m_before_m_v_1 x2 D = some o) (h1 : ∀ x, o = .inl x → hg_X13_lays_m_before_m_v p l e s m args below meth c G E r x.1 x.2.1 x.2.2) (h2 : ∀ x, o = .inr x → x = r) : GW p l e (rmm 0) s m args below meth c G E 3 (MQ below (QR G E s.heap.size r) args s 0 0 (fr E s.heap.size)) 0 0 D 2 [(0, .ref (E.1 86)), (1, .ref (E.1 85)), (2, .int x2)] [] := by
  unfold b_X13_lays_m_before_m_v_1 at h
  refine g_iload_n X 2 (i0 := 2) dX13_lays_2 rfl rfl ?_
  refine g_bipush X (v := (62 : Int32)) dX13_lays_3 (by decide) ?_
  refine g_icmp_ge X (tgt := 20) dX13_lays_5 (by decide) (fun c3 => ?_) (fun c3 => ?_)
  · have h := (ite_s h).1 c3
    exact g_vret X hr dX13_lays_20 (h2 _ (Option.some.inj h).symm)
  · have h := (ite_s h).2 c3
    refine g_aload_n X 0 (i0 := 0) dX13_lays_8 rfl rfl ?_
    refine g_iload_n X 2 (i0 := 2) dX13_lays_9 rfl rfl ?_
    refine g_aload_n X 1 (i0 := 1) dX13_lays_10 rfl rfl ?_
    refine g_iload_n X 2 (i0 := 2) dX13_lays_11 rfl rfl ?_
    obtain ⟨b1, h⟩ := chk_s h
    refine g_iald X (D := D) (f := (D.2.2.1 70)) (i := x2) 85 (wg_85 E _) (inB_vp b1) dX13_lays_12 ?_
    obtain ⟨b2, h⟩ := chk_s h
    refine g_iast X (D := D) (f := (D.2.2.1 71)) (i := x2) (x := ((D.2.2.1 70) x2.toNatClampNeg)) (D' := (setA D 71 (upd (D.2.2.1 71) x2.toNatClampNeg ((D.2.2.1 70) x2.toNatClampNeg)))) 86 (wg_86 E _) (inB_vp b2) (ws_A_71 E _ _) dX13_lays_13 ?_
    refine g_iinc X 2 (v := (x2 + (1 : Int32))) (lv' := [(2, .int (x2 + (1 : Int32))), (0, .ref (E.1 86)), (1, .ref (E.1 85))]) dX13_lays_14 rfl rfl (by decide) rfl ?_
    refine g_goto X (tgt := 2) dX13_lays_17 (by decide) ?_
    refine g_sub (lv' := [(0, .ref (E.1 86)), (1, .ref (E.1 85)), (2, .int (x2 + (1 : Int32)))]) [1, 2, 0] rfl ?_
    exact h1 _ (Option.some.inj h).symm
set_option maxRecDepth 100000 in
set_option maxHeartbeats 4000000 in
theorem c_X13_lays_m_before_m_v (l : Launch) (G : va_G) (E : EE)  (D : DD) (r : RT) (h : S_X13_lays_m_before_m_v  D = some r) : MM l G E yX13_lays cX13_lays 3 none (rmm 0) [.ref (E.1 86), .ref (E.1 85)] D r := by
  unfold S_X13_lays_m_before_m_v at h
  refine m_of rfl (Nat.le_of_ble_eq_true rfl) ?_
  intro p e s m args below meth c X hr
  exact run_G (T := T_X13_lays_m_before_m_v) (HG := hg_X13_lays_m_before_m_v p l e s m args below meth c G E r) (by
    intro k ls D o hT h1 h2
    unfold T_X13_lays_m_before_m_v at hT
    split at hT
    · exact bl_X13_lays_m_before_m_v_0 X hr  D o hT h1 h2
    · exact bl_X13_lays_m_before_m_v_1 X hr _ D o hT h1 h2
    · cases hT) FUEL 0 [] D h
theorem fl_X13_16 : Cond.fieldLink RX13 16 "StoneQuarryModel" "v" "[I" ∈ UT := ut 1355 (by decide +kernel) (by decide +kernel)
theorem fl_X13_20 : Cond.fieldLink RX13 20 "StoneQuarryModel" "before" "[I" ∈ UT := ut 1356 (by decide +kernel) (by decide +kernel)
theorem hd_X13_lays : yX13_lays.cls ≠ "java/lang/invoke/MethodHandle" ∧ yX13_lays.cls ≠ "java/lang/invoke/VarHandle" ∧ (parseMethodDescriptor yX13_lays.desc).map (fun d => d.parameters.length) = some 2 := by decide +kernel
theorem wc_X13_lays : Cond.code yX13_lays cX13_lays 3 none ∈ UT := ut 1440 (by decide +kernel) (by decide +kernel)
theorem wi_RX13 : Cond.initialized RX13 ∈ UT := ut 87 (by decide +kernel) (by decide +kernel)
theorem wt_X13_lays : Cond.static yX13_lays ∈ UT := ut 1439 (by decide +kernel) (by decide +kernel)
theorem ks_X13_62 : GoodIn UT (va_wsS RX13 62 yX13_lays (Cond.code yX13_lays cX13_lays 3 none :: UT)) := gu_S (ut 1438 (by decide +kernel) (by decide +kernel)) wt_X13_lays wi_RX13 wc_X13_lays
def S_X13_begins  (D : DD) : Option RT := (cV (S_X13_lays_m_before_m_v (setI D 140 (0 : Int32))) (fun D2 => some (0, none, D2)))
set_option maxRecDepth 100000 in
set_option maxHeartbeats 4000000 in
theorem c_X13_begins (l : Launch) (G : va_G) (E : EE)  (D : DD) (r : RT) (h : S_X13_begins  D = some r) : MM l G E yX13_begins cX13_begins 1 none (rmm 1) [.ref (E.1 84)] D r := by
  refine m_of rfl (Nat.le_of_ble_eq_true rfl) ?_
  intro p e s m args below meth c X hr
  unfold S_X13_begins at h
  refine g_aload_n X 0 (i0 := 0) dX13_begins_0 rfl rfl ?_
  refine g_iconst X (v := (0 : Int32)) dX13_begins_1 (by decide) ?_
  refine g_put X (D := D) (v := .int (0 : Int32)) (T := TX13) (D' := (setI D 140 (0 : Int32))) 84 uX13 tyX13 tyX13_ok nmX13 (wg_84 E _) rfl 0 (by decide) fl_X13_59 rfl rfl rfl rfl (Nat.le_of_ble_eq_true rfl) (ws_I_140 E _ _) dX13_begins_2 ?_
  refine g_aload_n X 0 (i0 := 0) dX13_begins_5 rfl rfl ?_
  refine g_get X (D := (setI D 140 (0 : Int32))) (v := .ref (E.1 86)) (T := TX13) 84 uX13 (wg_84 E _) rfl 6 (by decide) fl_X13_20 rfl rfl dX13_begins_6 ?_
  refine g_aload_n X 0 (i0 := 0) dX13_begins_9 rfl rfl ?_
  refine g_get X (D := (setI D 140 (0 : Int32))) (v := .ref (E.1 85)) (T := TX13) 84 uX13 (wg_84 E _) rfl 5 (by decide) fl_X13_16 rfl rfl dX13_begins_10 ?_
  obtain ⟨D2, e1, h⟩ := cV_s h
  refine g_S X (As := [.ref (E.1 86), .ref (E.1 85)]) (rest := []) (c_X13_lays_m_before_m_v l G E  _ _ e1) ks_X13_62 ⟨rfl, rfl⟩ hd_X13_lays (⟨Nat.le_of_ble_eq_true rfl, Nat.le_of_ble_eq_true rfl⟩) rfl rfl (Nat.le_of_ble_eq_true rfl) dX13_begins_13 ?_
  exact g_vret X hr dX13_begins_16 (Option.some.inj h)
theorem ws_A_70 (E : EE) (D : DD) (f : Nat → Int32) : (wd E D).set 85 (E.1 85, .inl (E.2 0, 62, .inl f)) = wd E (setA D 70 f) := rfl
def b_X13_lays_m_v_m_before_0  (D : DD) : Option ((Nat × List Int32 × DD) ⊕ RT) := some (.inl (1, [(0 : Int32)], D))
def b_X13_lays_m_v_m_before_1 (x2 : Int32) (D : DD) : Option ((Nat × List Int32 × DD) ⊕ RT) := (if (62 : Int32) ≤ x2 then some (.inr (0, none, D)) else (if inB x2 62 = true then (if inB x2 62 = true then some (.inl (1, [(x2 + (1 : Int32))], (setA D 70 (upd (D.2.2.1 70) x2.toNatClampNeg ((D.2.2.1 71) x2.toNatClampNeg))))) else none) else none))
def T_X13_lays_m_v_m_before (k : Nat) (ls : List Int32) (D : DD) : Option ((Nat × List Int32 × DD) ⊕ RT) := match k, ls with
  | 0, [] => b_X13_lays_m_v_m_before_0  D
  | 1, [x2] => b_X13_lays_m_v_m_before_1 x2 D
  | _, _ => none
def S_X13_lays_m_v_m_before  (D : DD) : Option RT := run T_X13_lays_m_v_m_before FUEL 0 [] D
def hg_X13_lays_m_v_m_before (p : Program) (l : Launch) (e : Env) (s : State) (m : MethodId) (args : Array Value) (below : List Frame) (meth : Method) (c : Code) (G : va_G) (E : EE) (r : RT) (k : Nat) (ls : List Int32) (D : DD) : Prop := match k, ls with
  | 0, [] => GW p l e (rmm 0) s m args below meth c G E 3 (MQ below (QR G E s.heap.size r) args s 0 0 (fr E s.heap.size)) 0 0 D 0 [(0, .ref (E.1 85)), (1, .ref (E.1 86))] []
  | 1, [x2] => GW p l e (rmm 0) s m args below meth c G E 3 (MQ below (QR G E s.heap.size r) args s 0 0 (fr E s.heap.size)) 0 0 D 2 [(0, .ref (E.1 85)), (1, .ref (E.1 86)), (2, .int x2)] []
  | _, _ => True
set_option maxRecDepth 100000 in
set_option maxHeartbeats 4000000 in
theorem bl_X13_lays_m_v_m_before_0 {p : Program} {l : Launch} {e : Env} {s : State} {m : MethodId} {args : Array Value} {below : List Frame} {meth : Method} {c : Code} {G : va_G} {E : EE} {r : RT} (X : CX p s m args meth c cX13_lays RX13 3 G E) (hr : meth.sig.returnType = none)  (D : DD) (o : (Nat × List Int32 × DD) ⊕ RT) (h : b_X13_lays_m_v_m_before_0  D = some o) (h1 : ∀ x, o = .inl x → hg_X13_lays_m_v_m_before p l e s m args below meth c G E r x.1 x.2.1 x.2.2) (h2 : ∀ x, o = .inr x → x = r) : GW p l e (rmm 0) s m args below meth c G E 3 (MQ below (QR G E s.heap.size r) args s 0 0 (fr E s.heap.size)) 0 0 D 0 [(0, .ref (E.1 85)), (1, .ref (E.1 86))] [] := by
  unfold b_X13_lays_m_v_m_before_0 at h
  refine g_iconst X (v := (0 : Int32)) dX13_lays_0 (by decide) ?_
  refine g_istore_n X (i0 := 2) (lv' := [(2, .int (0 : Int32)), (0, .ref (E.1 85)), (1, .ref (E.1 86))]) dX13_lays_1 rfl (by decide) rfl ?_
  refine g_sub (lv' := [(0, .ref (E.1 85)), (1, .ref (E.1 86)), (2, .int (0 : Int32))]) [1, 2, 0] rfl ?_
  exact h1 _ (Option.some.inj h).symm
set_option maxRecDepth 100000 in
set_option maxHeartbeats 4000000 in
theorem bl_X13_lays_m_v_m_before_1 {p : Program} {l : Launch} {e : Env} {s : State} {m : MethodId} {args : Array Value} {below : List Frame} {meth : Method} {c : Code} {G : va_G} {E : EE} {r : RT} (X : CX p s m args meth c cX13_lays RX13 3 G E) (hr : meth.sig.returnType = none) (x2 : Int32) (D : DD) (o : (Nat × List Int32 × DD) ⊕ RT) (h : b_X13_lays_m_v_m_before_1 x2 D = some o) (h1 : ∀ x, o = .inl x → hg_X13_lays_m_v_m_before p l e s m args below meth c G E r x.1 x.2.1 x.2.2) (h2 : ∀ x, o = .inr x → x = r) : GW p l e (rmm 0) s m args below meth c G E 3 (MQ below (QR G E s.heap.size r) args s 0 0 (fr E s.heap.size)) 0 0 D 2 [(0, .ref (E.1 85)), (1, .ref (E.1 86)), (2, .int x2)] [] := by
  unfold b_X13_lays_m_v_m_before_1 at h
  refine g_iload_n X 2 (i0 := 2) dX13_lays_2 rfl rfl ?_
  refine g_bipush X (v := (62 : Int32)) dX13_lays_3 (by decide) ?_
  refine g_icmp_ge X (tgt := 20) dX13_lays_5 (by decide) (fun c3 => ?_) (fun c3 => ?_)
  · have h := (ite_s h).1 c3
    exact g_vret X hr dX13_lays_20 (h2 _ (Option.some.inj h).symm)
  · have h := (ite_s h).2 c3
    refine g_aload_n X 0 (i0 := 0) dX13_lays_8 rfl rfl ?_
    refine g_iload_n X 2 (i0 := 2) dX13_lays_9 rfl rfl ?_
    refine g_aload_n X 1 (i0 := 1) dX13_lays_10 rfl rfl ?_
    refine g_iload_n X 2 (i0 := 2) dX13_lays_11 rfl rfl ?_
    obtain ⟨b1, h⟩ := chk_s h
    refine g_iald X (D := D) (f := (D.2.2.1 71)) (i := x2) 86 (wg_86 E _) (inB_vp b1) dX13_lays_12 ?_
    obtain ⟨b2, h⟩ := chk_s h
    refine g_iast X (D := D) (f := (D.2.2.1 70)) (i := x2) (x := ((D.2.2.1 71) x2.toNatClampNeg)) (D' := (setA D 70 (upd (D.2.2.1 70) x2.toNatClampNeg ((D.2.2.1 71) x2.toNatClampNeg)))) 85 (wg_85 E _) (inB_vp b2) (ws_A_70 E _ _) dX13_lays_13 ?_
    refine g_iinc X 2 (v := (x2 + (1 : Int32))) (lv' := [(2, .int (x2 + (1 : Int32))), (0, .ref (E.1 85)), (1, .ref (E.1 86))]) dX13_lays_14 rfl rfl (by decide) rfl ?_
    refine g_goto X (tgt := 2) dX13_lays_17 (by decide) ?_
    refine g_sub (lv' := [(0, .ref (E.1 85)), (1, .ref (E.1 86)), (2, .int (x2 + (1 : Int32)))]) [1, 2, 0] rfl ?_
    exact h1 _ (Option.some.inj h).symm
set_option maxRecDepth 100000 in
set_option maxHeartbeats 4000000 in
theorem c_X13_lays_m_v_m_before (l : Launch) (G : va_G) (E : EE)  (D : DD) (r : RT) (h : S_X13_lays_m_v_m_before  D = some r) : MM l G E yX13_lays cX13_lays 3 none (rmm 0) [.ref (E.1 85), .ref (E.1 86)] D r := by
  unfold S_X13_lays_m_v_m_before at h
  refine m_of rfl (Nat.le_of_ble_eq_true rfl) ?_
  intro p e s m args below meth c X hr
  exact run_G (T := T_X13_lays_m_v_m_before) (HG := hg_X13_lays_m_v_m_before p l e s m args below meth c G E r) (by
    intro k ls D o hT h1 h2
    unfold T_X13_lays_m_v_m_before at hT
    split at hT
    · exact bl_X13_lays_m_v_m_before_0 X hr  D o hT h1 h2
    · exact bl_X13_lays_m_v_m_before_1 X hr _ D o hT h1 h2
    · cases hT) FUEL 0 [] D h
theorem fl_X13_26 : Cond.fieldLink RX13 26 "StoneQuarryModel" "past" "[I" ∈ UT := ut 1358 (by decide +kernel) (by decide +kernel)
theorem fl_X13_66 : Cond.fieldLink RX13 66 "StoneQuarryModel" "changes" "I" ∈ UT := ut 1351 (by decide +kernel) (by decide +kernel)
theorem wg_88 (E : EE) (D : DD) : (wd E D)[88]? = some (E.1 88, .inl (E.2 0, 496, .inl (D.2.2.1 73))) := rfl
theorem ws_A_73 (E : EE) (D : DD) (f : Nat → Int32) : (wd E D).set 88 (E.1 88, .inl (E.2 0, 496, .inl f)) = wd E (setA D 73 f) := rfl
theorem ws_I_141 (E : EE) (D : DD) (v : Int32) : (wd E D).set 84 (E.1 84, .inr (13, [.int (D.1 140), .int v, .int (D.1 142), .int (D.1 143), .int (D.1 144), .ref (E.1 85), .ref (E.1 86), .ref (E.1 87), .ref (E.1 88), .ref (E.1 89), .ref (E.1 90), .ref (E.1 91), .ref (E.1 92), .ref (E.1 93), .ref (E.1 94), .ref (E.1 95), .ref (E.1 96), .ref (E.1 97), .ref (E.1 98), .int (D.1 145), .int (D.1 146), .int (D.1 147), .int (D.1 148), .int (D.1 149), .int (D.1 150)])) = wd E (setI D 141 v) := rfl
def b_X13_ends_0 (a0 : Int32) (D : DD) : Option ((Nat × List Int32 × DD) ⊕ RT) := (if (D.1 140) = 0 then (if (D.1 141) = (8 : Int32) then some (.inl (1, [a0, (0 : Int32)], D)) else some (.inl (2, [a0, (0 : Int32)], D))) else (cV (S_X13_lays_m_v_m_before D) (fun D3 => some (.inr (0, some (.int (0 : Int32)), D3)))))
def b_X13_ends_1 (x1 : Int32) (x2 : Int32) (D : DD) : Option ((Nat × List Int32 × DD) ⊕ RT) := (if (434 : Int32) ≤ x2 then some (.inl (2, [x1, (0 : Int32)], (setI D 141 ((D.1 141) - (1 : Int32))))) else (if inB (x2 + (62 : Int32)) 496 = true then (if inB x2 496 = true then some (.inl (1, [x1, (x2 + (1 : Int32))], (setA D 73 (upd (D.2.2.1 73) x2.toNatClampNeg ((D.2.2.1 73) (x2 + (62 : Int32)).toNatClampNeg))))) else none) else none))
def b_X13_ends_2 (x1 : Int32) (x2 : Int32) (D : DD) : Option ((Nat × List Int32 × DD) ⊕ RT) := (if (62 : Int32) ≤ x2 then some (.inr (0, some (.int x1), (setI D 141 ((D.1 141) + (1 : Int32))))) else (if inB x2 62 = true then (if inB (((D.1 141) * (62 : Int32)) + x2) 496 = true then some (.inl (2, [x1, (x2 + (1 : Int32))], (setA D 73 (upd (D.2.2.1 73) (((D.1 141) * (62 : Int32)) + x2).toNatClampNeg ((D.2.2.1 71) x2.toNatClampNeg))))) else none) else none))
def T_X13_ends (k : Nat) (ls : List Int32) (D : DD) : Option ((Nat × List Int32 × DD) ⊕ RT) := match k, ls with
  | 0, [a0] => b_X13_ends_0 a0 D
  | 1, [x1, x2] => b_X13_ends_1 x1 x2 D
  | 2, [x1, x2] => b_X13_ends_2 x1 x2 D
  | _, _ => none
def S_X13_ends (a0 : Int32) (D : DD) : Option RT := run T_X13_ends FUEL 0 [a0] D
def hg_X13_ends (p : Program) (l : Launch) (e : Env) (s : State) (m : MethodId) (args : Array Value) (below : List Frame) (meth : Method) (c : Code) (G : va_G) (E : EE) (r : RT) (k : Nat) (ls : List Int32) (D : DD) : Prop := match k, ls with
  | 0, [a0] => GW p l e (rmm 1) s m args below meth c G E 3 (MQ below (QR G E s.heap.size r) args s 0 0 (fr E s.heap.size)) 0 0 D 0 [(0, .ref (E.1 84)), (1, .int a0)] []
  | 1, [x1, x2] => GW p l e (rmm 1) s m args below meth c G E 3 (MQ below (QR G E s.heap.size r) args s 0 0 (fr E s.heap.size)) 0 0 D 31 [(0, .ref (E.1 84)), (1, .int x1), (2, .int x2)] []
  | 2, [x1, x2] => GW p l e (rmm 1) s m args below meth c G E 3 (MQ below (QR G E s.heap.size r) args s 0 0 (fr E s.heap.size)) 0 0 D 71 [(0, .ref (E.1 84)), (1, .int x1), (2, .int x2)] []
  | _, _ => True
set_option maxRecDepth 100000 in
set_option maxHeartbeats 4000000 in
theorem bl_X13_ends_0 {p : Program} {l : Launch} {e : Env} {s : State} {m : MethodId} {args : Array Value} {below : List Frame} {meth : Method} {c : Code} {G : va_G} {E : EE} {r : RT} (X : CX p s m args meth c cX13_ends RX13 3 G E) (hr : meth.sig.returnType = (some .int)) (a0 : Int32) (D : DD) (o : (Nat × List Int32 × DD) ⊕ RT) (h : b_X13_ends_0 a0 D = some o) (h1 : ∀ x, o = .inl x → hg_X13_ends p l e s m args below meth c G E r x.1 x.2.1 x.2.2) (h2 : ∀ x, o = .inr x → x = r) : GW p l e (rmm 1) s m args below meth c G E 3 (MQ below (QR G E s.heap.size r) args s 0 0 (fr E s.heap.size)) 0 0 D 0 [(0, .ref (E.1 84)), (1, .int a0)] [] := by
  unfold b_X13_ends_0 at h
  refine g_aload_n X 0 (i0 := 0) dX13_ends_0 rfl rfl ?_
  refine g_get X (D := D) (v := .int (D.1 140)) (T := TX13) 84 uX13 (wg_84 E _) rfl 0 (by decide) fl_X13_59 rfl rfl dX13_ends_1 ?_
  refine g_if_eq X (tgt := 20) dX13_ends_4 (by decide) (fun c4 => ?_) (fun c4 => ?_)
  · have h := (ite_s h).1 c4
    refine g_aload_n X 0 (i0 := 0) dX13_ends_20 rfl rfl ?_
    refine g_get X (D := D) (v := .int (D.1 141)) (T := TX13) 84 uX13 (wg_84 E _) rfl 1 (by decide) fl_X13_66 rfl rfl dX13_ends_21 ?_
    refine g_bipush X (v := (8 : Int32)) dX13_ends_24 (by decide) ?_
    refine g_icmp_ne X (tgt := 69) dX13_ends_26 (by decide) (fun c1 => ?_) (fun c1 => ?_)
    · have h := (ite_s h).2 c1
      refine g_iconst X (v := (0 : Int32)) dX13_ends_69 (by decide) ?_
      refine g_istore_n X (i0 := 2) (lv' := [(2, .int (0 : Int32)), (0, .ref (E.1 84)), (1, .int a0)]) dX13_ends_70 rfl (by decide) rfl ?_
      refine g_sub (lv' := [(0, .ref (E.1 84)), (1, .int a0), (2, .int (0 : Int32))]) [1, 2, 0] rfl ?_
      exact h1 _ (Option.some.inj h).symm
    · have h := (ite_s h).1 c1
      refine g_iconst X (v := (0 : Int32)) dX13_ends_29 (by decide) ?_
      refine g_istore_n X (i0 := 2) (lv' := [(2, .int (0 : Int32)), (0, .ref (E.1 84)), (1, .int a0)]) dX13_ends_30 rfl (by decide) rfl ?_
      refine g_sub (lv' := [(0, .ref (E.1 84)), (1, .int a0), (2, .int (0 : Int32))]) [1, 2, 0] rfl ?_
      exact h1 _ (Option.some.inj h).symm
  · have h := (ite_s h).2 c4
    refine g_aload_n X 0 (i0 := 0) dX13_ends_7 rfl rfl ?_
    refine g_get X (D := D) (v := .ref (E.1 85)) (T := TX13) 84 uX13 (wg_84 E _) rfl 5 (by decide) fl_X13_16 rfl rfl dX13_ends_8 ?_
    refine g_aload_n X 0 (i0 := 0) dX13_ends_11 rfl rfl ?_
    refine g_get X (D := D) (v := .ref (E.1 86)) (T := TX13) 84 uX13 (wg_84 E _) rfl 6 (by decide) fl_X13_20 rfl rfl dX13_ends_12 ?_
    obtain ⟨D3, e2, h⟩ := cV_s h
    refine g_S X (As := [.ref (E.1 85), .ref (E.1 86)]) (rest := []) (c_X13_lays_m_v_m_before l G E  _ _ e2) ks_X13_62 ⟨rfl, rfl⟩ hd_X13_lays (⟨Nat.le_of_ble_eq_true rfl, Nat.le_of_ble_eq_true rfl⟩) rfl rfl (Nat.le_of_ble_eq_true rfl) dX13_ends_15 ?_
    refine g_iconst X (v := (0 : Int32)) dX13_ends_18 (by decide) ?_
    exact g_iret X hr rfl dX13_ends_19 (h2 _ (Option.some.inj h).symm)
set_option maxRecDepth 100000 in
set_option maxHeartbeats 4000000 in
theorem bl_X13_ends_1 {p : Program} {l : Launch} {e : Env} {s : State} {m : MethodId} {args : Array Value} {below : List Frame} {meth : Method} {c : Code} {G : va_G} {E : EE} {r : RT} (X : CX p s m args meth c cX13_ends RX13 3 G E) (hr : meth.sig.returnType = (some .int)) (x1 : Int32) (x2 : Int32) (D : DD) (o : (Nat × List Int32 × DD) ⊕ RT) (h : b_X13_ends_1 x1 x2 D = some o) (h1 : ∀ x, o = .inl x → hg_X13_ends p l e s m args below meth c G E r x.1 x.2.1 x.2.2) (h2 : ∀ x, o = .inr x → x = r) : GW p l e (rmm 1) s m args below meth c G E 3 (MQ below (QR G E s.heap.size r) args s 0 0 (fr E s.heap.size)) 0 0 D 31 [(0, .ref (E.1 84)), (1, .int x1), (2, .int x2)] [] := by
  unfold b_X13_ends_1 at h
  refine g_iload_n X 2 (i0 := 2) dX13_ends_31 rfl rfl ?_
  refine g_sipush X (v := (434 : Int32)) dX13_ends_32 (by decide) ?_
  refine g_icmp_ge X (tgt := 59) dX13_ends_35 (by decide) (fun c10 => ?_) (fun c10 => ?_)
  · have h := (ite_s h).1 c10
    refine g_aload_n X 0 (i0 := 0) dX13_ends_59 rfl rfl ?_
    refine g_dup X dX13_ends_60 rfl ?_
    refine g_get X (D := D) (v := .int (D.1 141)) (T := TX13) 84 uX13 (wg_84 E _) rfl 1 (by decide) fl_X13_66 rfl rfl dX13_ends_61 ?_
    refine g_iconst X (v := (1 : Int32)) dX13_ends_64 (by decide) ?_
    refine g_isub X dX13_ends_65 ?_
    refine g_put X (D := D) (v := .int ((D.1 141) - (1 : Int32))) (T := TX13) (D' := (setI D 141 ((D.1 141) - (1 : Int32)))) 84 uX13 tyX13 tyX13_ok nmX13 (wg_84 E _) rfl 1 (by decide) fl_X13_66 rfl rfl rfl rfl (Nat.le_of_ble_eq_true rfl) (ws_I_141 E _ _) dX13_ends_66 ?_
    refine g_iconst X (v := (0 : Int32)) dX13_ends_69 (by decide) ?_
    refine g_istore_n X (i0 := 2) (lv' := [(2, .int (0 : Int32)), (0, .ref (E.1 84)), (1, .int x1)]) dX13_ends_70 rfl (by decide) rfl ?_
    refine g_sub (lv' := [(0, .ref (E.1 84)), (1, .int x1), (2, .int (0 : Int32))]) [1, 2, 0] rfl ?_
    exact h1 _ (Option.some.inj h).symm
  · have h := (ite_s h).2 c10
    refine g_aload_n X 0 (i0 := 0) dX13_ends_38 rfl rfl ?_
    refine g_get X (D := D) (v := .ref (E.1 88)) (T := TX13) 84 uX13 (wg_84 E _) rfl 8 (by decide) fl_X13_26 rfl rfl dX13_ends_39 ?_
    refine g_iload_n X 2 (i0 := 2) dX13_ends_42 rfl rfl ?_
    refine g_aload_n X 0 (i0 := 0) dX13_ends_43 rfl rfl ?_
    refine g_get X (D := D) (v := .ref (E.1 88)) (T := TX13) 84 uX13 (wg_84 E _) rfl 8 (by decide) fl_X13_26 rfl rfl dX13_ends_44 ?_
    refine g_iload_n X 2 (i0 := 2) dX13_ends_47 rfl rfl ?_
    refine g_bipush X (v := (62 : Int32)) dX13_ends_48 (by decide) ?_
    refine g_iadd X dX13_ends_50 ?_
    obtain ⟨b8, h⟩ := chk_s h
    refine g_iald X (D := D) (f := (D.2.2.1 73)) (i := (x2 + (62 : Int32))) 88 (wg_88 E _) (inB_vp b8) dX13_ends_51 ?_
    obtain ⟨b9, h⟩ := chk_s h
    refine g_iast X (D := D) (f := (D.2.2.1 73)) (i := x2) (x := ((D.2.2.1 73) (x2 + (62 : Int32)).toNatClampNeg)) (D' := (setA D 73 (upd (D.2.2.1 73) x2.toNatClampNeg ((D.2.2.1 73) (x2 + (62 : Int32)).toNatClampNeg)))) 88 (wg_88 E _) (inB_vp b9) (ws_A_73 E _ _) dX13_ends_52 ?_
    refine g_iinc X 2 (v := (x2 + (1 : Int32))) (lv' := [(2, .int (x2 + (1 : Int32))), (0, .ref (E.1 84)), (1, .int x1)]) dX13_ends_53 rfl rfl (by decide) rfl ?_
    refine g_goto X (tgt := 31) dX13_ends_56 (by decide) ?_
    refine g_sub (lv' := [(0, .ref (E.1 84)), (1, .int x1), (2, .int (x2 + (1 : Int32)))]) [1, 2, 0] rfl ?_
    exact h1 _ (Option.some.inj h).symm
set_option maxRecDepth 100000 in
set_option maxHeartbeats 4000000 in
theorem bl_X13_ends_2 {p : Program} {l : Launch} {e : Env} {s : State} {m : MethodId} {args : Array Value} {below : List Frame} {meth : Method} {c : Code} {G : va_G} {E : EE} {r : RT} (X : CX p s m args meth c cX13_ends RX13 3 G E) (hr : meth.sig.returnType = (some .int)) (x1 : Int32) (x2 : Int32) (D : DD) (o : (Nat × List Int32 × DD) ⊕ RT) (h : b_X13_ends_2 x1 x2 D = some o) (h1 : ∀ x, o = .inl x → hg_X13_ends p l e s m args below meth c G E r x.1 x.2.1 x.2.2) (h2 : ∀ x, o = .inr x → x = r) : GW p l e (rmm 1) s m args below meth c G E 3 (MQ below (QR G E s.heap.size r) args s 0 0 (fr E s.heap.size)) 0 0 D 71 [(0, .ref (E.1 84)), (1, .int x1), (2, .int x2)] [] := by
  unfold b_X13_ends_2 at h
  refine g_iload_n X 2 (i0 := 2) dX13_ends_71 rfl rfl ?_
  refine g_bipush X (v := (62 : Int32)) dX13_ends_72 (by decide) ?_
  refine g_icmp_ge X (tgt := 103) dX13_ends_74 (by decide) (fun c7 => ?_) (fun c7 => ?_)
  · have h := (ite_s h).1 c7
    refine g_aload_n X 0 (i0 := 0) dX13_ends_103 rfl rfl ?_
    refine g_dup X dX13_ends_104 rfl ?_
    refine g_get X (D := D) (v := .int (D.1 141)) (T := TX13) 84 uX13 (wg_84 E _) rfl 1 (by decide) fl_X13_66 rfl rfl dX13_ends_105 ?_
    refine g_iconst X (v := (1 : Int32)) dX13_ends_108 (by decide) ?_
    refine g_iadd X dX13_ends_109 ?_
    refine g_put X (D := D) (v := .int ((D.1 141) + (1 : Int32))) (T := TX13) (D' := (setI D 141 ((D.1 141) + (1 : Int32)))) 84 uX13 tyX13 tyX13_ok nmX13 (wg_84 E _) rfl 1 (by decide) fl_X13_66 rfl rfl rfl rfl (Nat.le_of_ble_eq_true rfl) (ws_I_141 E _ _) dX13_ends_110 ?_
    refine g_iload_n X 1 (i0 := 1) dX13_ends_113 rfl rfl ?_
    exact g_iret X hr rfl dX13_ends_114 (h2 _ (Option.some.inj h).symm)
  · have h := (ite_s h).2 c7
    refine g_aload_n X 0 (i0 := 0) dX13_ends_77 rfl rfl ?_
    refine g_get X (D := D) (v := .ref (E.1 88)) (T := TX13) 84 uX13 (wg_84 E _) rfl 8 (by decide) fl_X13_26 rfl rfl dX13_ends_78 ?_
    refine g_aload_n X 0 (i0 := 0) dX13_ends_81 rfl rfl ?_
    refine g_get X (D := D) (v := .int (D.1 141)) (T := TX13) 84 uX13 (wg_84 E _) rfl 1 (by decide) fl_X13_66 rfl rfl dX13_ends_82 ?_
    refine g_bipush X (v := (62 : Int32)) dX13_ends_85 (by decide) ?_
    refine g_imul X dX13_ends_87 ?_
    refine g_iload_n X 2 (i0 := 2) dX13_ends_88 rfl rfl ?_
    refine g_iadd X dX13_ends_89 ?_
    refine g_aload_n X 0 (i0 := 0) dX13_ends_90 rfl rfl ?_
    refine g_get X (D := D) (v := .ref (E.1 86)) (T := TX13) 84 uX13 (wg_84 E _) rfl 6 (by decide) fl_X13_20 rfl rfl dX13_ends_91 ?_
    refine g_iload_n X 2 (i0 := 2) dX13_ends_94 rfl rfl ?_
    obtain ⟨b5, h⟩ := chk_s h
    refine g_iald X (D := D) (f := (D.2.2.1 71)) (i := x2) 86 (wg_86 E _) (inB_vp b5) dX13_ends_95 ?_
    obtain ⟨b6, h⟩ := chk_s h
    refine g_iast X (D := D) (f := (D.2.2.1 73)) (i := (((D.1 141) * (62 : Int32)) + x2)) (x := ((D.2.2.1 71) x2.toNatClampNeg)) (D' := (setA D 73 (upd (D.2.2.1 73) (((D.1 141) * (62 : Int32)) + x2).toNatClampNeg ((D.2.2.1 71) x2.toNatClampNeg)))) 88 (wg_88 E _) (inB_vp b6) (ws_A_73 E _ _) dX13_ends_96 ?_
    refine g_iinc X 2 (v := (x2 + (1 : Int32))) (lv' := [(2, .int (x2 + (1 : Int32))), (0, .ref (E.1 84)), (1, .int x1)]) dX13_ends_97 rfl rfl (by decide) rfl ?_
    refine g_goto X (tgt := 71) dX13_ends_100 (by decide) ?_
    refine g_sub (lv' := [(0, .ref (E.1 84)), (1, .int x1), (2, .int (x2 + (1 : Int32)))]) [1, 2, 0] rfl ?_
    exact h1 _ (Option.some.inj h).symm
set_option maxRecDepth 100000 in
set_option maxHeartbeats 4000000 in
theorem c_X13_ends (l : Launch) (G : va_G) (E : EE) (a0 : Int32) (D : DD) (r : RT) (h : S_X13_ends a0 D = some r) : MM l G E yX13_ends cX13_ends 3 (some .int) (rmm 1) [.ref (E.1 84), .int a0] D r := by
  unfold S_X13_ends at h
  refine m_of rfl (Nat.le_of_ble_eq_true rfl) ?_
  intro p e s m args below meth c X hr
  exact run_G (T := T_X13_ends) (HG := hg_X13_ends p l e s m args below meth c G E r) (by
    intro k ls D o hT h1 h2
    unfold T_X13_ends at hT
    split at hT
    · exact bl_X13_ends_0 X hr _ D o hT h1 h2
    · exact bl_X13_ends_1 X hr _ _ D o hT h1 h2
    · exact bl_X13_ends_2 X hr _ _ D o hT h1 h2
    · cases hT) FUEL 0 [a0] D h
theorem hd_X13_isIn : yX13_isIn.cls ≠ "java/lang/invoke/MethodHandle" ∧ yX13_isIn.cls ≠ "java/lang/invoke/VarHandle" ∧ (parseMethodDescriptor yX13_isIn.desc).map (fun d => d.parameters.length) = some 3 := by decide +kernel
theorem wc_X13_isIn : Cond.code yX13_isIn cX13_isIn 3 (some .boolean) ∈ UT := ut 1450 (by decide +kernel) (by decide +kernel)
theorem wt_X13_isIn : Cond.static yX13_isIn ∈ UT := ut 1449 (by decide +kernel) (by decide +kernel)
theorem ks_X13_69 : GoodIn UT (va_wsS RX13 69 yX13_isIn (Cond.code yX13_isIn cX13_isIn 3 (some .boolean) :: UT)) := gu_S (ut 1448 (by decide +kernel) (by decide +kernel)) wt_X13_isIn wi_RX13 wc_X13_isIn
def S_X13_isCell (a0 : Int32) (a1 : Int32) (D : DD) : Option RT := (cI (S_X13_isIn a0 (0 : Int32) (5 : Int32) D) (fun r3 D2 => (if r3 = 0 then some (0, some (.int (0 : Int32)), D2) else (cI (S_X13_isIn a1 (0 : Int32) (5 : Int32) D2) (fun r6 D5 => (if r6 = 0 then some (0, some (.int (0 : Int32)), D5) else some (0, some (.int (1 : Int32)), D5)))))))
set_option maxRecDepth 100000 in
set_option maxHeartbeats 4000000 in
theorem c_X13_isCell (l : Launch) (G : va_G) (E : EE) (a0 : Int32) (a1 : Int32) (D : DD) (r : RT) (h : S_X13_isCell a0 a1 D = some r) : MM l G E yX13_isCell cX13_isCell 2 (some .boolean) (rmm 1) [.int a0, .int a1] D r := by
  refine m_of rfl (Nat.le_of_ble_eq_true rfl) ?_
  intro p e s m args below meth c X hr
  unfold S_X13_isCell at h
  refine g_iload_n X 0 (i0 := 0) dX13_isCell_0 rfl rfl ?_
  refine g_iconst X (v := (0 : Int32)) dX13_isCell_1 (by decide) ?_
  refine g_iconst X (v := (5 : Int32)) dX13_isCell_2 (by decide) ?_
  obtain ⟨r3, D2, e1, h⟩ := cI_s h
  refine g_S X (As := [.int a0, .int (0 : Int32), .int (5 : Int32)]) (rest := []) (c_X13_isIn l G E a0 (0 : Int32) (5 : Int32) _ _ e1) ks_X13_69 ⟨rfl, rfl⟩ hd_X13_isIn (⟨Nat.le_of_ble_eq_true rfl, Nat.le_of_ble_eq_true rfl⟩) rfl rfl (Nat.le_of_ble_eq_true rfl) dX13_isCell_3 ?_
  refine g_if_eq X (tgt := 22) dX13_isCell_6 (by decide) (fun c8 => ?_) (fun c8 => ?_)
  · have h := (ite_s h).1 c8
    refine g_iconst X (v := (0 : Int32)) dX13_isCell_22 (by decide) ?_
    exact g_iret X hr rfl dX13_isCell_23 (Option.some.inj h)
  · have h := (ite_s h).2 c8
    refine g_iload_n X 1 (i0 := 1) dX13_isCell_9 rfl rfl ?_
    refine g_iconst X (v := (0 : Int32)) dX13_isCell_10 (by decide) ?_
    refine g_iconst X (v := (5 : Int32)) dX13_isCell_11 (by decide) ?_
    obtain ⟨r6, D5, e4, h⟩ := cI_s h
    refine g_S X (As := [.int a1, .int (0 : Int32), .int (5 : Int32)]) (rest := []) (c_X13_isIn l G E a1 (0 : Int32) (5 : Int32) _ _ e4) ks_X13_69 ⟨rfl, rfl⟩ hd_X13_isIn (⟨Nat.le_of_ble_eq_true rfl, Nat.le_of_ble_eq_true rfl⟩) rfl rfl (Nat.le_of_ble_eq_true rfl) dX13_isCell_12 ?_
    refine g_if_eq X (tgt := 22) dX13_isCell_15 (by decide) (fun c7 => ?_) (fun c7 => ?_)
    · have h := (ite_s h).1 c7
      refine g_iconst X (v := (0 : Int32)) dX13_isCell_22 (by decide) ?_
      exact g_iret X hr rfl dX13_isCell_23 (Option.some.inj h)
    · have h := (ite_s h).2 c7
      refine g_iconst X (v := (1 : Int32)) dX13_isCell_18 (by decide) ?_
      refine g_goto X (tgt := 23) dX13_isCell_19 (by decide) ?_
      exact g_iret X hr rfl dX13_isCell_23 (Option.some.inj h)
def S_X13_cell (a0 : Int32) (a1 : Int32) (D : DD) : Option RT := some (0, some (.int (((6 : Int32) * a0) + a1)), D)
set_option maxRecDepth 100000 in
set_option maxHeartbeats 4000000 in
theorem c_X13_cell (l : Launch) (G : va_G) (E : EE) (a0 : Int32) (a1 : Int32) (D : DD) (r : RT) (h : S_X13_cell a0 a1 D = some r) : MM l G E yX13_cell cX13_cell 2 (some .int) (rmm 0) [.int a0, .int a1] D r := by
  refine m_of rfl (Nat.le_of_ble_eq_true rfl) ?_
  intro p e s m args below meth c X hr
  unfold S_X13_cell at h
  refine g_bipush X (v := (6 : Int32)) dX13_cell_0 (by decide) ?_
  refine g_iload_n X 0 (i0 := 0) dX13_cell_2 rfl rfl ?_
  refine g_imul X dX13_cell_3 ?_
  refine g_iload_n X 1 (i0 := 1) dX13_cell_4 rfl rfl ?_
  refine g_iadd X dX13_cell_5 ?_
  exact g_iret X hr rfl dX13_cell_6 (Option.some.inj h)
def S_X13_hard (a0 : Int32) (D : DD) : Option RT := (if inB ((4 : Int32) + a0) 62 = true then some (0, some (.int ((D.2.2.1 70) ((4 : Int32) + a0).toNatClampNeg)), D) else none)
set_option maxRecDepth 100000 in
set_option maxHeartbeats 4000000 in
theorem c_X13_hard (l : Launch) (G : va_G) (E : EE) (a0 : Int32) (D : DD) (r : RT) (h : S_X13_hard a0 D = some r) : MM l G E yX13_hard cX13_hard 2 (some .int) (rmm 0) [.ref (E.1 84), .int a0] D r := by
  refine m_of rfl (Nat.le_of_ble_eq_true rfl) ?_
  intro p e s m args below meth c X hr
  unfold S_X13_hard at h
  refine g_aload_n X 0 (i0 := 0) dX13_hard_0 rfl rfl ?_
  refine g_get X (D := D) (v := .ref (E.1 85)) (T := TX13) 84 uX13 (wg_84 E _) rfl 5 (by decide) fl_X13_16 rfl rfl dX13_hard_1 ?_
  refine g_iconst X (v := (4 : Int32)) dX13_hard_4 (by decide) ?_
  refine g_iload_n X 1 (i0 := 1) dX13_hard_5 rfl rfl ?_
  refine g_iadd X dX13_hard_6 ?_
  obtain ⟨b1, h⟩ := chk_s h
  refine g_iald X (D := D) (f := (D.2.2.1 70)) (i := ((4 : Int32) + a0)) 85 (wg_85 E _) (inB_vp b1) dX13_hard_7 ?_
  exact g_iret X hr rfl dX13_hard_8 (Option.some.inj h)
def S_X13_beside (a0 : Int32) (a1 : Int32) (D : DD) : Option RT := (if a1 = 0 then some (0, some (.int (a0 - (6 : Int32))), D) else (if a1 = (1 : Int32) then (if (36 : Int32) ≤ (a0 + (6 : Int32)) then some (0, some (.int (-1 : Int32)), D) else some (0, some (.int (a0 + (6 : Int32))), D)) else (if a1 = (2 : Int32) then (if (a0 - a0 / (6 : Int32) * (6 : Int32)) ≤ 0 then some (0, some (.int (-1 : Int32)), D) else some (0, some (.int (a0 - (1 : Int32))), D)) else (if (5 : Int32) ≤ (a0 - a0 / (6 : Int32) * (6 : Int32)) then some (0, some (.int (-1 : Int32)), D) else some (0, some (.int (a0 + (1 : Int32))), D)))))
set_option maxRecDepth 100000 in
set_option maxHeartbeats 4000000 in
theorem c_X13_beside (l : Launch) (G : va_G) (E : EE) (a0 : Int32) (a1 : Int32) (D : DD) (r : RT) (h : S_X13_beside a0 a1 D = some r) : MM l G E yX13_beside cX13_beside 2 (some .int) (rmm 0) [.int a0, .int a1] D r := by
  refine m_of rfl (Nat.le_of_ble_eq_true rfl) ?_
  intro p e s m args below meth c X hr
  unfold S_X13_beside at h
  refine g_iload_n X 1 (i0 := 1) dX13_beside_0 rfl rfl ?_
  refine g_if_ne X (tgt := 9) dX13_beside_1 (by decide) (fun c6 => ?_) (fun c6 => ?_)
  · have h := (ite_s h).2 c6
    refine g_iload_n X 1 (i0 := 1) dX13_beside_9 rfl rfl ?_
    refine g_iconst X (v := (1 : Int32)) dX13_beside_10 (by decide) ?_
    refine g_icmp_ne X (tgt := 32) dX13_beside_11 (by decide) (fun c5 => ?_) (fun c5 => ?_)
    · have h := (ite_s h).2 c5
      refine g_iload_n X 1 (i0 := 1) dX13_beside_32 rfl rfl ?_
      refine g_iconst X (v := (2 : Int32)) dX13_beside_33 (by decide) ?_
      refine g_icmp_ne X (tgt := 52) dX13_beside_34 (by decide) (fun c3 => ?_) (fun c3 => ?_)
      · have h := (ite_s h).2 c3
        refine g_iload_n X 0 (i0 := 0) dX13_beside_52 rfl rfl ?_
        refine g_bipush X (v := (6 : Int32)) dX13_beside_53 (by decide) ?_
        refine g_irem X (by decide) dX13_beside_55 ?_
        refine g_iconst X (v := (5 : Int32)) dX13_beside_56 (by decide) ?_
        refine g_icmp_ge X (tgt := 66) dX13_beside_57 (by decide) (fun c1 => ?_) (fun c1 => ?_)
        · have h := (ite_s h).1 c1
          refine g_iconst X (v := (-1 : Int32)) dX13_beside_66 (by decide) ?_
          exact g_iret X hr rfl dX13_beside_67 (Option.some.inj h)
        · have h := (ite_s h).2 c1
          refine g_iload_n X 0 (i0 := 0) dX13_beside_60 rfl rfl ?_
          refine g_iconst X (v := (1 : Int32)) dX13_beside_61 (by decide) ?_
          refine g_iadd X dX13_beside_62 ?_
          refine g_goto X (tgt := 67) dX13_beside_63 (by decide) ?_
          exact g_iret X hr rfl dX13_beside_67 (Option.some.inj h)
      · have h := (ite_s h).1 c3
        refine g_iload_n X 0 (i0 := 0) dX13_beside_37 rfl rfl ?_
        refine g_bipush X (v := (6 : Int32)) dX13_beside_38 (by decide) ?_
        refine g_irem X (by decide) dX13_beside_40 ?_
        refine g_if_le X (tgt := 50) dX13_beside_41 (by decide) (fun c2 => ?_) (fun c2 => ?_)
        · have h := (ite_s h).1 c2
          refine g_iconst X (v := (-1 : Int32)) dX13_beside_50 (by decide) ?_
          exact g_iret X hr rfl dX13_beside_51 (Option.some.inj h)
        · have h := (ite_s h).2 c2
          refine g_iload_n X 0 (i0 := 0) dX13_beside_44 rfl rfl ?_
          refine g_iconst X (v := (1 : Int32)) dX13_beside_45 (by decide) ?_
          refine g_isub X dX13_beside_46 ?_
          refine g_goto X (tgt := 51) dX13_beside_47 (by decide) ?_
          exact g_iret X hr rfl dX13_beside_51 (Option.some.inj h)
    · have h := (ite_s h).1 c5
      refine g_iload_n X 0 (i0 := 0) dX13_beside_14 rfl rfl ?_
      refine g_bipush X (v := (6 : Int32)) dX13_beside_15 (by decide) ?_
      refine g_iadd X dX13_beside_17 ?_
      refine g_bipush X (v := (36 : Int32)) dX13_beside_18 (by decide) ?_
      refine g_icmp_ge X (tgt := 30) dX13_beside_20 (by decide) (fun c4 => ?_) (fun c4 => ?_)
      · have h := (ite_s h).1 c4
        refine g_iconst X (v := (-1 : Int32)) dX13_beside_30 (by decide) ?_
        exact g_iret X hr rfl dX13_beside_31 (Option.some.inj h)
      · have h := (ite_s h).2 c4
        refine g_iload_n X 0 (i0 := 0) dX13_beside_23 rfl rfl ?_
        refine g_bipush X (v := (6 : Int32)) dX13_beside_24 (by decide) ?_
        refine g_iadd X dX13_beside_26 ?_
        refine g_goto X (tgt := 31) dX13_beside_27 (by decide) ?_
        exact g_iret X hr rfl dX13_beside_31 (Option.some.inj h)
  · have h := (ite_s h).1 c6
    refine g_iload_n X 0 (i0 := 0) dX13_beside_4 rfl rfl ?_
    refine g_bipush X (v := (6 : Int32)) dX13_beside_5 (by decide) ?_
    refine g_isub X dX13_beside_7 ?_
    exact g_iret X hr rfl dX13_beside_8 (Option.some.inj h)
def S_X13_apart (a0 : Int32) (a1 : Int32) (D : DD) : Option RT := (if 0 ≤ ((a0 / (6 : Int32)) - (a1 / (6 : Int32))) then (if 0 ≤ ((a0 - a0 / (6 : Int32) * (6 : Int32)) - (a1 - a1 / (6 : Int32) * (6 : Int32))) then some (0, some (.int (((a0 / (6 : Int32)) - (a1 / (6 : Int32))) + ((a0 - a0 / (6 : Int32) * (6 : Int32)) - (a1 - a1 / (6 : Int32) * (6 : Int32))))), D) else some (0, some (.int (((a0 / (6 : Int32)) - (a1 / (6 : Int32))) + (-((a0 - a0 / (6 : Int32) * (6 : Int32)) - (a1 - a1 / (6 : Int32) * (6 : Int32)))))), D)) else (if 0 ≤ ((a0 - a0 / (6 : Int32) * (6 : Int32)) - (a1 - a1 / (6 : Int32) * (6 : Int32))) then some (0, some (.int ((-((a0 / (6 : Int32)) - (a1 / (6 : Int32)))) + ((a0 - a0 / (6 : Int32) * (6 : Int32)) - (a1 - a1 / (6 : Int32) * (6 : Int32))))), D) else some (0, some (.int ((-((a0 / (6 : Int32)) - (a1 / (6 : Int32)))) + (-((a0 - a0 / (6 : Int32) * (6 : Int32)) - (a1 - a1 / (6 : Int32) * (6 : Int32)))))), D)))
set_option maxRecDepth 100000 in
set_option maxHeartbeats 4000000 in
theorem c_X13_apart (l : Launch) (G : va_G) (E : EE) (a0 : Int32) (a1 : Int32) (D : DD) (r : RT) (h : S_X13_apart a0 a1 D = some r) : MM l G E yX13_apart cX13_apart 4 (some .int) (rmm 0) [.int a0, .int a1] D r := by
  refine m_of rfl (Nat.le_of_ble_eq_true rfl) ?_
  intro p e s m args below meth c X hr
  unfold S_X13_apart at h
  refine g_iload_n X 0 (i0 := 0) dX13_apart_0 rfl rfl ?_
  refine g_bipush X (v := (6 : Int32)) dX13_apart_1 (by decide) ?_
  refine g_idiv X (by decide) dX13_apart_3 ?_
  refine g_iload_n X 1 (i0 := 1) dX13_apart_4 rfl rfl ?_
  refine g_bipush X (v := (6 : Int32)) dX13_apart_5 (by decide) ?_
  refine g_idiv X (by decide) dX13_apart_7 ?_
  refine g_isub X dX13_apart_8 ?_
  refine g_istore_n X (i0 := 2) (lv' := [(2, .int ((a0 / (6 : Int32)) - (a1 / (6 : Int32)))), (0, .int a0), (1, .int a1)]) dX13_apart_9 rfl (by decide) rfl ?_
  refine g_iload_n X 1 (i0 := 0) dX13_apart_10 rfl rfl ?_
  refine g_bipush X (v := (6 : Int32)) dX13_apart_11 (by decide) ?_
  refine g_irem X (by decide) dX13_apart_13 ?_
  refine g_iload_n X 2 (i0 := 1) dX13_apart_14 rfl rfl ?_
  refine g_bipush X (v := (6 : Int32)) dX13_apart_15 (by decide) ?_
  refine g_irem X (by decide) dX13_apart_17 ?_
  refine g_isub X dX13_apart_18 ?_
  refine g_istore_n X (i0 := 3) (lv' := [(3, .int ((a0 - a0 / (6 : Int32) * (6 : Int32)) - (a1 - a1 / (6 : Int32) * (6 : Int32)))), (2, .int ((a0 / (6 : Int32)) - (a1 / (6 : Int32)))), (0, .int a0), (1, .int a1)]) dX13_apart_19 rfl (by decide) rfl ?_
  refine g_iload_n X 1 (i0 := 2) dX13_apart_20 rfl rfl ?_
  refine g_if_ge X (tgt := 29) dX13_apart_21 (by decide) (fun c3 => ?_) (fun c3 => ?_)
  · have h := (ite_s h).1 c3
    refine g_iload_n X 1 (i0 := 2) dX13_apart_29 rfl rfl ?_
    refine g_iload_n X 0 (i0 := 3) dX13_apart_30 rfl rfl ?_
    refine g_if_ge X (tgt := 39) dX13_apart_31 (by decide) (fun c1 => ?_) (fun c1 => ?_)
    · have h := (ite_s h).1 c1
      refine g_iload_n X 0 (i0 := 3) dX13_apart_39 rfl rfl ?_
      refine g_iadd X dX13_apart_40 ?_
      exact g_iret X hr rfl dX13_apart_41 (Option.some.inj h)
    · have h := (ite_s h).2 c1
      refine g_iload_n X 0 (i0 := 3) dX13_apart_34 rfl rfl ?_
      refine g_ineg X dX13_apart_35 ?_
      refine g_goto X (tgt := 40) dX13_apart_36 (by decide) ?_
      refine g_iadd X dX13_apart_40 ?_
      exact g_iret X hr rfl dX13_apart_41 (Option.some.inj h)
  · have h := (ite_s h).2 c3
    refine g_iload_n X 1 (i0 := 2) dX13_apart_24 rfl rfl ?_
    refine g_ineg X dX13_apart_25 ?_
    refine g_goto X (tgt := 30) dX13_apart_26 (by decide) ?_
    refine g_iload_n X 0 (i0 := 3) dX13_apart_30 rfl rfl ?_
    refine g_if_ge X (tgt := 39) dX13_apart_31 (by decide) (fun c2 => ?_) (fun c2 => ?_)
    · have h := (ite_s h).1 c2
      refine g_iload_n X 0 (i0 := 3) dX13_apart_39 rfl rfl ?_
      refine g_iadd X dX13_apart_40 ?_
      exact g_iret X hr rfl dX13_apart_41 (Option.some.inj h)
    · have h := (ite_s h).2 c2
      refine g_iload_n X 0 (i0 := 3) dX13_apart_34 rfl rfl ?_
      refine g_ineg X dX13_apart_35 ?_
      refine g_goto X (tgt := 40) dX13_apart_36 (by decide) ?_
      refine g_iadd X dX13_apart_40 ?_
      exact g_iret X hr rfl dX13_apart_41 (Option.some.inj h)
def S_X13_placeOf (a0 : Int32) (D : DD) : Option RT := (if inB ((40 : Int32) + ((2 : Int32) * a0)) 62 = true then some (0, some (.int ((D.2.2.1 70) ((40 : Int32) + ((2 : Int32) * a0)).toNatClampNeg)), D) else none)
set_option maxRecDepth 100000 in
set_option maxHeartbeats 4000000 in
theorem c_X13_placeOf (l : Launch) (G : va_G) (E : EE) (a0 : Int32) (D : DD) (r : RT) (h : S_X13_placeOf a0 D = some r) : MM l G E yX13_placeOf cX13_placeOf 2 (some .int) (rmm 0) [.ref (E.1 84), .int a0] D r := by
  refine m_of rfl (Nat.le_of_ble_eq_true rfl) ?_
  intro p e s m args below meth c X hr
  unfold S_X13_placeOf at h
  refine g_aload_n X 0 (i0 := 0) dX13_placeOf_0 rfl rfl ?_
  refine g_get X (D := D) (v := .ref (E.1 85)) (T := TX13) 84 uX13 (wg_84 E _) rfl 5 (by decide) fl_X13_16 rfl rfl dX13_placeOf_1 ?_
  refine g_bipush X (v := (40 : Int32)) dX13_placeOf_4 (by decide) ?_
  refine g_iconst X (v := (2 : Int32)) dX13_placeOf_6 (by decide) ?_
  refine g_iload_n X 1 (i0 := 1) dX13_placeOf_7 rfl rfl ?_
  refine g_imul X dX13_placeOf_8 ?_
  refine g_iadd X dX13_placeOf_9 ?_
  obtain ⟨b1, h⟩ := chk_s h
  refine g_iald X (D := D) (f := (D.2.2.1 70)) (i := ((40 : Int32) + ((2 : Int32) * a0))) 85 (wg_85 E _) (inB_vp b1) dX13_placeOf_10 ?_
  exact g_iret X hr rfl dX13_placeOf_11 (Option.some.inj h)
def S_X13_strength (a0 : Int32) (D : DD) : Option RT := (if inB (((40 : Int32) + ((2 : Int32) * a0)) + (1 : Int32)) 62 = true then some (0, some (.int ((D.2.2.1 70) (((40 : Int32) + ((2 : Int32) * a0)) + (1 : Int32)).toNatClampNeg)), D) else none)
set_option maxRecDepth 100000 in
set_option maxHeartbeats 4000000 in
theorem c_X13_strength (l : Launch) (G : va_G) (E : EE) (a0 : Int32) (D : DD) (r : RT) (h : S_X13_strength a0 D = some r) : MM l G E yX13_strength cX13_strength 2 (some .int) (rmm 0) [.ref (E.1 84), .int a0] D r := by
  refine m_of rfl (Nat.le_of_ble_eq_true rfl) ?_
  intro p e s m args below meth c X hr
  unfold S_X13_strength at h
  refine g_aload_n X 0 (i0 := 0) dX13_strength_0 rfl rfl ?_
  refine g_get X (D := D) (v := .ref (E.1 85)) (T := TX13) 84 uX13 (wg_84 E _) rfl 5 (by decide) fl_X13_16 rfl rfl dX13_strength_1 ?_
  refine g_bipush X (v := (40 : Int32)) dX13_strength_4 (by decide) ?_
  refine g_iconst X (v := (2 : Int32)) dX13_strength_6 (by decide) ?_
  refine g_iload_n X 1 (i0 := 1) dX13_strength_7 rfl rfl ?_
  refine g_imul X dX13_strength_8 ?_
  refine g_iadd X dX13_strength_9 ?_
  refine g_iconst X (v := (1 : Int32)) dX13_strength_10 (by decide) ?_
  refine g_iadd X dX13_strength_11 ?_
  obtain ⟨b1, h⟩ := chk_s h
  refine g_iald X (D := D) (f := (D.2.2.1 70)) (i := (((40 : Int32) + ((2 : Int32) * a0)) + (1 : Int32))) 85 (wg_85 E _) (inB_vp b1) dX13_strength_12 ?_
  exact g_iret X hr rfl dX13_strength_13 (Option.some.inj h)
theorem hd_X13_placeOf : yX13_placeOf.cls ≠ "java/lang/invoke/MethodHandle" ∧ yX13_placeOf.cls ≠ "java/lang/invoke/VarHandle" ∧ (parseMethodDescriptor yX13_placeOf.desc).map (fun d => d.parameters.length) = some 1 := by decide +kernel
theorem wc_X13_placeOf : Cond.code yX13_placeOf cX13_placeOf 2 (some .int) ∈ UT := ut 1481 (by decide +kernel) (by decide +kernel)
theorem we_X13_placeOf : Cond.selects RX13 yX13_placeOf yX13_placeOf ∈ UT := ut 44 (by decide +kernel) (by decide +kernel)
theorem wm_X13_placeOf : Cond.instanceMethod yX13_placeOf ∈ UT := ut 1480 (by decide +kernel) (by decide +kernel)
theorem kv_X13_73 : GoodIn UT (wsV RX13 73 RX13 yX13_placeOf (Cond.code yX13_placeOf cX13_placeOf 2 (some .int) :: UT)) := gu_V (ut 1478 (by decide +kernel) (by decide +kernel)) wm_X13_placeOf we_X13_placeOf wi_RX13 wc_X13_placeOf
def b_X13_chargeIn_0 (a0 : Int32) (D : DD) : Option ((Nat × List Int32 × DD) ⊕ RT) := some (.inl (1, [a0, (0 : Int32)], D))
def b_X13_chargeIn_1 (x1 : Int32) (x2 : Int32) (D : DD) : Option ((Nat × List Int32 × DD) ⊕ RT) := (if ((D.2.2.1 70) (3 : Int32).toNatClampNeg) ≤ x2 then some (.inr (0, some (.int (-1 : Int32)), D)) else (cI (S_X13_placeOf x2 D) (fun r3 D2 => (if r3 = x1 then some (.inr (0, some (.int x2), D2)) else some (.inl (1, [x1, (x2 + (1 : Int32))], D2))))))
def T_X13_chargeIn (k : Nat) (ls : List Int32) (D : DD) : Option ((Nat × List Int32 × DD) ⊕ RT) := match k, ls with
  | 0, [a0] => b_X13_chargeIn_0 a0 D
  | 1, [x1, x2] => b_X13_chargeIn_1 x1 x2 D
  | _, _ => none
def S_X13_chargeIn (a0 : Int32) (D : DD) : Option RT := run T_X13_chargeIn FUEL 0 [a0] D
def hg_X13_chargeIn (p : Program) (l : Launch) (e : Env) (s : State) (m : MethodId) (args : Array Value) (below : List Frame) (meth : Method) (c : Code) (G : va_G) (E : EE) (r : RT) (k : Nat) (ls : List Int32) (D : DD) : Prop := match k, ls with
  | 0, [a0] => GW p l e (rmm 1) s m args below meth c G E 3 (MQ below (QR G E s.heap.size r) args s 0 0 (fr E s.heap.size)) 0 0 D 0 [(0, .ref (E.1 84)), (1, .int a0)] []
  | 1, [x1, x2] => GW p l e (rmm 1) s m args below meth c G E 3 (MQ below (QR G E s.heap.size r) args s 0 0 (fr E s.heap.size)) 0 0 D 2 [(0, .ref (E.1 84)), (1, .int x1), (2, .int x2)] []
  | _, _ => True
set_option maxRecDepth 100000 in
set_option maxHeartbeats 4000000 in
theorem bl_X13_chargeIn_0 {p : Program} {l : Launch} {e : Env} {s : State} {m : MethodId} {args : Array Value} {below : List Frame} {meth : Method} {c : Code} {G : va_G} {E : EE} {r : RT} (X : CX p s m args meth c cX13_chargeIn RX13 3 G E) (hr : meth.sig.returnType = (some .int)) (a0 : Int32) (D : DD) (o : (Nat × List Int32 × DD) ⊕ RT) (h : b_X13_chargeIn_0 a0 D = some o) (h1 : ∀ x, o = .inl x → hg_X13_chargeIn p l e s m args below meth c G E r x.1 x.2.1 x.2.2) (h2 : ∀ x, o = .inr x → x = r) : GW p l e (rmm 1) s m args below meth c G E 3 (MQ below (QR G E s.heap.size r) args s 0 0 (fr E s.heap.size)) 0 0 D 0 [(0, .ref (E.1 84)), (1, .int a0)] [] := by
  unfold b_X13_chargeIn_0 at h
  refine g_iconst X (v := (0 : Int32)) dX13_chargeIn_0 (by decide) ?_
  refine g_istore_n X (i0 := 2) (lv' := [(2, .int (0 : Int32)), (0, .ref (E.1 84)), (1, .int a0)]) dX13_chargeIn_1 rfl (by decide) rfl ?_
  refine g_sub (lv' := [(0, .ref (E.1 84)), (1, .int a0), (2, .int (0 : Int32))]) [1, 2, 0] rfl ?_
  exact h1 _ (Option.some.inj h).symm
set_option maxRecDepth 100000 in
set_option maxHeartbeats 4000000 in
theorem bl_X13_chargeIn_1 {p : Program} {l : Launch} {e : Env} {s : State} {m : MethodId} {args : Array Value} {below : List Frame} {meth : Method} {c : Code} {G : va_G} {E : EE} {r : RT} (X : CX p s m args meth c cX13_chargeIn RX13 3 G E) (hr : meth.sig.returnType = (some .int)) (x1 : Int32) (x2 : Int32) (D : DD) (o : (Nat × List Int32 × DD) ⊕ RT) (h : b_X13_chargeIn_1 x1 x2 D = some o) (h1 : ∀ x, o = .inl x → hg_X13_chargeIn p l e s m args below meth c G E r x.1 x.2.1 x.2.2) (h2 : ∀ x, o = .inr x → x = r) : GW p l e (rmm 1) s m args below meth c G E 3 (MQ below (QR G E s.heap.size r) args s 0 0 (fr E s.heap.size)) 0 0 D 2 [(0, .ref (E.1 84)), (1, .int x1), (2, .int x2)] [] := by
  unfold b_X13_chargeIn_1 at h
  refine g_iload_n X 2 (i0 := 2) dX13_chargeIn_2 rfl rfl ?_
  refine g_aload_n X 0 (i0 := 0) dX13_chargeIn_3 rfl rfl ?_
  refine g_get X (D := D) (v := .ref (E.1 85)) (T := TX13) 84 uX13 (wg_84 E _) rfl 5 (by decide) fl_X13_16 rfl rfl dX13_chargeIn_4 ?_
  refine g_iconst X (v := (3 : Int32)) dX13_chargeIn_7 (by decide) ?_
  refine g_iald X (D := D) (f := (D.2.2.1 70)) (i := (3 : Int32)) 85 (wg_85 E _) (inB_vp (by decide)) dX13_chargeIn_8 ?_
  refine g_icmp_ge X (tgt := 29) dX13_chargeIn_9 (by decide) (fun c5 => ?_) (fun c5 => ?_)
  · have h := (ite_s h).1 c5
    refine g_iconst X (v := (-1 : Int32)) dX13_chargeIn_29 (by decide) ?_
    exact g_iret X hr rfl dX13_chargeIn_30 (h2 _ (Option.some.inj h).symm)
  · have h := (ite_s h).2 c5
    refine g_aload_n X 0 (i0 := 0) dX13_chargeIn_12 rfl rfl ?_
    refine g_iload_n X 2 (i0 := 2) dX13_chargeIn_13 rfl rfl ?_
    obtain ⟨r3, D2, e1, h⟩ := cI_s h
    refine g_V X (As := [.int x2]) (rest := []) (c_X13_placeOf l G E x2 _ _ e1) 84 (wg_84 E _) rfl rfl kv_X13_73 ⟨rfl, rfl⟩ ⟨rfl, hd_X13_placeOf⟩ (⟨Nat.le_of_ble_eq_true rfl, Nat.le_of_ble_eq_true rfl⟩) rfl rfl (Nat.le_of_ble_eq_true rfl) dX13_chargeIn_14 ?_
    refine g_iload_n X 1 (i0 := 1) dX13_chargeIn_17 rfl rfl ?_
    refine g_icmp_ne X (tgt := 23) dX13_chargeIn_18 (by decide) (fun c4 => ?_) (fun c4 => ?_)
    · have h := (ite_s h).2 c4
      refine g_iinc X 2 (v := (x2 + (1 : Int32))) (lv' := [(2, .int (x2 + (1 : Int32))), (0, .ref (E.1 84)), (1, .int x1)]) dX13_chargeIn_23 rfl rfl (by decide) rfl ?_
      refine g_goto X (tgt := 2) dX13_chargeIn_26 (by decide) ?_
      refine g_sub (lv' := [(0, .ref (E.1 84)), (1, .int x1), (2, .int (x2 + (1 : Int32)))]) [1, 2, 0] rfl ?_
      exact h1 _ (Option.some.inj h).symm
    · have h := (ite_s h).1 c4
      refine g_iload_n X 2 (i0 := 2) dX13_chargeIn_21 rfl rfl ?_
      exact g_iret X hr rfl dX13_chargeIn_22 (h2 _ (Option.some.inj h).symm)
set_option maxRecDepth 100000 in
set_option maxHeartbeats 4000000 in
theorem c_X13_chargeIn (l : Launch) (G : va_G) (E : EE) (a0 : Int32) (D : DD) (r : RT) (h : S_X13_chargeIn a0 D = some r) : MM l G E yX13_chargeIn cX13_chargeIn 3 (some .int) (rmm 1) [.ref (E.1 84), .int a0] D r := by
  unfold S_X13_chargeIn at h
  refine m_of rfl (Nat.le_of_ble_eq_true rfl) ?_
  intro p e s m args below meth c X hr
  exact run_G (T := T_X13_chargeIn) (HG := hg_X13_chargeIn p l e s m args below meth c G E r) (by
    intro k ls D o hT h1 h2
    unfold T_X13_chargeIn at hT
    split at hT
    · exact bl_X13_chargeIn_0 X hr _ D o hT h1 h2
    · exact bl_X13_chargeIn_1 X hr _ _ D o hT h1 h2
    · cases hT) FUEL 0 [a0] D h
theorem hd_X13_cell : yX13_cell.cls ≠ "java/lang/invoke/MethodHandle" ∧ yX13_cell.cls ≠ "java/lang/invoke/VarHandle" ∧ (parseMethodDescriptor yX13_cell.desc).map (fun d => d.parameters.length) = some 2 := by decide +kernel
theorem hd_X13_fail : yX13_fail.cls ≠ "java/lang/invoke/MethodHandle" ∧ yX13_fail.cls ≠ "java/lang/invoke/VarHandle" ∧ (parseMethodDescriptor yX13_fail.desc).map (fun d => d.parameters.length) = some 1 := by decide +kernel
theorem hd_X13_hard : yX13_hard.cls ≠ "java/lang/invoke/MethodHandle" ∧ yX13_hard.cls ≠ "java/lang/invoke/VarHandle" ∧ (parseMethodDescriptor yX13_hard.desc).map (fun d => d.parameters.length) = some 1 := by decide +kernel
theorem hd_X13_isCell : yX13_isCell.cls ≠ "java/lang/invoke/MethodHandle" ∧ yX13_isCell.cls ≠ "java/lang/invoke/VarHandle" ∧ (parseMethodDescriptor yX13_isCell.desc).map (fun d => d.parameters.length) = some 2 := by decide +kernel
theorem wc_X13_isCell : Cond.code yX13_isCell cX13_isCell 2 (some .boolean) ∈ UT := ut 1447 (by decide +kernel) (by decide +kernel)
theorem wt_X13_isCell : Cond.static yX13_isCell ∈ UT := ut 1446 (by decide +kernel) (by decide +kernel)
theorem ks_X13_77 : GoodIn UT (va_wsS RX13 77 yX13_isCell (Cond.code yX13_isCell cX13_isCell 2 (some .boolean) :: UT)) := gu_S (ut 1445 (by decide +kernel) (by decide +kernel)) wt_X13_isCell wi_RX13 wc_X13_isCell
theorem wc_X13_cell : Cond.code yX13_cell cX13_cell 2 (some .int) ∈ UT := ut 1457 (by decide +kernel) (by decide +kernel)
theorem wt_X13_cell : Cond.static yX13_cell ∈ UT := ut 1456 (by decide +kernel) (by decide +kernel)
theorem ks_X13_84 : GoodIn UT (va_wsS RX13 84 yX13_cell (Cond.code yX13_cell cX13_cell 2 (some .int) :: UT)) := gu_S (ut 1455 (by decide +kernel) (by decide +kernel)) wt_X13_cell wi_RX13 wc_X13_cell
theorem wc_X13_fail : Cond.code yX13_fail cX13_fail 2 (some .int) ∈ UT := ut 1454 (by decide +kernel) (by decide +kernel)
theorem we_X13_fail : Cond.selects RX13 yX13_fail yX13_fail ∈ UT := ut 39 (by decide +kernel) (by decide +kernel)
theorem wm_X13_fail : Cond.instanceMethod yX13_fail ∈ UT := ut 1453 (by decide +kernel) (by decide +kernel)
theorem kv_X13_81 : GoodIn UT (wsV RX13 81 RX13 yX13_fail (Cond.code yX13_fail cX13_fail 2 (some .int) :: UT)) := gu_V (ut 1451 (by decide +kernel) (by decide +kernel)) wm_X13_fail we_X13_fail wi_RX13 wc_X13_fail
theorem wc_X13_hard : Cond.code yX13_hard cX13_hard 2 (some .int) ∈ UT := ut 1461 (by decide +kernel) (by decide +kernel)
theorem we_X13_hard : Cond.selects RX13 yX13_hard yX13_hard ∈ UT := ut 40 (by decide +kernel) (by decide +kernel)
theorem wm_X13_hard : Cond.instanceMethod yX13_hard ∈ UT := ut 1460 (by decide +kernel) (by decide +kernel)
theorem kv_X13_88 : GoodIn UT (wsV RX13 88 RX13 yX13_hard (Cond.code yX13_hard cX13_hard 2 (some .int) :: UT)) := gu_V (ut 1458 (by decide +kernel) (by decide +kernel)) wm_X13_hard we_X13_hard wi_RX13 wc_X13_hard
def S_X13_hardens (a0 : Int32) (a1 : Int32) (a2 : Int32) (D : DD) : Option RT := (cI (S_X13_isCell a0 a1 D) (fun r3 D2 => (if r3 = 0 then (cI (S_X13_fail (1 : Int32) D2) (fun r6 D5 => some (0, some (.int r6), D5))) else (cI (S_X13_isIn a2 (1 : Int32) (9 : Int32) D2) (fun r9 D8 => (if r9 = 0 then (cI (S_X13_fail (1 : Int32) D8) (fun r26 D25 => some (0, some (.int r26), D25))) else (cI (S_X13_cell a0 a1 D8) (fun r12 D11 => (cI (S_X13_hard r12 D11) (fun r15 D14 => (if r15 = 0 then (cI (S_X13_fail (2 : Int32) D14) (fun r22 D21 => some (0, some (.int r22), D21))) else (cI (S_X13_cell a0 a1 D14) (fun r18 D17 => (if inB ((4 : Int32) + r18) 62 = true then some (0, some (.int r15), (setA D17 70 (upd (D17.2.2.1 70) ((4 : Int32) + r18).toNatClampNeg a2))) else none))))))))))))))
set_option maxRecDepth 100000 in
set_option maxHeartbeats 4000000 in
theorem c_X13_hardens (l : Launch) (G : va_G) (E : EE) (a0 : Int32) (a1 : Int32) (a2 : Int32) (D : DD) (r : RT) (h : S_X13_hardens a0 a1 a2 D = some r) : MM l G E yX13_hardens cX13_hardens 5 (some .int) (rmm 2) [.ref (E.1 84), .int a0, .int a1, .int a2] D r := by
  refine m_of rfl (Nat.le_of_ble_eq_true rfl) ?_
  intro p e s m args below meth c X hr
  unfold S_X13_hardens at h
  refine g_iload_n X 1 (i0 := 1) dX13_hardens_0 rfl rfl ?_
  refine g_iload_n X 2 (i0 := 2) dX13_hardens_1 rfl rfl ?_
  obtain ⟨r3, D2, e1, h⟩ := cI_s h
  refine g_S X (As := [.int a0, .int a1]) (rest := []) (c_X13_isCell l G E a0 a1 _ _ e1) ks_X13_77 ⟨rfl, rfl⟩ hd_X13_isCell (⟨Nat.le_of_ble_eq_true rfl, Nat.le_of_ble_eq_true rfl⟩) rfl rfl (Nat.le_of_ble_eq_true rfl) dX13_hardens_2 ?_
  refine g_if_eq X (tgt := 18) dX13_hardens_5 (by decide) (fun c28 => ?_) (fun c28 => ?_)
  · have h := (ite_s h).1 c28
    refine g_aload_n X 0 (i0 := 0) dX13_hardens_18 rfl rfl ?_
    refine g_iconst X (v := (1 : Int32)) dX13_hardens_19 (by decide) ?_
    obtain ⟨r6, D5, e4, h⟩ := cI_s h
    refine g_V X (As := [.int (1 : Int32)]) (rest := []) (c_X13_fail l G E (1 : Int32) _ _ e4) 84 (wg_84 E _) rfl rfl kv_X13_81 ⟨rfl, rfl⟩ ⟨rfl, hd_X13_fail⟩ (⟨Nat.le_of_ble_eq_true rfl, Nat.le_of_ble_eq_true rfl⟩) rfl rfl (Nat.le_of_ble_eq_true rfl) dX13_hardens_20 ?_
    exact g_iret X hr rfl dX13_hardens_23 (Option.some.inj h)
  · have h := (ite_s h).2 c28
    refine g_iload_n X 3 (i0 := 3) dX13_hardens_8 rfl rfl ?_
    refine g_iconst X (v := (1 : Int32)) dX13_hardens_9 (by decide) ?_
    refine g_bipush X (v := (9 : Int32)) dX13_hardens_10 (by decide) ?_
    obtain ⟨r9, D8, e7, h⟩ := cI_s h
    refine g_S X (As := [.int a2, .int (1 : Int32), .int (9 : Int32)]) (rest := []) (c_X13_isIn l G E a2 (1 : Int32) (9 : Int32) _ _ e7) ks_X13_69 ⟨rfl, rfl⟩ hd_X13_isIn (⟨Nat.le_of_ble_eq_true rfl, Nat.le_of_ble_eq_true rfl⟩) rfl rfl (Nat.le_of_ble_eq_true rfl) dX13_hardens_12 ?_
    refine g_if_ne X (tgt := 24) dX13_hardens_15 (by decide) (fun c27 => ?_) (fun c27 => ?_)
    · have h := (ite_s h).2 c27
      refine g_aload_n X 0 (i0 := 0) dX13_hardens_24 rfl rfl ?_
      refine g_iload_n X 1 (i0 := 1) dX13_hardens_25 rfl rfl ?_
      refine g_iload_n X 2 (i0 := 2) dX13_hardens_26 rfl rfl ?_
      obtain ⟨r12, D11, e10, h⟩ := cI_s h
      refine g_S X (As := [.int a0, .int a1]) (rest := [.ref (E.1 84)]) (c_X13_cell l G E a0 a1 _ _ e10) ks_X13_84 ⟨rfl, rfl⟩ hd_X13_cell (⟨Nat.le_of_ble_eq_true rfl, Nat.le_of_ble_eq_true rfl⟩) rfl rfl (Nat.le_of_ble_eq_true rfl) dX13_hardens_27 ?_
      obtain ⟨r15, D14, e13, h⟩ := cI_s h
      refine g_V X (As := [.int r12]) (rest := []) (c_X13_hard l G E r12 _ _ e13) 84 (wg_84 E _) rfl rfl kv_X13_88 ⟨rfl, rfl⟩ ⟨rfl, hd_X13_hard⟩ (⟨Nat.le_of_ble_eq_true rfl, Nat.le_of_ble_eq_true rfl⟩) rfl rfl (Nat.le_of_ble_eq_true rfl) dX13_hardens_30 ?_
      refine g_istore X (lv' := [(4, .int r15), (0, .ref (E.1 84)), (1, .int a0), (2, .int a1), (3, .int a2)]) dX13_hardens_33 (by decide) rfl ?_
      refine g_iload X 0 dX13_hardens_35 rfl ?_
      refine g_if_ne X (tgt := 46) dX13_hardens_37 (by decide) (fun c23 => ?_) (fun c23 => ?_)
      · have h := (ite_s h).2 c23
        refine g_aload_n X 1 (i0 := 0) dX13_hardens_46 rfl rfl ?_
        refine g_get X (D := D14) (v := .ref (E.1 85)) (T := TX13) 84 uX13 (wg_84 E _) rfl 5 (by decide) fl_X13_16 rfl rfl dX13_hardens_47 ?_
        refine g_iconst X (v := (4 : Int32)) dX13_hardens_50 (by decide) ?_
        refine g_iload_n X 2 (i0 := 1) dX13_hardens_51 rfl rfl ?_
        refine g_iload_n X 3 (i0 := 2) dX13_hardens_52 rfl rfl ?_
        obtain ⟨r18, D17, e16, h⟩ := cI_s h
        refine g_S X (As := [.int a0, .int a1]) (rest := [.int (4 : Int32), .ref (E.1 85)]) (c_X13_cell l G E a0 a1 _ _ e16) ks_X13_84 ⟨rfl, rfl⟩ hd_X13_cell (⟨Nat.le_of_ble_eq_true rfl, Nat.le_of_ble_eq_true rfl⟩) rfl rfl (Nat.le_of_ble_eq_true rfl) dX13_hardens_53 ?_
        refine g_iadd X dX13_hardens_56 ?_
        refine g_iload_n X 4 (i0 := 3) dX13_hardens_57 rfl rfl ?_
        obtain ⟨b19, h⟩ := chk_s h
        refine g_iast X (D := D17) (f := (D17.2.2.1 70)) (i := ((4 : Int32) + r18)) (x := a2) (D' := (setA D17 70 (upd (D17.2.2.1 70) ((4 : Int32) + r18).toNatClampNeg a2))) 85 (wg_85 E _) (inB_vp b19) (ws_A_70 E _ _) dX13_hardens_58 ?_
        refine g_iload X 0 dX13_hardens_59 rfl ?_
        exact g_iret X hr rfl dX13_hardens_61 (Option.some.inj h)
      · have h := (ite_s h).1 c23
        refine g_aload_n X 1 (i0 := 0) dX13_hardens_40 rfl rfl ?_
        refine g_iconst X (v := (2 : Int32)) dX13_hardens_41 (by decide) ?_
        obtain ⟨r22, D21, e20, h⟩ := cI_s h
        refine g_V X (As := [.int (2 : Int32)]) (rest := []) (c_X13_fail l G E (2 : Int32) _ _ e20) 84 (wg_84 E _) rfl rfl kv_X13_81 ⟨rfl, rfl⟩ ⟨rfl, hd_X13_fail⟩ (⟨Nat.le_of_ble_eq_true rfl, Nat.le_of_ble_eq_true rfl⟩) rfl rfl (Nat.le_of_ble_eq_true rfl) dX13_hardens_42 ?_
        exact g_iret X hr rfl dX13_hardens_45 (Option.some.inj h)
    · have h := (ite_s h).1 c27
      refine g_aload_n X 0 (i0 := 0) dX13_hardens_18 rfl rfl ?_
      refine g_iconst X (v := (1 : Int32)) dX13_hardens_19 (by decide) ?_
      obtain ⟨r26, D25, e24, h⟩ := cI_s h
      refine g_V X (As := [.int (1 : Int32)]) (rest := []) (c_X13_fail l G E (1 : Int32) _ _ e24) 84 (wg_84 E _) rfl rfl kv_X13_81 ⟨rfl, rfl⟩ ⟨rfl, hd_X13_fail⟩ (⟨Nat.le_of_ble_eq_true rfl, Nat.le_of_ble_eq_true rfl⟩) rfl rfl (Nat.le_of_ble_eq_true rfl) dX13_hardens_20 ?_
      exact g_iret X hr rfl dX13_hardens_23 (Option.some.inj h)
theorem hd_X13_begins : yX13_begins.cls ≠ "java/lang/invoke/MethodHandle" ∧ yX13_begins.cls ≠ "java/lang/invoke/VarHandle" ∧ (parseMethodDescriptor yX13_begins.desc).map (fun d => d.parameters.length) = some 0 := by decide +kernel
theorem hd_X13_ends : yX13_ends.cls ≠ "java/lang/invoke/MethodHandle" ∧ yX13_ends.cls ≠ "java/lang/invoke/VarHandle" ∧ (parseMethodDescriptor yX13_ends.desc).map (fun d => d.parameters.length) = some 1 := by decide +kernel
theorem hd_X13_hardens : yX13_hardens.cls ≠ "java/lang/invoke/MethodHandle" ∧ yX13_hardens.cls ≠ "java/lang/invoke/VarHandle" ∧ (parseMethodDescriptor yX13_hardens.desc).map (fun d => d.parameters.length) = some 3 := by decide +kernel
theorem wc_X13_begins : Cond.code yX13_begins cX13_begins 1 none ∈ UT := ut 1437 (by decide +kernel) (by decide +kernel)
theorem we_X13_begins : Cond.selects RX13 yX13_begins yX13_begins ∈ UT := ut 37 (by decide +kernel) (by decide +kernel)
theorem wm_X13_begins : Cond.instanceMethod yX13_begins ∈ UT := ut 1436 (by decide +kernel) (by decide +kernel)
theorem kv_X13_91 : GoodIn UT (wsV RX13 91 RX13 yX13_begins (Cond.code yX13_begins cX13_begins 1 none :: UT)) := gu_V (ut 1434 (by decide +kernel) (by decide +kernel)) wm_X13_begins we_X13_begins wi_RX13 wc_X13_begins
theorem wc_X13_hardens : Cond.code yX13_hardens cX13_hardens 5 (some .int) ∈ UT := ut 1444 (by decide +kernel) (by decide +kernel)
theorem we_X13_hardens : Cond.selects RX13 yX13_hardens yX13_hardens ∈ UT := ut 38 (by decide +kernel) (by decide +kernel)
theorem wm_X13_hardens : Cond.instanceMethod yX13_hardens ∈ UT := ut 1443 (by decide +kernel) (by decide +kernel)
theorem kv_X13_94 : GoodIn UT (wsV RX13 94 RX13 yX13_hardens (Cond.code yX13_hardens cX13_hardens 5 (some .int) :: UT)) := gu_V (ut 1441 (by decide +kernel) (by decide +kernel)) wm_X13_hardens we_X13_hardens wi_RX13 wc_X13_hardens
theorem wc_X13_ends : Cond.code yX13_ends cX13_ends 3 (some .int) ∈ UT := ut 1465 (by decide +kernel) (by decide +kernel)
theorem we_X13_ends : Cond.selects RX13 yX13_ends yX13_ends ∈ UT := ut 41 (by decide +kernel) (by decide +kernel)
theorem wm_X13_ends : Cond.instanceMethod yX13_ends ∈ UT := ut 1464 (by decide +kernel) (by decide +kernel)
theorem kv_X13_98 : GoodIn UT (wsV RX13 98 RX13 yX13_ends (Cond.code yX13_ends cX13_ends 3 (some .int) :: UT)) := gu_V (ut 1462 (by decide +kernel) (by decide +kernel)) wm_X13_ends we_X13_ends wi_RX13 wc_X13_ends
def S_X13_setHardness (a0 : Int32) (a1 : Int32) (a2 : Int32) (D : DD) : Option RT := (cV (S_X13_begins D) (fun D2 => (cI (S_X13_hardens a0 a1 a2 D2) (fun r5 D4 => (cI (S_X13_ends r5 D4) (fun r8 D7 => some (0, some (.int r8), D7)))))))
set_option maxRecDepth 100000 in
set_option maxHeartbeats 4000000 in
theorem c_X13_setHardness (l : Launch) (G : va_G) (E : EE) (a0 : Int32) (a1 : Int32) (a2 : Int32) (D : DD) (r : RT) (h : S_X13_setHardness a0 a1 a2 D = some r) : MM l G E yX13_setHardness cX13_setHardness 4 (some .int) (rmm 3) [.ref (E.1 84), .int a0, .int a1, .int a2] D r := by
  refine m_of rfl (Nat.le_of_ble_eq_true rfl) ?_
  intro p e s m args below meth c X hr
  unfold S_X13_setHardness at h
  refine g_aload_n X 0 (i0 := 0) dX13_setHardness_0 rfl rfl ?_
  obtain ⟨D2, e1, h⟩ := cV_s h
  refine g_V X (As := []) (rest := []) (c_X13_begins l G E  _ _ e1) 84 (wg_84 E _) rfl rfl kv_X13_91 ⟨rfl, rfl⟩ ⟨rfl, hd_X13_begins⟩ (⟨Nat.le_of_ble_eq_true rfl, Nat.le_of_ble_eq_true rfl⟩) rfl rfl (Nat.le_of_ble_eq_true rfl) dX13_setHardness_1 ?_
  refine g_aload_n X 0 (i0 := 0) dX13_setHardness_4 rfl rfl ?_
  refine g_aload_n X 0 (i0 := 0) dX13_setHardness_5 rfl rfl ?_
  refine g_iload_n X 1 (i0 := 1) dX13_setHardness_6 rfl rfl ?_
  refine g_iload_n X 2 (i0 := 2) dX13_setHardness_7 rfl rfl ?_
  refine g_iload_n X 3 (i0 := 3) dX13_setHardness_8 rfl rfl ?_
  obtain ⟨r5, D4, e3, h⟩ := cI_s h
  refine g_V X (As := [.int a0, .int a1, .int a2]) (rest := [.ref (E.1 84)]) (c_X13_hardens l G E a0 a1 a2 _ _ e3) 84 (wg_84 E _) rfl rfl kv_X13_94 ⟨rfl, rfl⟩ ⟨rfl, hd_X13_hardens⟩ (⟨Nat.le_of_ble_eq_true rfl, Nat.le_of_ble_eq_true rfl⟩) rfl rfl (Nat.le_of_ble_eq_true rfl) dX13_setHardness_9 ?_
  obtain ⟨r8, D7, e6, h⟩ := cI_s h
  refine g_V X (As := [.int r5]) (rest := []) (c_X13_ends l G E r5 _ _ e6) 84 (wg_84 E _) rfl rfl kv_X13_98 ⟨rfl, rfl⟩ ⟨rfl, hd_X13_ends⟩ (⟨Nat.le_of_ble_eq_true rfl, Nat.le_of_ble_eq_true rfl⟩) rfl rfl (Nat.le_of_ble_eq_true rfl) dX13_setHardness_12 ?_
  exact g_iret X hr rfl dX13_setHardness_15 (Option.some.inj h)
theorem hd_X13_beside : yX13_beside.cls ≠ "java/lang/invoke/MethodHandle" ∧ yX13_beside.cls ≠ "java/lang/invoke/VarHandle" ∧ (parseMethodDescriptor yX13_beside.desc).map (fun d => d.parameters.length) = some 2 := by decide +kernel
theorem wc_X13_beside : Cond.code yX13_beside cX13_beside 2 (some .int) ∈ UT := ut 1488 (by decide +kernel) (by decide +kernel)
theorem wt_X13_beside : Cond.static yX13_beside ∈ UT := ut 1487 (by decide +kernel) (by decide +kernel)
theorem ks_X13_101 : GoodIn UT (va_wsS RX13 101 yX13_beside (Cond.code yX13_beside cX13_beside 2 (some .int) :: UT)) := gu_S (ut 1486 (by decide +kernel) (by decide +kernel)) wt_X13_beside wi_RX13 wc_X13_beside
def b_X13_canReach_0 (a0 : Int32) (D : DD) : Option ((Nat × List Int32 × DD) ⊕ RT) := (if (a0 - a0 / (6 : Int32) * (6 : Int32)) = 0 then some (.inr (0, some (.int (1 : Int32)), D)) else some (.inl (1, [a0, (0 : Int32)], D)))
def b_X13_canReach_1 (x1 : Int32) (x2 : Int32) (D : DD) : Option ((Nat × List Int32 × DD) ⊕ RT) := (if (4 : Int32) ≤ x2 then some (.inr (0, some (.int (0 : Int32)), D)) else (cI (S_X13_beside x1 x2 D) (fun r4 D3 => (if r4 < 0 then some (.inl (1, [x1, (x2 + (1 : Int32))], D3)) else (cI (S_X13_beside x1 x2 D3) (fun r7 D6 => (cI (S_X13_hard r7 D6) (fun r10 D9 => (if r10 = 0 then some (.inr (0, some (.int (1 : Int32)), D9)) else some (.inl (1, [x1, (x2 + (1 : Int32))], D9)))))))))))
def T_X13_canReach (k : Nat) (ls : List Int32) (D : DD) : Option ((Nat × List Int32 × DD) ⊕ RT) := match k, ls with
  | 0, [a0] => b_X13_canReach_0 a0 D
  | 1, [x1, x2] => b_X13_canReach_1 x1 x2 D
  | _, _ => none
def S_X13_canReach (a0 : Int32) (D : DD) : Option RT := run T_X13_canReach FUEL 0 [a0] D
def hg_X13_canReach (p : Program) (l : Launch) (e : Env) (s : State) (m : MethodId) (args : Array Value) (below : List Frame) (meth : Method) (c : Code) (G : va_G) (E : EE) (r : RT) (k : Nat) (ls : List Int32) (D : DD) : Prop := match k, ls with
  | 0, [a0] => GW p l e (rmm 1) s m args below meth c G E 3 (MQ below (QR G E s.heap.size r) args s 0 0 (fr E s.heap.size)) 0 0 D 0 [(0, .ref (E.1 84)), (1, .int a0)] []
  | 1, [x1, x2] => GW p l e (rmm 1) s m args below meth c G E 3 (MQ below (QR G E s.heap.size r) args s 0 0 (fr E s.heap.size)) 0 0 D 11 [(0, .ref (E.1 84)), (1, .int x1), (2, .int x2)] []
  | _, _ => True
set_option maxRecDepth 100000 in
set_option maxHeartbeats 4000000 in
theorem bl_X13_canReach_0 {p : Program} {l : Launch} {e : Env} {s : State} {m : MethodId} {args : Array Value} {below : List Frame} {meth : Method} {c : Code} {G : va_G} {E : EE} {r : RT} (X : CX p s m args meth c cX13_canReach RX13 3 G E) (hr : meth.sig.returnType = (some .boolean)) (a0 : Int32) (D : DD) (o : (Nat × List Int32 × DD) ⊕ RT) (h : b_X13_canReach_0 a0 D = some o) (h1 : ∀ x, o = .inl x → hg_X13_canReach p l e s m args below meth c G E r x.1 x.2.1 x.2.2) (h2 : ∀ x, o = .inr x → x = r) : GW p l e (rmm 1) s m args below meth c G E 3 (MQ below (QR G E s.heap.size r) args s 0 0 (fr E s.heap.size)) 0 0 D 0 [(0, .ref (E.1 84)), (1, .int a0)] [] := by
  unfold b_X13_canReach_0 at h
  refine g_iload_n X 1 (i0 := 1) dX13_canReach_0 rfl rfl ?_
  refine g_bipush X (v := (6 : Int32)) dX13_canReach_1 (by decide) ?_
  refine g_irem X (by decide) dX13_canReach_3 ?_
  refine g_if_ne X (tgt := 9) dX13_canReach_4 (by decide) (fun c1 => ?_) (fun c1 => ?_)
  · have h := (ite_s h).2 c1
    refine g_iconst X (v := (0 : Int32)) dX13_canReach_9 (by decide) ?_
    refine g_istore_n X (i0 := 2) (lv' := [(2, .int (0 : Int32)), (0, .ref (E.1 84)), (1, .int a0)]) dX13_canReach_10 rfl (by decide) rfl ?_
    refine g_sub (lv' := [(0, .ref (E.1 84)), (1, .int a0), (2, .int (0 : Int32))]) [1, 2, 0] rfl ?_
    exact h1 _ (Option.some.inj h).symm
  · have h := (ite_s h).1 c1
    refine g_iconst X (v := (1 : Int32)) dX13_canReach_7 (by decide) ?_
    exact g_iret X hr rfl dX13_canReach_8 (h2 _ (Option.some.inj h).symm)
set_option maxRecDepth 100000 in
set_option maxHeartbeats 4000000 in
theorem bl_X13_canReach_1 {p : Program} {l : Launch} {e : Env} {s : State} {m : MethodId} {args : Array Value} {below : List Frame} {meth : Method} {c : Code} {G : va_G} {E : EE} {r : RT} (X : CX p s m args meth c cX13_canReach RX13 3 G E) (hr : meth.sig.returnType = (some .boolean)) (x1 : Int32) (x2 : Int32) (D : DD) (o : (Nat × List Int32 × DD) ⊕ RT) (h : b_X13_canReach_1 x1 x2 D = some o) (h1 : ∀ x, o = .inl x → hg_X13_canReach p l e s m args below meth c G E r x.1 x.2.1 x.2.2) (h2 : ∀ x, o = .inr x → x = r) : GW p l e (rmm 1) s m args below meth c G E 3 (MQ below (QR G E s.heap.size r) args s 0 0 (fr E s.heap.size)) 0 0 D 11 [(0, .ref (E.1 84)), (1, .int x1), (2, .int x2)] [] := by
  unfold b_X13_canReach_1 at h
  refine g_iload_n X 2 (i0 := 2) dX13_canReach_11 rfl rfl ?_
  refine g_iconst X (v := (4 : Int32)) dX13_canReach_12 (by decide) ?_
  refine g_icmp_ge X (tgt := 44) dX13_canReach_13 (by decide) (fun c13 => ?_) (fun c13 => ?_)
  · have h := (ite_s h).1 c13
    refine g_iconst X (v := (0 : Int32)) dX13_canReach_44 (by decide) ?_
    exact g_iret X hr rfl dX13_canReach_45 (h2 _ (Option.some.inj h).symm)
  · have h := (ite_s h).2 c13
    refine g_iload_n X 1 (i0 := 1) dX13_canReach_16 rfl rfl ?_
    refine g_iload_n X 2 (i0 := 2) dX13_canReach_17 rfl rfl ?_
    obtain ⟨r4, D3, e2, h⟩ := cI_s h
    refine g_S X (As := [.int x1, .int x2]) (rest := []) (c_X13_beside l G E x1 x2 _ _ e2) ks_X13_101 ⟨rfl, rfl⟩ hd_X13_beside (⟨Nat.le_of_ble_eq_true rfl, Nat.le_of_ble_eq_true rfl⟩) rfl rfl (Nat.le_of_ble_eq_true rfl) dX13_canReach_18 ?_
    refine g_if_lt X (tgt := 38) dX13_canReach_21 (by decide) (fun c12 => ?_) (fun c12 => ?_)
    · have h := (ite_s h).1 c12
      refine g_iinc X 2 (v := (x2 + (1 : Int32))) (lv' := [(2, .int (x2 + (1 : Int32))), (0, .ref (E.1 84)), (1, .int x1)]) dX13_canReach_38 rfl rfl (by decide) rfl ?_
      refine g_goto X (tgt := 11) dX13_canReach_41 (by decide) ?_
      refine g_sub (lv' := [(0, .ref (E.1 84)), (1, .int x1), (2, .int (x2 + (1 : Int32)))]) [1, 2, 0] rfl ?_
      exact h1 _ (Option.some.inj h).symm
    · have h := (ite_s h).2 c12
      refine g_aload_n X 0 (i0 := 0) dX13_canReach_24 rfl rfl ?_
      refine g_iload_n X 1 (i0 := 1) dX13_canReach_25 rfl rfl ?_
      refine g_iload_n X 2 (i0 := 2) dX13_canReach_26 rfl rfl ?_
      obtain ⟨r7, D6, e5, h⟩ := cI_s h
      refine g_S X (As := [.int x1, .int x2]) (rest := [.ref (E.1 84)]) (c_X13_beside l G E x1 x2 _ _ e5) ks_X13_101 ⟨rfl, rfl⟩ hd_X13_beside (⟨Nat.le_of_ble_eq_true rfl, Nat.le_of_ble_eq_true rfl⟩) rfl rfl (Nat.le_of_ble_eq_true rfl) dX13_canReach_27 ?_
      obtain ⟨r10, D9, e8, h⟩ := cI_s h
      refine g_V X (As := [.int r7]) (rest := []) (c_X13_hard l G E r7 _ _ e8) 84 (wg_84 E _) rfl rfl kv_X13_88 ⟨rfl, rfl⟩ ⟨rfl, hd_X13_hard⟩ (⟨Nat.le_of_ble_eq_true rfl, Nat.le_of_ble_eq_true rfl⟩) rfl rfl (Nat.le_of_ble_eq_true rfl) dX13_canReach_30 ?_
      refine g_if_ne X (tgt := 38) dX13_canReach_33 (by decide) (fun c11 => ?_) (fun c11 => ?_)
      · have h := (ite_s h).2 c11
        refine g_iinc X 2 (v := (x2 + (1 : Int32))) (lv' := [(2, .int (x2 + (1 : Int32))), (0, .ref (E.1 84)), (1, .int x1)]) dX13_canReach_38 rfl rfl (by decide) rfl ?_
        refine g_goto X (tgt := 11) dX13_canReach_41 (by decide) ?_
        refine g_sub (lv' := [(0, .ref (E.1 84)), (1, .int x1), (2, .int (x2 + (1 : Int32)))]) [1, 2, 0] rfl ?_
        exact h1 _ (Option.some.inj h).symm
      · have h := (ite_s h).1 c11
        refine g_iconst X (v := (1 : Int32)) dX13_canReach_36 (by decide) ?_
        exact g_iret X hr rfl dX13_canReach_37 (h2 _ (Option.some.inj h).symm)
set_option maxRecDepth 100000 in
set_option maxHeartbeats 4000000 in
theorem c_X13_canReach (l : Launch) (G : va_G) (E : EE) (a0 : Int32) (D : DD) (r : RT) (h : S_X13_canReach a0 D = some r) : MM l G E yX13_canReach cX13_canReach 3 (some .boolean) (rmm 1) [.ref (E.1 84), .int a0] D r := by
  unfold S_X13_canReach at h
  refine m_of rfl (Nat.le_of_ble_eq_true rfl) ?_
  intro p e s m args below meth c X hr
  exact run_G (T := T_X13_canReach) (HG := hg_X13_canReach p l e s m args below meth c G E r) (by
    intro k ls D o hT h1 h2
    unfold T_X13_canReach at hT
    split at hT
    · exact bl_X13_canReach_0 X hr _ D o hT h1 h2
    · exact bl_X13_canReach_1 X hr _ _ D o hT h1 h2
    · cases hT) FUEL 0 [a0] D h
theorem hd_X13_canReach : yX13_canReach.cls ≠ "java/lang/invoke/MethodHandle" ∧ yX13_canReach.cls ≠ "java/lang/invoke/VarHandle" ∧ (parseMethodDescriptor yX13_canReach.desc).map (fun d => d.parameters.length) = some 1 := by decide +kernel
theorem hd_X13_chargeIn : yX13_chargeIn.cls ≠ "java/lang/invoke/MethodHandle" ∧ yX13_chargeIn.cls ≠ "java/lang/invoke/VarHandle" ∧ (parseMethodDescriptor yX13_chargeIn.desc).map (fun d => d.parameters.length) = some 1 := by decide +kernel
theorem wc_X13_chargeIn : Cond.code yX13_chargeIn cX13_chargeIn 3 (some .int) ∈ UT := ut 1477 (by decide +kernel) (by decide +kernel)
theorem we_X13_chargeIn : Cond.selects RX13 yX13_chargeIn yX13_chargeIn ∈ UT := ut 43 (by decide +kernel) (by decide +kernel)
theorem wm_X13_chargeIn : Cond.instanceMethod yX13_chargeIn ∈ UT := ut 1476 (by decide +kernel) (by decide +kernel)
theorem kv_X13_104 : GoodIn UT (wsV RX13 104 RX13 yX13_chargeIn (Cond.code yX13_chargeIn cX13_chargeIn 3 (some .int) :: UT)) := gu_V (ut 1474 (by decide +kernel) (by decide +kernel)) wm_X13_chargeIn we_X13_chargeIn wi_RX13 wc_X13_chargeIn
theorem wc_X13_canReach : Cond.code yX13_canReach cX13_canReach 3 (some .boolean) ∈ UT := ut 1485 (by decide +kernel) (by decide +kernel)
theorem we_X13_canReach : Cond.selects RX13 yX13_canReach yX13_canReach ∈ UT := ut 45 (by decide +kernel) (by decide +kernel)
theorem wm_X13_canReach : Cond.instanceMethod yX13_canReach ∈ UT := ut 1484 (by decide +kernel) (by decide +kernel)
theorem kv_X13_107 : GoodIn UT (wsV RX13 107 RX13 yX13_canReach (Cond.code yX13_canReach cX13_canReach 3 (some .boolean) :: UT)) := gu_V (ut 1482 (by decide +kernel) (by decide +kernel)) wm_X13_canReach we_X13_canReach wi_RX13 wc_X13_canReach
def S_X13_digs (a0 : Int32) (a1 : Int32) (D : DD) : Option RT := (cI (S_X13_isCell a0 a1 D) (fun r3 D2 => (if r3 = 0 then (cI (S_X13_fail (1 : Int32) D2) (fun r35 D34 => some (0, some (.int r35), D34))) else (cI (S_X13_cell a0 a1 D2) (fun r6 D5 => (cI (S_X13_hard r6 D5) (fun r9 D8 => (if r9 = 0 then (cI (S_X13_fail (2 : Int32) D8) (fun r12 D11 => some (0, some (.int r12), D11))) else (cI (S_X13_chargeIn r6 D8) (fun r15 D14 => (if 0 ≤ r15 then (cI (S_X13_fail (2 : Int32) D14) (fun r18 D17 => some (0, some (.int r18), D17))) else (cI (S_X13_canReach r6 D14) (fun r21 D20 => (if r21 = 0 then (cI (S_X13_fail (2 : Int32) D20) (fun r29 D28 => some (0, some (.int r29), D28))) else (if r9 ≤ ((D20.2.2.1 70) (0 : Int32).toNatClampNeg) then (if inB ((4 : Int32) + r6) 62 = true then some (0, some (.int ((upd (upd (upd (D20.2.2.1 70) (0 : Int32).toNatClampNeg (((D20.2.2.1 70) (0 : Int32).toNatClampNeg) - r9)) (1 : Int32).toNatClampNeg (((upd (D20.2.2.1 70) (0 : Int32).toNatClampNeg (((D20.2.2.1 70) (0 : Int32).toNatClampNeg) - r9)) (1 : Int32).toNatClampNeg) + r9)) ((4 : Int32) + r6).toNatClampNeg (0 : Int32)) (0 : Int32).toNatClampNeg)), (setA (setA (setA D20 70 (upd (D20.2.2.1 70) (0 : Int32).toNatClampNeg (((D20.2.2.1 70) (0 : Int32).toNatClampNeg) - r9))) 70 (upd (upd (D20.2.2.1 70) (0 : Int32).toNatClampNeg (((D20.2.2.1 70) (0 : Int32).toNatClampNeg) - r9)) (1 : Int32).toNatClampNeg (((upd (D20.2.2.1 70) (0 : Int32).toNatClampNeg (((D20.2.2.1 70) (0 : Int32).toNatClampNeg) - r9)) (1 : Int32).toNatClampNeg) + r9))) 70 (upd (upd (upd (D20.2.2.1 70) (0 : Int32).toNatClampNeg (((D20.2.2.1 70) (0 : Int32).toNatClampNeg) - r9)) (1 : Int32).toNatClampNeg (((upd (D20.2.2.1 70) (0 : Int32).toNatClampNeg (((D20.2.2.1 70) (0 : Int32).toNatClampNeg) - r9)) (1 : Int32).toNatClampNeg) + r9)) ((4 : Int32) + r6).toNatClampNeg (0 : Int32)))) else none) else (cI (S_X13_fail (3 : Int32) D20) (fun r25 D24 => some (0, some (.int r25), D24))))))))))))))))))
set_option maxRecDepth 100000 in
set_option maxHeartbeats 4000000 in
theorem c_X13_digs (l : Launch) (G : va_G) (E : EE) (a0 : Int32) (a1 : Int32) (D : DD) (r : RT) (h : S_X13_digs a0 a1 D = some r) : MM l G E yX13_digs cX13_digs 5 (some .int) (rmm 2) [.ref (E.1 84), .int a0, .int a1] D r := by
  refine m_of rfl (Nat.le_of_ble_eq_true rfl) ?_
  intro p e s m args below meth c X hr
  unfold S_X13_digs at h
  refine g_iload_n X 1 (i0 := 1) dX13_digs_0 rfl rfl ?_
  refine g_iload_n X 2 (i0 := 2) dX13_digs_1 rfl rfl ?_
  obtain ⟨r3, D2, e1, h⟩ := cI_s h
  refine g_S X (As := [.int a0, .int a1]) (rest := []) (c_X13_isCell l G E a0 a1 _ _ e1) ks_X13_77 ⟨rfl, rfl⟩ hd_X13_isCell (⟨Nat.le_of_ble_eq_true rfl, Nat.le_of_ble_eq_true rfl⟩) rfl rfl (Nat.le_of_ble_eq_true rfl) dX13_digs_2 ?_
  refine g_if_ne X (tgt := 14) dX13_digs_5 (by decide) (fun c36 => ?_) (fun c36 => ?_)
  · have h := (ite_s h).2 c36
    refine g_iload_n X 1 (i0 := 1) dX13_digs_14 rfl rfl ?_
    refine g_iload_n X 2 (i0 := 2) dX13_digs_15 rfl rfl ?_
    obtain ⟨r6, D5, e4, h⟩ := cI_s h
    refine g_S X (As := [.int a0, .int a1]) (rest := []) (c_X13_cell l G E a0 a1 _ _ e4) ks_X13_84 ⟨rfl, rfl⟩ hd_X13_cell (⟨Nat.le_of_ble_eq_true rfl, Nat.le_of_ble_eq_true rfl⟩) rfl rfl (Nat.le_of_ble_eq_true rfl) dX13_digs_16 ?_
    refine g_istore_n X (i0 := 3) (lv' := [(3, .int r6), (0, .ref (E.1 84)), (1, .int a0), (2, .int a1)]) dX13_digs_19 rfl (by decide) rfl ?_
    refine g_aload_n X 1 (i0 := 0) dX13_digs_20 rfl rfl ?_
    refine g_iload_n X 0 (i0 := 3) dX13_digs_21 rfl rfl ?_
    obtain ⟨r9, D8, e7, h⟩ := cI_s h
    refine g_V X (As := [.int r6]) (rest := []) (c_X13_hard l G E r6 _ _ e7) 84 (wg_84 E _) rfl rfl kv_X13_88 ⟨rfl, rfl⟩ ⟨rfl, hd_X13_hard⟩ (⟨Nat.le_of_ble_eq_true rfl, Nat.le_of_ble_eq_true rfl⟩) rfl rfl (Nat.le_of_ble_eq_true rfl) dX13_digs_22 ?_
    refine g_istore X (lv' := [(4, .int r9), (3, .int r6), (0, .ref (E.1 84)), (1, .int a0), (2, .int a1)]) dX13_digs_25 (by decide) rfl ?_
    refine g_iload X 0 dX13_digs_27 rfl ?_
    refine g_if_eq X (tgt := 48) dX13_digs_29 (by decide) (fun c32 => ?_) (fun c32 => ?_)
    · have h := (ite_s h).1 c32
      refine g_aload_n X 2 (i0 := 0) dX13_digs_48 rfl rfl ?_
      refine g_iconst X (v := (2 : Int32)) dX13_digs_49 (by decide) ?_
      obtain ⟨r12, D11, e10, h⟩ := cI_s h
      refine g_V X (As := [.int (2 : Int32)]) (rest := []) (c_X13_fail l G E (2 : Int32) _ _ e10) 84 (wg_84 E _) rfl rfl kv_X13_81 ⟨rfl, rfl⟩ ⟨rfl, hd_X13_fail⟩ (⟨Nat.le_of_ble_eq_true rfl, Nat.le_of_ble_eq_true rfl⟩) rfl rfl (Nat.le_of_ble_eq_true rfl) dX13_digs_50 ?_
      exact g_iret X hr rfl dX13_digs_53 (Option.some.inj h)
    · have h := (ite_s h).2 c32
      refine g_aload_n X 2 (i0 := 0) dX13_digs_32 rfl rfl ?_
      refine g_iload_n X 1 (i0 := 3) dX13_digs_33 rfl rfl ?_
      obtain ⟨r15, D14, e13, h⟩ := cI_s h
      refine g_V X (As := [.int r6]) (rest := []) (c_X13_chargeIn l G E r6 _ _ e13) 84 (wg_84 E _) rfl rfl kv_X13_104 ⟨rfl, rfl⟩ ⟨rfl, hd_X13_chargeIn⟩ (⟨Nat.le_of_ble_eq_true rfl, Nat.le_of_ble_eq_true rfl⟩) rfl rfl (Nat.le_of_ble_eq_true rfl) dX13_digs_34 ?_
      refine g_if_ge X (tgt := 48) dX13_digs_37 (by decide) (fun c31 => ?_) (fun c31 => ?_)
      · have h := (ite_s h).1 c31
        refine g_aload_n X 2 (i0 := 0) dX13_digs_48 rfl rfl ?_
        refine g_iconst X (v := (2 : Int32)) dX13_digs_49 (by decide) ?_
        obtain ⟨r18, D17, e16, h⟩ := cI_s h
        refine g_V X (As := [.int (2 : Int32)]) (rest := []) (c_X13_fail l G E (2 : Int32) _ _ e16) 84 (wg_84 E _) rfl rfl kv_X13_81 ⟨rfl, rfl⟩ ⟨rfl, hd_X13_fail⟩ (⟨Nat.le_of_ble_eq_true rfl, Nat.le_of_ble_eq_true rfl⟩) rfl rfl (Nat.le_of_ble_eq_true rfl) dX13_digs_50 ?_
        exact g_iret X hr rfl dX13_digs_53 (Option.some.inj h)
      · have h := (ite_s h).2 c31
        refine g_aload_n X 2 (i0 := 0) dX13_digs_40 rfl rfl ?_
        refine g_iload_n X 1 (i0 := 3) dX13_digs_41 rfl rfl ?_
        obtain ⟨r21, D20, e19, h⟩ := cI_s h
        refine g_V X (As := [.int r6]) (rest := []) (c_X13_canReach l G E r6 _ _ e19) 84 (wg_84 E _) rfl rfl kv_X13_107 ⟨rfl, rfl⟩ ⟨rfl, hd_X13_canReach⟩ (⟨Nat.le_of_ble_eq_true rfl, Nat.le_of_ble_eq_true rfl⟩) rfl rfl (Nat.le_of_ble_eq_true rfl) dX13_digs_42 ?_
        refine g_if_ne X (tgt := 54) dX13_digs_45 (by decide) (fun c30 => ?_) (fun c30 => ?_)
        · have h := (ite_s h).2 c30
          refine g_aload_n X 2 (i0 := 0) dX13_digs_54 rfl rfl ?_
          refine g_get X (D := D20) (v := .ref (E.1 85)) (T := TX13) 84 uX13 (wg_84 E _) rfl 5 (by decide) fl_X13_16 rfl rfl dX13_digs_55 ?_
          refine g_iconst X (v := (0 : Int32)) dX13_digs_58 (by decide) ?_
          refine g_iald X (D := D20) (f := (D20.2.2.1 70)) (i := (0 : Int32)) 85 (wg_85 E _) (inB_vp (by decide)) dX13_digs_59 ?_
          refine g_iload X 0 dX13_digs_60 rfl ?_
          refine g_icmp_ge X (tgt := 71) dX13_digs_62 (by decide) (fun c26 => ?_) (fun c26 => ?_)
          · have h := (ite_s h).1 c26
            refine g_aload_n X 2 (i0 := 0) dX13_digs_71 rfl rfl ?_
            refine g_get X (D := D20) (v := .ref (E.1 85)) (T := TX13) 84 uX13 (wg_84 E _) rfl 5 (by decide) fl_X13_16 rfl rfl dX13_digs_72 ?_
            refine g_iconst X (v := (0 : Int32)) dX13_digs_75 (by decide) ?_
            refine g_dup2 X dX13_digs_76 rfl rfl ?_
            refine g_iald X (D := D20) (f := (D20.2.2.1 70)) (i := (0 : Int32)) 85 (wg_85 E _) (inB_vp (by decide)) dX13_digs_77 ?_
            refine g_iload X 0 dX13_digs_78 rfl ?_
            refine g_isub X dX13_digs_80 ?_
            refine g_iast X (D := D20) (f := (D20.2.2.1 70)) (i := (0 : Int32)) (x := (((D20.2.2.1 70) (0 : Int32).toNatClampNeg) - r9)) (D' := (setA D20 70 (upd (D20.2.2.1 70) (0 : Int32).toNatClampNeg (((D20.2.2.1 70) (0 : Int32).toNatClampNeg) - r9)))) 85 (wg_85 E _) (inB_vp (by decide)) (ws_A_70 E _ _) dX13_digs_81 ?_
            refine g_aload_n X 2 (i0 := 0) dX13_digs_82 rfl rfl ?_
            refine g_get X (D := (setA D20 70 (upd (D20.2.2.1 70) (0 : Int32).toNatClampNeg (((D20.2.2.1 70) (0 : Int32).toNatClampNeg) - r9)))) (v := .ref (E.1 85)) (T := TX13) 84 uX13 (wg_84 E _) rfl 5 (by decide) fl_X13_16 rfl rfl dX13_digs_83 ?_
            refine g_iconst X (v := (1 : Int32)) dX13_digs_86 (by decide) ?_
            refine g_dup2 X dX13_digs_87 rfl rfl ?_
            refine g_iald X (D := (setA D20 70 (upd (D20.2.2.1 70) (0 : Int32).toNatClampNeg (((D20.2.2.1 70) (0 : Int32).toNatClampNeg) - r9)))) (f := (upd (D20.2.2.1 70) (0 : Int32).toNatClampNeg (((D20.2.2.1 70) (0 : Int32).toNatClampNeg) - r9))) (i := (1 : Int32)) 85 (wg_85 E _) (inB_vp (by decide)) dX13_digs_88 ?_
            refine g_iload X 0 dX13_digs_89 rfl ?_
            refine g_iadd X dX13_digs_91 ?_
            refine g_iast X (D := (setA D20 70 (upd (D20.2.2.1 70) (0 : Int32).toNatClampNeg (((D20.2.2.1 70) (0 : Int32).toNatClampNeg) - r9)))) (f := (upd (D20.2.2.1 70) (0 : Int32).toNatClampNeg (((D20.2.2.1 70) (0 : Int32).toNatClampNeg) - r9))) (i := (1 : Int32)) (x := (((upd (D20.2.2.1 70) (0 : Int32).toNatClampNeg (((D20.2.2.1 70) (0 : Int32).toNatClampNeg) - r9)) (1 : Int32).toNatClampNeg) + r9)) (D' := (setA (setA D20 70 (upd (D20.2.2.1 70) (0 : Int32).toNatClampNeg (((D20.2.2.1 70) (0 : Int32).toNatClampNeg) - r9))) 70 (upd (upd (D20.2.2.1 70) (0 : Int32).toNatClampNeg (((D20.2.2.1 70) (0 : Int32).toNatClampNeg) - r9)) (1 : Int32).toNatClampNeg (((upd (D20.2.2.1 70) (0 : Int32).toNatClampNeg (((D20.2.2.1 70) (0 : Int32).toNatClampNeg) - r9)) (1 : Int32).toNatClampNeg) + r9)))) 85 (wg_85 E _) (inB_vp (by decide)) (ws_A_70 E _ _) dX13_digs_92 ?_
            refine g_aload_n X 2 (i0 := 0) dX13_digs_93 rfl rfl ?_
            refine g_get X (D := (setA (setA D20 70 (upd (D20.2.2.1 70) (0 : Int32).toNatClampNeg (((D20.2.2.1 70) (0 : Int32).toNatClampNeg) - r9))) 70 (upd (upd (D20.2.2.1 70) (0 : Int32).toNatClampNeg (((D20.2.2.1 70) (0 : Int32).toNatClampNeg) - r9)) (1 : Int32).toNatClampNeg (((upd (D20.2.2.1 70) (0 : Int32).toNatClampNeg (((D20.2.2.1 70) (0 : Int32).toNatClampNeg) - r9)) (1 : Int32).toNatClampNeg) + r9)))) (v := .ref (E.1 85)) (T := TX13) 84 uX13 (wg_84 E _) rfl 5 (by decide) fl_X13_16 rfl rfl dX13_digs_94 ?_
            refine g_iconst X (v := (4 : Int32)) dX13_digs_97 (by decide) ?_
            refine g_iload_n X 1 (i0 := 3) dX13_digs_98 rfl rfl ?_
            refine g_iadd X dX13_digs_99 ?_
            refine g_iconst X (v := (0 : Int32)) dX13_digs_100 (by decide) ?_
            obtain ⟨b22, h⟩ := chk_s h
            refine g_iast X (D := (setA (setA D20 70 (upd (D20.2.2.1 70) (0 : Int32).toNatClampNeg (((D20.2.2.1 70) (0 : Int32).toNatClampNeg) - r9))) 70 (upd (upd (D20.2.2.1 70) (0 : Int32).toNatClampNeg (((D20.2.2.1 70) (0 : Int32).toNatClampNeg) - r9)) (1 : Int32).toNatClampNeg (((upd (D20.2.2.1 70) (0 : Int32).toNatClampNeg (((D20.2.2.1 70) (0 : Int32).toNatClampNeg) - r9)) (1 : Int32).toNatClampNeg) + r9)))) (f := (upd (upd (D20.2.2.1 70) (0 : Int32).toNatClampNeg (((D20.2.2.1 70) (0 : Int32).toNatClampNeg) - r9)) (1 : Int32).toNatClampNeg (((upd (D20.2.2.1 70) (0 : Int32).toNatClampNeg (((D20.2.2.1 70) (0 : Int32).toNatClampNeg) - r9)) (1 : Int32).toNatClampNeg) + r9))) (i := ((4 : Int32) + r6)) (x := (0 : Int32)) (D' := (setA (setA (setA D20 70 (upd (D20.2.2.1 70) (0 : Int32).toNatClampNeg (((D20.2.2.1 70) (0 : Int32).toNatClampNeg) - r9))) 70 (upd (upd (D20.2.2.1 70) (0 : Int32).toNatClampNeg (((D20.2.2.1 70) (0 : Int32).toNatClampNeg) - r9)) (1 : Int32).toNatClampNeg (((upd (D20.2.2.1 70) (0 : Int32).toNatClampNeg (((D20.2.2.1 70) (0 : Int32).toNatClampNeg) - r9)) (1 : Int32).toNatClampNeg) + r9))) 70 (upd (upd (upd (D20.2.2.1 70) (0 : Int32).toNatClampNeg (((D20.2.2.1 70) (0 : Int32).toNatClampNeg) - r9)) (1 : Int32).toNatClampNeg (((upd (D20.2.2.1 70) (0 : Int32).toNatClampNeg (((D20.2.2.1 70) (0 : Int32).toNatClampNeg) - r9)) (1 : Int32).toNatClampNeg) + r9)) ((4 : Int32) + r6).toNatClampNeg (0 : Int32)))) 85 (wg_85 E _) (inB_vp b22) (ws_A_70 E _ _) dX13_digs_101 ?_
            refine g_aload_n X 2 (i0 := 0) dX13_digs_102 rfl rfl ?_
            refine g_get X (D := (setA (setA (setA D20 70 (upd (D20.2.2.1 70) (0 : Int32).toNatClampNeg (((D20.2.2.1 70) (0 : Int32).toNatClampNeg) - r9))) 70 (upd (upd (D20.2.2.1 70) (0 : Int32).toNatClampNeg (((D20.2.2.1 70) (0 : Int32).toNatClampNeg) - r9)) (1 : Int32).toNatClampNeg (((upd (D20.2.2.1 70) (0 : Int32).toNatClampNeg (((D20.2.2.1 70) (0 : Int32).toNatClampNeg) - r9)) (1 : Int32).toNatClampNeg) + r9))) 70 (upd (upd (upd (D20.2.2.1 70) (0 : Int32).toNatClampNeg (((D20.2.2.1 70) (0 : Int32).toNatClampNeg) - r9)) (1 : Int32).toNatClampNeg (((upd (D20.2.2.1 70) (0 : Int32).toNatClampNeg (((D20.2.2.1 70) (0 : Int32).toNatClampNeg) - r9)) (1 : Int32).toNatClampNeg) + r9)) ((4 : Int32) + r6).toNatClampNeg (0 : Int32)))) (v := .ref (E.1 85)) (T := TX13) 84 uX13 (wg_84 E _) rfl 5 (by decide) fl_X13_16 rfl rfl dX13_digs_103 ?_
            refine g_iconst X (v := (0 : Int32)) dX13_digs_106 (by decide) ?_
            refine g_iald X (D := (setA (setA (setA D20 70 (upd (D20.2.2.1 70) (0 : Int32).toNatClampNeg (((D20.2.2.1 70) (0 : Int32).toNatClampNeg) - r9))) 70 (upd (upd (D20.2.2.1 70) (0 : Int32).toNatClampNeg (((D20.2.2.1 70) (0 : Int32).toNatClampNeg) - r9)) (1 : Int32).toNatClampNeg (((upd (D20.2.2.1 70) (0 : Int32).toNatClampNeg (((D20.2.2.1 70) (0 : Int32).toNatClampNeg) - r9)) (1 : Int32).toNatClampNeg) + r9))) 70 (upd (upd (upd (D20.2.2.1 70) (0 : Int32).toNatClampNeg (((D20.2.2.1 70) (0 : Int32).toNatClampNeg) - r9)) (1 : Int32).toNatClampNeg (((upd (D20.2.2.1 70) (0 : Int32).toNatClampNeg (((D20.2.2.1 70) (0 : Int32).toNatClampNeg) - r9)) (1 : Int32).toNatClampNeg) + r9)) ((4 : Int32) + r6).toNatClampNeg (0 : Int32)))) (f := (upd (upd (upd (D20.2.2.1 70) (0 : Int32).toNatClampNeg (((D20.2.2.1 70) (0 : Int32).toNatClampNeg) - r9)) (1 : Int32).toNatClampNeg (((upd (D20.2.2.1 70) (0 : Int32).toNatClampNeg (((D20.2.2.1 70) (0 : Int32).toNatClampNeg) - r9)) (1 : Int32).toNatClampNeg) + r9)) ((4 : Int32) + r6).toNatClampNeg (0 : Int32))) (i := (0 : Int32)) 85 (wg_85 E _) (inB_vp (by decide)) dX13_digs_107 ?_
            exact g_iret X hr rfl dX13_digs_108 (Option.some.inj h)
          · have h := (ite_s h).2 c26
            refine g_aload_n X 2 (i0 := 0) dX13_digs_65 rfl rfl ?_
            refine g_iconst X (v := (3 : Int32)) dX13_digs_66 (by decide) ?_
            obtain ⟨r25, D24, e23, h⟩ := cI_s h
            refine g_V X (As := [.int (3 : Int32)]) (rest := []) (c_X13_fail l G E (3 : Int32) _ _ e23) 84 (wg_84 E _) rfl rfl kv_X13_81 ⟨rfl, rfl⟩ ⟨rfl, hd_X13_fail⟩ (⟨Nat.le_of_ble_eq_true rfl, Nat.le_of_ble_eq_true rfl⟩) rfl rfl (Nat.le_of_ble_eq_true rfl) dX13_digs_67 ?_
            exact g_iret X hr rfl dX13_digs_70 (Option.some.inj h)
        · have h := (ite_s h).1 c30
          refine g_aload_n X 2 (i0 := 0) dX13_digs_48 rfl rfl ?_
          refine g_iconst X (v := (2 : Int32)) dX13_digs_49 (by decide) ?_
          obtain ⟨r29, D28, e27, h⟩ := cI_s h
          refine g_V X (As := [.int (2 : Int32)]) (rest := []) (c_X13_fail l G E (2 : Int32) _ _ e27) 84 (wg_84 E _) rfl rfl kv_X13_81 ⟨rfl, rfl⟩ ⟨rfl, hd_X13_fail⟩ (⟨Nat.le_of_ble_eq_true rfl, Nat.le_of_ble_eq_true rfl⟩) rfl rfl (Nat.le_of_ble_eq_true rfl) dX13_digs_50 ?_
          exact g_iret X hr rfl dX13_digs_53 (Option.some.inj h)
  · have h := (ite_s h).1 c36
    refine g_aload_n X 0 (i0 := 0) dX13_digs_8 rfl rfl ?_
    refine g_iconst X (v := (1 : Int32)) dX13_digs_9 (by decide) ?_
    obtain ⟨r35, D34, e33, h⟩ := cI_s h
    refine g_V X (As := [.int (1 : Int32)]) (rest := []) (c_X13_fail l G E (1 : Int32) _ _ e33) 84 (wg_84 E _) rfl rfl kv_X13_81 ⟨rfl, rfl⟩ ⟨rfl, hd_X13_fail⟩ (⟨Nat.le_of_ble_eq_true rfl, Nat.le_of_ble_eq_true rfl⟩) rfl rfl (Nat.le_of_ble_eq_true rfl) dX13_digs_10 ?_
    exact g_iret X hr rfl dX13_digs_13 (Option.some.inj h)
theorem hd_X13_digs : yX13_digs.cls ≠ "java/lang/invoke/MethodHandle" ∧ yX13_digs.cls ≠ "java/lang/invoke/VarHandle" ∧ (parseMethodDescriptor yX13_digs.desc).map (fun d => d.parameters.length) = some 2 := by decide +kernel
theorem wc_X13_digs : Cond.code yX13_digs cX13_digs 5 (some .int) ∈ UT := ut 1473 (by decide +kernel) (by decide +kernel)
theorem we_X13_digs : Cond.selects RX13 yX13_digs yX13_digs ∈ UT := ut 42 (by decide +kernel) (by decide +kernel)
theorem wm_X13_digs : Cond.instanceMethod yX13_digs ∈ UT := ut 1472 (by decide +kernel) (by decide +kernel)
theorem kv_X13_111 : GoodIn UT (wsV RX13 111 RX13 yX13_digs (Cond.code yX13_digs cX13_digs 5 (some .int) :: UT)) := gu_V (ut 1470 (by decide +kernel) (by decide +kernel)) wm_X13_digs we_X13_digs wi_RX13 wc_X13_digs
def S_X13_dig (a0 : Int32) (a1 : Int32) (D : DD) : Option RT := (cV (S_X13_begins D) (fun D2 => (cI (S_X13_digs a0 a1 D2) (fun r5 D4 => (cI (S_X13_ends r5 D4) (fun r8 D7 => some (0, some (.long r8.toInt64), D7)))))))
set_option maxRecDepth 100000 in
set_option maxHeartbeats 4000000 in
theorem c_X13_dig (l : Launch) (G : va_G) (E : EE) (a0 : Int32) (a1 : Int32) (D : DD) (r : RT) (h : S_X13_dig a0 a1 D = some r) : MM l G E yX13_dig cX13_dig 3 (some .long) (rmm 3) [.ref (E.1 84), .int a0, .int a1] D r := by
  refine m_of rfl (Nat.le_of_ble_eq_true rfl) ?_
  intro p e s m args below meth c X hr
  unfold S_X13_dig at h
  refine g_aload_n X 0 (i0 := 0) dX13_dig_0 rfl rfl ?_
  obtain ⟨D2, e1, h⟩ := cV_s h
  refine g_V X (As := []) (rest := []) (c_X13_begins l G E  _ _ e1) 84 (wg_84 E _) rfl rfl kv_X13_91 ⟨rfl, rfl⟩ ⟨rfl, hd_X13_begins⟩ (⟨Nat.le_of_ble_eq_true rfl, Nat.le_of_ble_eq_true rfl⟩) rfl rfl (Nat.le_of_ble_eq_true rfl) dX13_dig_1 ?_
  refine g_aload_n X 0 (i0 := 0) dX13_dig_4 rfl rfl ?_
  refine g_aload_n X 0 (i0 := 0) dX13_dig_5 rfl rfl ?_
  refine g_iload_n X 1 (i0 := 1) dX13_dig_6 rfl rfl ?_
  refine g_iload_n X 2 (i0 := 2) dX13_dig_7 rfl rfl ?_
  obtain ⟨r5, D4, e3, h⟩ := cI_s h
  refine g_V X (As := [.int a0, .int a1]) (rest := [.ref (E.1 84)]) (c_X13_digs l G E a0 a1 _ _ e3) 84 (wg_84 E _) rfl rfl kv_X13_111 ⟨rfl, rfl⟩ ⟨rfl, hd_X13_digs⟩ (⟨Nat.le_of_ble_eq_true rfl, Nat.le_of_ble_eq_true rfl⟩) rfl rfl (Nat.le_of_ble_eq_true rfl) dX13_dig_8 ?_
  obtain ⟨r8, D7, e6, h⟩ := cI_s h
  refine g_V X (As := [.int r5]) (rest := []) (c_X13_ends l G E r5 _ _ e6) 84 (wg_84 E _) rfl rfl kv_X13_98 ⟨rfl, rfl⟩ ⟨rfl, hd_X13_ends⟩ (⟨Nat.le_of_ble_eq_true rfl, Nat.le_of_ble_eq_true rfl⟩) rfl rfl (Nat.le_of_ble_eq_true rfl) dX13_dig_11 ?_
  refine g_i2l X dX13_dig_14 ?_
  exact g_lret X hr dX13_dig_15 (Option.some.inj h)
def S_X13_hardnessOf (a0 : Int32) (a1 : Int32) (D : DD) : Option RT := (cI (S_X13_isCell a0 a1 D) (fun r3 D2 => (if r3 = 0 then (if (1 : Int32) = 0 then (cI (S_X13_cell a0 a1 (setI D2 140 (1 : Int32))) (fun r27 D26 => (cI (S_X13_hard r27 D26) (fun r30 D29 => some (0, some (.int r30), D29))))) else some (0, some (.int (0 : Int32)), (setI D2 140 (1 : Int32)))) else (cI (S_X13_cell a0 a1 D2) (fun r6 D5 => (cI (S_X13_hard r6 D5) (fun r9 D8 => (if r9 = 0 then (if (2 : Int32) = 0 then (cI (S_X13_cell a0 a1 (setI D8 140 (2 : Int32))) (fun r19 D18 => (cI (S_X13_hard r19 D18) (fun r22 D21 => some (0, some (.int r22), D21))))) else some (0, some (.int (0 : Int32)), (setI D8 140 (2 : Int32)))) else (if (0 : Int32) = 0 then (cI (S_X13_cell a0 a1 (setI D8 140 (0 : Int32))) (fun r12 D11 => (cI (S_X13_hard r12 D11) (fun r15 D14 => some (0, some (.int r15), D14))))) else some (0, some (.int (0 : Int32)), (setI D8 140 (0 : Int32))))))))))))
set_option maxRecDepth 100000 in
set_option maxHeartbeats 4000000 in
theorem c_X13_hardnessOf (l : Launch) (G : va_G) (E : EE) (a0 : Int32) (a1 : Int32) (D : DD) (r : RT) (h : S_X13_hardnessOf a0 a1 D = some r) : MM l G E yX13_hardnessOf cX13_hardnessOf 3 (some .int) (rmm 2) [.ref (E.1 84), .int a0, .int a1] D r := by
  refine m_of rfl (Nat.le_of_ble_eq_true rfl) ?_
  intro p e s m args below meth c X hr
  unfold S_X13_hardnessOf at h
  refine g_aload_n X 0 (i0 := 0) dX13_hardnessOf_0 rfl rfl ?_
  refine g_iload_n X 1 (i0 := 1) dX13_hardnessOf_1 rfl rfl ?_
  refine g_iload_n X 2 (i0 := 2) dX13_hardnessOf_2 rfl rfl ?_
  obtain ⟨r3, D2, e1, h⟩ := cI_s h
  refine g_S X (As := [.int a0, .int a1]) (rest := [.ref (E.1 84)]) (c_X13_isCell l G E a0 a1 _ _ e1) ks_X13_77 ⟨rfl, rfl⟩ hd_X13_isCell (⟨Nat.le_of_ble_eq_true rfl, Nat.le_of_ble_eq_true rfl⟩) rfl rfl (Nat.le_of_ble_eq_true rfl) dX13_hardnessOf_3 ?_
  refine g_if_ne X (tgt := 13) dX13_hardnessOf_6 (by decide) (fun c32 => ?_) (fun c32 => ?_)
  · have h := (ite_s h).2 c32
    refine g_aload_n X 0 (i0 := 0) dX13_hardnessOf_13 rfl rfl ?_
    refine g_iload_n X 1 (i0 := 1) dX13_hardnessOf_14 rfl rfl ?_
    refine g_iload_n X 2 (i0 := 2) dX13_hardnessOf_15 rfl rfl ?_
    obtain ⟨r6, D5, e4, h⟩ := cI_s h
    refine g_S X (As := [.int a0, .int a1]) (rest := [.ref (E.1 84), .ref (E.1 84)]) (c_X13_cell l G E a0 a1 _ _ e4) ks_X13_84 ⟨rfl, rfl⟩ hd_X13_cell (⟨Nat.le_of_ble_eq_true rfl, Nat.le_of_ble_eq_true rfl⟩) rfl rfl (Nat.le_of_ble_eq_true rfl) dX13_hardnessOf_16 ?_
    obtain ⟨r9, D8, e7, h⟩ := cI_s h
    refine g_V X (As := [.int r6]) (rest := [.ref (E.1 84)]) (c_X13_hard l G E r6 _ _ e7) 84 (wg_84 E _) rfl rfl kv_X13_88 ⟨rfl, rfl⟩ ⟨rfl, hd_X13_hard⟩ (⟨Nat.le_of_ble_eq_true rfl, Nat.le_of_ble_eq_true rfl⟩) rfl rfl (Nat.le_of_ble_eq_true rfl) dX13_hardnessOf_19 ?_
    refine g_if_ne X (tgt := 29) dX13_hardnessOf_22 (by decide) (fun c24 => ?_) (fun c24 => ?_)
    · have h := (ite_s h).2 c24
      refine g_iconst X (v := (0 : Int32)) dX13_hardnessOf_29 (by decide) ?_
      refine g_put X (D := D8) (v := .int (0 : Int32)) (T := TX13) (D' := (setI D8 140 (0 : Int32))) 84 uX13 tyX13 tyX13_ok nmX13 (wg_84 E _) rfl 0 (by decide) fl_X13_59 rfl rfl rfl rfl (Nat.le_of_ble_eq_true rfl) (ws_I_140 E _ _) dX13_hardnessOf_30 ?_
      refine g_aload_n X 0 (i0 := 0) dX13_hardnessOf_33 rfl rfl ?_
      refine g_get X (D := (setI D8 140 (0 : Int32))) (v := .int (0 : Int32)) (T := TX13) 84 uX13 (wg_84 E _) rfl 0 (by decide) fl_X13_59 rfl rfl dX13_hardnessOf_34 ?_
      refine g_if_ne X (tgt := 52) dX13_hardnessOf_37 (by decide) (fun c16 => ?_) (fun c16 => ?_)
      · have h := (ite_s h).2 c16
        refine g_iconst X (v := (0 : Int32)) dX13_hardnessOf_52 (by decide) ?_
        exact g_iret X hr rfl dX13_hardnessOf_53 (Option.some.inj h)
      · have h := (ite_s h).1 c16
        refine g_aload_n X 0 (i0 := 0) dX13_hardnessOf_40 rfl rfl ?_
        refine g_iload_n X 1 (i0 := 1) dX13_hardnessOf_41 rfl rfl ?_
        refine g_iload_n X 2 (i0 := 2) dX13_hardnessOf_42 rfl rfl ?_
        obtain ⟨r12, D11, e10, h⟩ := cI_s h
        refine g_S X (As := [.int a0, .int a1]) (rest := [.ref (E.1 84)]) (c_X13_cell l G E a0 a1 _ _ e10) ks_X13_84 ⟨rfl, rfl⟩ hd_X13_cell (⟨Nat.le_of_ble_eq_true rfl, Nat.le_of_ble_eq_true rfl⟩) rfl rfl (Nat.le_of_ble_eq_true rfl) dX13_hardnessOf_43 ?_
        obtain ⟨r15, D14, e13, h⟩ := cI_s h
        refine g_V X (As := [.int r12]) (rest := []) (c_X13_hard l G E r12 _ _ e13) 84 (wg_84 E _) rfl rfl kv_X13_88 ⟨rfl, rfl⟩ ⟨rfl, hd_X13_hard⟩ (⟨Nat.le_of_ble_eq_true rfl, Nat.le_of_ble_eq_true rfl⟩) rfl rfl (Nat.le_of_ble_eq_true rfl) dX13_hardnessOf_46 ?_
        refine g_goto X (tgt := 53) dX13_hardnessOf_49 (by decide) ?_
        exact g_iret X hr rfl dX13_hardnessOf_53 (Option.some.inj h)
    · have h := (ite_s h).1 c24
      refine g_iconst X (v := (2 : Int32)) dX13_hardnessOf_25 (by decide) ?_
      refine g_goto X (tgt := 30) dX13_hardnessOf_26 (by decide) ?_
      refine g_put X (D := D8) (v := .int (2 : Int32)) (T := TX13) (D' := (setI D8 140 (2 : Int32))) 84 uX13 tyX13 tyX13_ok nmX13 (wg_84 E _) rfl 0 (by decide) fl_X13_59 rfl rfl rfl rfl (Nat.le_of_ble_eq_true rfl) (ws_I_140 E _ _) dX13_hardnessOf_30 ?_
      refine g_aload_n X 0 (i0 := 0) dX13_hardnessOf_33 rfl rfl ?_
      refine g_get X (D := (setI D8 140 (2 : Int32))) (v := .int (2 : Int32)) (T := TX13) 84 uX13 (wg_84 E _) rfl 0 (by decide) fl_X13_59 rfl rfl dX13_hardnessOf_34 ?_
      refine g_if_ne X (tgt := 52) dX13_hardnessOf_37 (by decide) (fun c23 => ?_) (fun c23 => ?_)
      · have h := (ite_s h).2 c23
        refine g_iconst X (v := (0 : Int32)) dX13_hardnessOf_52 (by decide) ?_
        exact g_iret X hr rfl dX13_hardnessOf_53 (Option.some.inj h)
      · have h := (ite_s h).1 c23
        refine g_aload_n X 0 (i0 := 0) dX13_hardnessOf_40 rfl rfl ?_
        refine g_iload_n X 1 (i0 := 1) dX13_hardnessOf_41 rfl rfl ?_
        refine g_iload_n X 2 (i0 := 2) dX13_hardnessOf_42 rfl rfl ?_
        obtain ⟨r19, D18, e17, h⟩ := cI_s h
        refine g_S X (As := [.int a0, .int a1]) (rest := [.ref (E.1 84)]) (c_X13_cell l G E a0 a1 _ _ e17) ks_X13_84 ⟨rfl, rfl⟩ hd_X13_cell (⟨Nat.le_of_ble_eq_true rfl, Nat.le_of_ble_eq_true rfl⟩) rfl rfl (Nat.le_of_ble_eq_true rfl) dX13_hardnessOf_43 ?_
        obtain ⟨r22, D21, e20, h⟩ := cI_s h
        refine g_V X (As := [.int r19]) (rest := []) (c_X13_hard l G E r19 _ _ e20) 84 (wg_84 E _) rfl rfl kv_X13_88 ⟨rfl, rfl⟩ ⟨rfl, hd_X13_hard⟩ (⟨Nat.le_of_ble_eq_true rfl, Nat.le_of_ble_eq_true rfl⟩) rfl rfl (Nat.le_of_ble_eq_true rfl) dX13_hardnessOf_46 ?_
        refine g_goto X (tgt := 53) dX13_hardnessOf_49 (by decide) ?_
        exact g_iret X hr rfl dX13_hardnessOf_53 (Option.some.inj h)
  · have h := (ite_s h).1 c32
    refine g_iconst X (v := (1 : Int32)) dX13_hardnessOf_9 (by decide) ?_
    refine g_goto X (tgt := 30) dX13_hardnessOf_10 (by decide) ?_
    refine g_put X (D := D2) (v := .int (1 : Int32)) (T := TX13) (D' := (setI D2 140 (1 : Int32))) 84 uX13 tyX13 tyX13_ok nmX13 (wg_84 E _) rfl 0 (by decide) fl_X13_59 rfl rfl rfl rfl (Nat.le_of_ble_eq_true rfl) (ws_I_140 E _ _) dX13_hardnessOf_30 ?_
    refine g_aload_n X 0 (i0 := 0) dX13_hardnessOf_33 rfl rfl ?_
    refine g_get X (D := (setI D2 140 (1 : Int32))) (v := .int (1 : Int32)) (T := TX13) 84 uX13 (wg_84 E _) rfl 0 (by decide) fl_X13_59 rfl rfl dX13_hardnessOf_34 ?_
    refine g_if_ne X (tgt := 52) dX13_hardnessOf_37 (by decide) (fun c31 => ?_) (fun c31 => ?_)
    · have h := (ite_s h).2 c31
      refine g_iconst X (v := (0 : Int32)) dX13_hardnessOf_52 (by decide) ?_
      exact g_iret X hr rfl dX13_hardnessOf_53 (Option.some.inj h)
    · have h := (ite_s h).1 c31
      refine g_aload_n X 0 (i0 := 0) dX13_hardnessOf_40 rfl rfl ?_
      refine g_iload_n X 1 (i0 := 1) dX13_hardnessOf_41 rfl rfl ?_
      refine g_iload_n X 2 (i0 := 2) dX13_hardnessOf_42 rfl rfl ?_
      obtain ⟨r27, D26, e25, h⟩ := cI_s h
      refine g_S X (As := [.int a0, .int a1]) (rest := [.ref (E.1 84)]) (c_X13_cell l G E a0 a1 _ _ e25) ks_X13_84 ⟨rfl, rfl⟩ hd_X13_cell (⟨Nat.le_of_ble_eq_true rfl, Nat.le_of_ble_eq_true rfl⟩) rfl rfl (Nat.le_of_ble_eq_true rfl) dX13_hardnessOf_43 ?_
      obtain ⟨r30, D29, e28, h⟩ := cI_s h
      refine g_V X (As := [.int r27]) (rest := []) (c_X13_hard l G E r27 _ _ e28) 84 (wg_84 E _) rfl rfl kv_X13_88 ⟨rfl, rfl⟩ ⟨rfl, hd_X13_hard⟩ (⟨Nat.le_of_ble_eq_true rfl, Nat.le_of_ble_eq_true rfl⟩) rfl rfl (Nat.le_of_ble_eq_true rfl) dX13_hardnessOf_46 ?_
      refine g_goto X (tgt := 53) dX13_hardnessOf_49 (by decide) ?_
      exact g_iret X hr rfl dX13_hardnessOf_53 (Option.some.inj h)
def S_X13_isOpen (a0 : Int32) (a1 : Int32) (D : DD) : Option RT := (cI (S_X13_isCell a0 a1 D) (fun r3 D2 => (if r3 = 0 then (if (1 : Int32) = 0 then (cI (S_X13_cell a0 a1 (setI D2 140 (1 : Int32))) (fun r6 D5 => (cI (S_X13_hard r6 D5) (fun r9 D8 => (if r9 = 0 then some (0, some (.int (1 : Int32)), D8) else some (0, some (.int (0 : Int32)), D8)))))) else some (0, some (.int (0 : Int32)), (setI D2 140 (1 : Int32)))) else (if (0 : Int32) = 0 then (cI (S_X13_cell a0 a1 (setI D2 140 (0 : Int32))) (fun r14 D13 => (cI (S_X13_hard r14 D13) (fun r17 D16 => (if r17 = 0 then some (0, some (.int (1 : Int32)), D16) else some (0, some (.int (0 : Int32)), D16)))))) else some (0, some (.int (0 : Int32)), (setI D2 140 (0 : Int32)))))))
set_option maxRecDepth 100000 in
set_option maxHeartbeats 4000000 in
theorem c_X13_isOpen (l : Launch) (G : va_G) (E : EE) (a0 : Int32) (a1 : Int32) (D : DD) (r : RT) (h : S_X13_isOpen a0 a1 D = some r) : MM l G E yX13_isOpen cX13_isOpen 3 (some .boolean) (rmm 2) [.ref (E.1 84), .int a0, .int a1] D r := by
  refine m_of rfl (Nat.le_of_ble_eq_true rfl) ?_
  intro p e s m args below meth c X hr
  unfold S_X13_isOpen at h
  refine g_aload_n X 0 (i0 := 0) dX13_isOpen_0 rfl rfl ?_
  refine g_iload_n X 1 (i0 := 1) dX13_isOpen_1 rfl rfl ?_
  refine g_iload_n X 2 (i0 := 2) dX13_isOpen_2 rfl rfl ?_
  obtain ⟨r3, D2, e1, h⟩ := cI_s h
  refine g_S X (As := [.int a0, .int a1]) (rest := [.ref (E.1 84)]) (c_X13_isCell l G E a0 a1 _ _ e1) ks_X13_77 ⟨rfl, rfl⟩ hd_X13_isCell (⟨Nat.le_of_ble_eq_true rfl, Nat.le_of_ble_eq_true rfl⟩) rfl rfl (Nat.le_of_ble_eq_true rfl) dX13_isOpen_3 ?_
  refine g_if_eq X (tgt := 13) dX13_isOpen_6 (by decide) (fun c20 => ?_) (fun c20 => ?_)
  · have h := (ite_s h).1 c20
    refine g_iconst X (v := (1 : Int32)) dX13_isOpen_13 (by decide) ?_
    refine g_put X (D := D2) (v := .int (1 : Int32)) (T := TX13) (D' := (setI D2 140 (1 : Int32))) 84 uX13 tyX13 tyX13_ok nmX13 (wg_84 E _) rfl 0 (by decide) fl_X13_59 rfl rfl rfl rfl (Nat.le_of_ble_eq_true rfl) (ws_I_140 E _ _) dX13_isOpen_14 ?_
    refine g_aload_n X 0 (i0 := 0) dX13_isOpen_17 rfl rfl ?_
    refine g_get X (D := (setI D2 140 (1 : Int32))) (v := .int (1 : Int32)) (T := TX13) 84 uX13 (wg_84 E _) rfl 0 (by decide) fl_X13_59 rfl rfl dX13_isOpen_18 ?_
    refine g_if_ne X (tgt := 40) dX13_isOpen_21 (by decide) (fun c11 => ?_) (fun c11 => ?_)
    · have h := (ite_s h).2 c11
      refine g_iconst X (v := (0 : Int32)) dX13_isOpen_40 (by decide) ?_
      exact g_iret X hr rfl dX13_isOpen_41 (Option.some.inj h)
    · have h := (ite_s h).1 c11
      refine g_aload_n X 0 (i0 := 0) dX13_isOpen_24 rfl rfl ?_
      refine g_iload_n X 1 (i0 := 1) dX13_isOpen_25 rfl rfl ?_
      refine g_iload_n X 2 (i0 := 2) dX13_isOpen_26 rfl rfl ?_
      obtain ⟨r6, D5, e4, h⟩ := cI_s h
      refine g_S X (As := [.int a0, .int a1]) (rest := [.ref (E.1 84)]) (c_X13_cell l G E a0 a1 _ _ e4) ks_X13_84 ⟨rfl, rfl⟩ hd_X13_cell (⟨Nat.le_of_ble_eq_true rfl, Nat.le_of_ble_eq_true rfl⟩) rfl rfl (Nat.le_of_ble_eq_true rfl) dX13_isOpen_27 ?_
      obtain ⟨r9, D8, e7, h⟩ := cI_s h
      refine g_V X (As := [.int r6]) (rest := []) (c_X13_hard l G E r6 _ _ e7) 84 (wg_84 E _) rfl rfl kv_X13_88 ⟨rfl, rfl⟩ ⟨rfl, hd_X13_hard⟩ (⟨Nat.le_of_ble_eq_true rfl, Nat.le_of_ble_eq_true rfl⟩) rfl rfl (Nat.le_of_ble_eq_true rfl) dX13_isOpen_30 ?_
      refine g_if_ne X (tgt := 40) dX13_isOpen_33 (by decide) (fun c10 => ?_) (fun c10 => ?_)
      · have h := (ite_s h).2 c10
        refine g_iconst X (v := (0 : Int32)) dX13_isOpen_40 (by decide) ?_
        exact g_iret X hr rfl dX13_isOpen_41 (Option.some.inj h)
      · have h := (ite_s h).1 c10
        refine g_iconst X (v := (1 : Int32)) dX13_isOpen_36 (by decide) ?_
        refine g_goto X (tgt := 41) dX13_isOpen_37 (by decide) ?_
        exact g_iret X hr rfl dX13_isOpen_41 (Option.some.inj h)
  · have h := (ite_s h).2 c20
    refine g_iconst X (v := (0 : Int32)) dX13_isOpen_9 (by decide) ?_
    refine g_goto X (tgt := 14) dX13_isOpen_10 (by decide) ?_
    refine g_put X (D := D2) (v := .int (0 : Int32)) (T := TX13) (D' := (setI D2 140 (0 : Int32))) 84 uX13 tyX13 tyX13_ok nmX13 (wg_84 E _) rfl 0 (by decide) fl_X13_59 rfl rfl rfl rfl (Nat.le_of_ble_eq_true rfl) (ws_I_140 E _ _) dX13_isOpen_14 ?_
    refine g_aload_n X 0 (i0 := 0) dX13_isOpen_17 rfl rfl ?_
    refine g_get X (D := (setI D2 140 (0 : Int32))) (v := .int (0 : Int32)) (T := TX13) 84 uX13 (wg_84 E _) rfl 0 (by decide) fl_X13_59 rfl rfl dX13_isOpen_18 ?_
    refine g_if_ne X (tgt := 40) dX13_isOpen_21 (by decide) (fun c19 => ?_) (fun c19 => ?_)
    · have h := (ite_s h).2 c19
      refine g_iconst X (v := (0 : Int32)) dX13_isOpen_40 (by decide) ?_
      exact g_iret X hr rfl dX13_isOpen_41 (Option.some.inj h)
    · have h := (ite_s h).1 c19
      refine g_aload_n X 0 (i0 := 0) dX13_isOpen_24 rfl rfl ?_
      refine g_iload_n X 1 (i0 := 1) dX13_isOpen_25 rfl rfl ?_
      refine g_iload_n X 2 (i0 := 2) dX13_isOpen_26 rfl rfl ?_
      obtain ⟨r14, D13, e12, h⟩ := cI_s h
      refine g_S X (As := [.int a0, .int a1]) (rest := [.ref (E.1 84)]) (c_X13_cell l G E a0 a1 _ _ e12) ks_X13_84 ⟨rfl, rfl⟩ hd_X13_cell (⟨Nat.le_of_ble_eq_true rfl, Nat.le_of_ble_eq_true rfl⟩) rfl rfl (Nat.le_of_ble_eq_true rfl) dX13_isOpen_27 ?_
      obtain ⟨r17, D16, e15, h⟩ := cI_s h
      refine g_V X (As := [.int r14]) (rest := []) (c_X13_hard l G E r14 _ _ e15) 84 (wg_84 E _) rfl rfl kv_X13_88 ⟨rfl, rfl⟩ ⟨rfl, hd_X13_hard⟩ (⟨Nat.le_of_ble_eq_true rfl, Nat.le_of_ble_eq_true rfl⟩) rfl rfl (Nat.le_of_ble_eq_true rfl) dX13_isOpen_30 ?_
      refine g_if_ne X (tgt := 40) dX13_isOpen_33 (by decide) (fun c18 => ?_) (fun c18 => ?_)
      · have h := (ite_s h).2 c18
        refine g_iconst X (v := (0 : Int32)) dX13_isOpen_40 (by decide) ?_
        exact g_iret X hr rfl dX13_isOpen_41 (Option.some.inj h)
      · have h := (ite_s h).1 c18
        refine g_iconst X (v := (1 : Int32)) dX13_isOpen_36 (by decide) ?_
        refine g_goto X (tgt := 41) dX13_isOpen_37 (by decide) ?_
        exact g_iret X hr rfl dX13_isOpen_41 (Option.some.inj h)
def b_X13_opened_0  (D : DD) : Option ((Nat × List Int32 × DD) ⊕ RT) := some (.inl (1, [(0 : Int32), (0 : Int32)], D))
def b_X13_opened_1 (x1 : Int32) (x2 : Int32) (D : DD) : Option ((Nat × List Int32 × DD) ⊕ RT) := (if (36 : Int32) ≤ x2 then some (.inr (0, some (.int x1), D)) else (cI (S_X13_hard x2 D) (fun r3 D2 => (if r3 = 0 then some (.inl (1, [(x1 + (1 : Int32)), (x2 + (1 : Int32))], D2)) else some (.inl (1, [(x1 + (0 : Int32)), (x2 + (1 : Int32))], D2))))))
def T_X13_opened (k : Nat) (ls : List Int32) (D : DD) : Option ((Nat × List Int32 × DD) ⊕ RT) := match k, ls with
  | 0, [] => b_X13_opened_0  D
  | 1, [x1, x2] => b_X13_opened_1 x1 x2 D
  | _, _ => none
def S_X13_opened  (D : DD) : Option RT := run T_X13_opened FUEL 0 [] D
def hg_X13_opened (p : Program) (l : Launch) (e : Env) (s : State) (m : MethodId) (args : Array Value) (below : List Frame) (meth : Method) (c : Code) (G : va_G) (E : EE) (r : RT) (k : Nat) (ls : List Int32) (D : DD) : Prop := match k, ls with
  | 0, [] => GW p l e (rmm 1) s m args below meth c G E 3 (MQ below (QR G E s.heap.size r) args s 0 0 (fr E s.heap.size)) 0 0 D 0 [(0, .ref (E.1 84))] []
  | 1, [x1, x2] => GW p l e (rmm 1) s m args below meth c G E 3 (MQ below (QR G E s.heap.size r) args s 0 0 (fr E s.heap.size)) 0 0 D 4 [(0, .ref (E.1 84)), (1, .int x1), (2, .int x2)] []
  | _, _ => True
set_option maxRecDepth 100000 in
set_option maxHeartbeats 4000000 in
theorem bl_X13_opened_0 {p : Program} {l : Launch} {e : Env} {s : State} {m : MethodId} {args : Array Value} {below : List Frame} {meth : Method} {c : Code} {G : va_G} {E : EE} {r : RT} (X : CX p s m args meth c cX13_opened RX13 3 G E) (hr : meth.sig.returnType = (some .int))  (D : DD) (o : (Nat × List Int32 × DD) ⊕ RT) (h : b_X13_opened_0  D = some o) (h1 : ∀ x, o = .inl x → hg_X13_opened p l e s m args below meth c G E r x.1 x.2.1 x.2.2) (h2 : ∀ x, o = .inr x → x = r) : GW p l e (rmm 1) s m args below meth c G E 3 (MQ below (QR G E s.heap.size r) args s 0 0 (fr E s.heap.size)) 0 0 D 0 [(0, .ref (E.1 84))] [] := by
  unfold b_X13_opened_0 at h
  refine g_iconst X (v := (0 : Int32)) dX13_opened_0 (by decide) ?_
  refine g_istore_n X (i0 := 1) (lv' := [(1, .int (0 : Int32)), (0, .ref (E.1 84))]) dX13_opened_1 rfl (by decide) rfl ?_
  refine g_iconst X (v := (0 : Int32)) dX13_opened_2 (by decide) ?_
  refine g_istore_n X (i0 := 2) (lv' := [(2, .int (0 : Int32)), (1, .int (0 : Int32)), (0, .ref (E.1 84))]) dX13_opened_3 rfl (by decide) rfl ?_
  refine g_sub (lv' := [(0, .ref (E.1 84)), (1, .int (0 : Int32)), (2, .int (0 : Int32))]) [2, 1, 0] rfl ?_
  exact h1 _ (Option.some.inj h).symm
set_option maxRecDepth 100000 in
set_option maxHeartbeats 4000000 in
theorem bl_X13_opened_1 {p : Program} {l : Launch} {e : Env} {s : State} {m : MethodId} {args : Array Value} {below : List Frame} {meth : Method} {c : Code} {G : va_G} {E : EE} {r : RT} (X : CX p s m args meth c cX13_opened RX13 3 G E) (hr : meth.sig.returnType = (some .int)) (x1 : Int32) (x2 : Int32) (D : DD) (o : (Nat × List Int32 × DD) ⊕ RT) (h : b_X13_opened_1 x1 x2 D = some o) (h1 : ∀ x, o = .inl x → hg_X13_opened p l e s m args below meth c G E r x.1 x.2.1 x.2.2) (h2 : ∀ x, o = .inr x → x = r) : GW p l e (rmm 1) s m args below meth c G E 3 (MQ below (QR G E s.heap.size r) args s 0 0 (fr E s.heap.size)) 0 0 D 4 [(0, .ref (E.1 84)), (1, .int x1), (2, .int x2)] [] := by
  unfold b_X13_opened_1 at h
  refine g_iload_n X 2 (i0 := 2) dX13_opened_4 rfl rfl ?_
  refine g_bipush X (v := (36 : Int32)) dX13_opened_5 (by decide) ?_
  refine g_icmp_ge X (tgt := 32) dX13_opened_7 (by decide) (fun c5 => ?_) (fun c5 => ?_)
  · have h := (ite_s h).1 c5
    refine g_iload_n X 1 (i0 := 1) dX13_opened_32 rfl rfl ?_
    exact g_iret X hr rfl dX13_opened_33 (h2 _ (Option.some.inj h).symm)
  · have h := (ite_s h).2 c5
    refine g_iload_n X 1 (i0 := 1) dX13_opened_10 rfl rfl ?_
    refine g_aload_n X 0 (i0 := 0) dX13_opened_11 rfl rfl ?_
    refine g_iload_n X 2 (i0 := 2) dX13_opened_12 rfl rfl ?_
    obtain ⟨r3, D2, e1, h⟩ := cI_s h
    refine g_V X (As := [.int x2]) (rest := [.int x1]) (c_X13_hard l G E x2 _ _ e1) 84 (wg_84 E _) rfl rfl kv_X13_88 ⟨rfl, rfl⟩ ⟨rfl, hd_X13_hard⟩ (⟨Nat.le_of_ble_eq_true rfl, Nat.le_of_ble_eq_true rfl⟩) rfl rfl (Nat.le_of_ble_eq_true rfl) dX13_opened_13 ?_
    refine g_if_ne X (tgt := 23) dX13_opened_16 (by decide) (fun c4 => ?_) (fun c4 => ?_)
    · have h := (ite_s h).2 c4
      refine g_iconst X (v := (0 : Int32)) dX13_opened_23 (by decide) ?_
      refine g_iadd X dX13_opened_24 ?_
      refine g_istore_n X (i0 := 1) (lv' := [(1, .int (x1 + (0 : Int32))), (0, .ref (E.1 84)), (2, .int x2)]) dX13_opened_25 rfl (by decide) rfl ?_
      refine g_iinc X 2 (v := (x2 + (1 : Int32))) (lv' := [(2, .int (x2 + (1 : Int32))), (1, .int (x1 + (0 : Int32))), (0, .ref (E.1 84))]) dX13_opened_26 rfl rfl (by decide) rfl ?_
      refine g_goto X (tgt := 4) dX13_opened_29 (by decide) ?_
      refine g_sub (lv' := [(0, .ref (E.1 84)), (1, .int (x1 + (0 : Int32))), (2, .int (x2 + (1 : Int32)))]) [2, 1, 0] rfl ?_
      exact h1 _ (Option.some.inj h).symm
    · have h := (ite_s h).1 c4
      refine g_iconst X (v := (1 : Int32)) dX13_opened_19 (by decide) ?_
      refine g_goto X (tgt := 24) dX13_opened_20 (by decide) ?_
      refine g_iadd X dX13_opened_24 ?_
      refine g_istore_n X (i0 := 1) (lv' := [(1, .int (x1 + (1 : Int32))), (0, .ref (E.1 84)), (2, .int x2)]) dX13_opened_25 rfl (by decide) rfl ?_
      refine g_iinc X 2 (v := (x2 + (1 : Int32))) (lv' := [(2, .int (x2 + (1 : Int32))), (1, .int (x1 + (1 : Int32))), (0, .ref (E.1 84))]) dX13_opened_26 rfl rfl (by decide) rfl ?_
      refine g_goto X (tgt := 4) dX13_opened_29 (by decide) ?_
      refine g_sub (lv' := [(0, .ref (E.1 84)), (1, .int (x1 + (1 : Int32))), (2, .int (x2 + (1 : Int32)))]) [2, 1, 0] rfl ?_
      exact h1 _ (Option.some.inj h).symm
set_option maxRecDepth 100000 in
set_option maxHeartbeats 4000000 in
theorem c_X13_opened (l : Launch) (G : va_G) (E : EE)  (D : DD) (r : RT) (h : S_X13_opened  D = some r) : MM l G E yX13_opened cX13_opened 3 (some .int) (rmm 1) [.ref (E.1 84)] D r := by
  unfold S_X13_opened at h
  refine m_of rfl (Nat.le_of_ble_eq_true rfl) ?_
  intro p e s m args below meth c X hr
  exact run_G (T := T_X13_opened) (HG := hg_X13_opened p l e s m args below meth c G E r) (by
    intro k ls D o hT h1 h2
    unfold T_X13_opened at hT
    split at hT
    · exact bl_X13_opened_0 X hr  D o hT h1 h2
    · exact bl_X13_opened_1 X hr _ _ D o hT h1 h2
    · cases hT) FUEL 0 [] D h
theorem hd_X13_opened : yX13_opened.cls ≠ "java/lang/invoke/MethodHandle" ∧ yX13_opened.cls ≠ "java/lang/invoke/VarHandle" ∧ (parseMethodDescriptor yX13_opened.desc).map (fun d => d.parameters.length) = some 0 := by decide +kernel
theorem wc_X13_opened : Cond.code yX13_opened cX13_opened 3 (some .int) ∈ UT := ut 1504 (by decide +kernel) (by decide +kernel)
theorem we_X13_opened : Cond.selects RX13 yX13_opened yX13_opened ∈ UT := ut 46 (by decide +kernel) (by decide +kernel)
theorem wm_X13_opened : Cond.instanceMethod yX13_opened ∈ UT := ut 1503 (by decide +kernel) (by decide +kernel)
theorem kv_X13_114 : GoodIn UT (wsV RX13 114 RX13 yX13_opened (Cond.code yX13_opened cX13_opened 3 (some .int) :: UT)) := gu_V (ut 1501 (by decide +kernel) (by decide +kernel)) wm_X13_opened we_X13_opened wi_RX13 wc_X13_opened
def S_X13_openCount  (D : DD) : Option RT := (cI (S_X13_opened (setI D 140 (0 : Int32))) (fun r3 D2 => some (0, some (.int r3), D2)))
set_option maxRecDepth 100000 in
set_option maxHeartbeats 4000000 in
theorem c_X13_openCount (l : Launch) (G : va_G) (E : EE)  (D : DD) (r : RT) (h : S_X13_openCount  D = some r) : MM l G E yX13_openCount cX13_openCount 1 (some .int) (rmm 2) [.ref (E.1 84)] D r := by
  refine m_of rfl (Nat.le_of_ble_eq_true rfl) ?_
  intro p e s m args below meth c X hr
  unfold S_X13_openCount at h
  refine g_aload_n X 0 (i0 := 0) dX13_openCount_0 rfl rfl ?_
  refine g_iconst X (v := (0 : Int32)) dX13_openCount_1 (by decide) ?_
  refine g_put X (D := D) (v := .int (0 : Int32)) (T := TX13) (D' := (setI D 140 (0 : Int32))) 84 uX13 tyX13 tyX13_ok nmX13 (wg_84 E _) rfl 0 (by decide) fl_X13_59 rfl rfl rfl rfl (Nat.le_of_ble_eq_true rfl) (ws_I_140 E _ _) dX13_openCount_2 ?_
  refine g_aload_n X 0 (i0 := 0) dX13_openCount_5 rfl rfl ?_
  obtain ⟨r3, D2, e1, h⟩ := cI_s h
  refine g_V X (As := []) (rest := []) (c_X13_opened l G E  _ _ e1) 84 (wg_84 E _) rfl rfl kv_X13_114 ⟨rfl, rfl⟩ ⟨rfl, hd_X13_opened⟩ (⟨Nat.le_of_ble_eq_true rfl, Nat.le_of_ble_eq_true rfl⟩) rfl rfl (Nat.le_of_ble_eq_true rfl) dX13_openCount_6 ?_
  exact g_iret X hr rfl dX13_openCount_9 (Option.some.inj h)
theorem fl_X13_29 : Cond.fieldLink RX13 29 "StoneQuarryModel" "mark" "[I" ∈ UT := ut 1359 (by decide +kernel) (by decide +kernel)
theorem wg_89 (E : EE) (D : DD) : (wd E D)[89]? = some (E.1 89, .inl (E.2 0, 36, .inl (D.2.2.1 74))) := rfl
theorem ws_A_74 (E : EE) (D : DD) (f : Nat → Int32) : (wd E D).set 89 (E.1 89, .inl (E.2 0, 36, .inl f)) = wd E (setA D 74 f) := rfl
def b_X13_vein_0 (a0 : Int32) (D : DD) : Option ((Nat × List Int32 × DD) ⊕ RT) := some (.inl (1, [a0, (0 : Int32)], D))
def b_X13_vein_1 (x1 : Int32) (x2 : Int32) (D : DD) : Option ((Nat × List Int32 × DD) ⊕ RT) := (if (36 : Int32) ≤ x2 then some (.inl (2, [x1, (1 : Int32), (0 : Int32)], D)) else (if x2 = x1 then (if inB x2 36 = true then some (.inl (1, [x1, (x2 + (1 : Int32))], (setA D 74 (upd (D.2.2.1 74) x2.toNatClampNeg (1 : Int32))))) else none) else (if inB x2 36 = true then some (.inl (1, [x1, (x2 + (1 : Int32))], (setA D 74 (upd (D.2.2.1 74) x2.toNatClampNeg (0 : Int32))))) else none)))
def b_X13_vein_2 (x1 : Int32) (x2 : Int32) (x3 : Int32) (D : DD) : Option ((Nat × List Int32 × DD) ⊕ RT) := (if x2 ≤ x3 then some (.inr (0, some (.int x2), D)) else some (.inl (3, [x1, x2, x2, (0 : Int32)], D)))
def b_X13_vein_3 (x1 : Int32) (x2 : Int32) (x3 : Int32) (x4 : Int32) (D : DD) : Option ((Nat × List Int32 × DD) ⊕ RT) := (if (36 : Int32) ≤ x4 then some (.inl (2, [x1, x2, x3], D)) else some (.inl (4, [x1, x2, x3, x4, (0 : Int32)], D)))
def b_X13_vein_4 (x1 : Int32) (x2 : Int32) (x3 : Int32) (x4 : Int32) (x5 : Int32) (D : DD) : Option ((Nat × List Int32 × DD) ⊕ RT) := (if (4 : Int32) ≤ x5 then some (.inl (3, [x1, x2, x3, (x4 + (1 : Int32))], D)) else (if inB x4 36 = true then (if ((D.2.2.1 74) x4.toNatClampNeg) = 0 then (cI (S_X13_hard x4 D) (fun r10 D9 => (cI (S_X13_hard x1 D9) (fun r13 D12 => (if r10 = r13 then (cI (S_X13_beside x4 x5 D12) (fun r16 D15 => (if r16 < 0 then some (.inl (4, [x1, x2, x3, x4, (x5 + (1 : Int32))], D15)) else (if inB r16 36 = true then (if ((D15.2.2.1 74) r16.toNatClampNeg) = 0 then some (.inl (4, [x1, x2, x3, x4, (x5 + (1 : Int32))], D15)) else (if inB x4 36 = true then some (.inl (4, [x1, (x2 + (1 : Int32)), x3, x4, (x5 + (1 : Int32))], (setA D15 74 (upd (D15.2.2.1 74) x4.toNatClampNeg (1 : Int32))))) else none)) else none)))) else some (.inl (3, [x1, x2, x3, (x4 + (1 : Int32))], D12))))))) else some (.inl (3, [x1, x2, x3, (x4 + (1 : Int32))], D))) else none))
def T_X13_vein (k : Nat) (ls : List Int32) (D : DD) : Option ((Nat × List Int32 × DD) ⊕ RT) := match k, ls with
  | 0, [a0] => b_X13_vein_0 a0 D
  | 1, [x1, x2] => b_X13_vein_1 x1 x2 D
  | 2, [x1, x2, x3] => b_X13_vein_2 x1 x2 x3 D
  | 3, [x1, x2, x3, x4] => b_X13_vein_3 x1 x2 x3 x4 D
  | 4, [x1, x2, x3, x4, x5] => b_X13_vein_4 x1 x2 x3 x4 x5 D
  | _, _ => none
def S_X13_vein (a0 : Int32) (D : DD) : Option RT := run T_X13_vein FUEL 0 [a0] D
def hg_X13_vein (p : Program) (l : Launch) (e : Env) (s : State) (m : MethodId) (args : Array Value) (below : List Frame) (meth : Method) (c : Code) (G : va_G) (E : EE) (r : RT) (k : Nat) (ls : List Int32) (D : DD) : Prop := match k, ls with
  | 0, [a0] => GW p l e (rmm 1) s m args below meth c G E 7 (MQ below (QR G E s.heap.size r) args s 0 0 (fr E s.heap.size)) 0 0 D 0 [(0, .ref (E.1 84)), (1, .int a0)] []
  | 1, [x1, x2] => GW p l e (rmm 1) s m args below meth c G E 7 (MQ below (QR G E s.heap.size r) args s 0 0 (fr E s.heap.size)) 0 0 D 2 [(0, .ref (E.1 84)), (1, .int x1), (2, .int x2)] []
  | 2, [x1, x2, x3] => GW p l e (rmm 1) s m args below meth c G E 7 (MQ below (QR G E s.heap.size r) args s 0 0 (fr E s.heap.size)) 0 0 D 34 [(0, .ref (E.1 84)), (1, .int x1), (2, .int x2), (3, .int x3)] []
  | 3, [x1, x2, x3, x4] => GW p l e (rmm 1) s m args below meth c G E 7 (MQ below (QR G E s.heap.size r) args s 0 0 (fr E s.heap.size)) 0 0 D 44 [(0, .ref (E.1 84)), (1, .int x1), (2, .int x2), (3, .int x3), (4, .int x4)] []
  | 4, [x1, x2, x3, x4, x5] => GW p l e (rmm 1) s m args below meth c G E 7 (MQ below (QR G E s.heap.size r) args s 0 0 (fr E s.heap.size)) 0 0 D 54 [(0, .ref (E.1 84)), (1, .int x1), (2, .int x2), (3, .int x3), (4, .int x4), (5, .int x5)] []
  | _, _ => True
set_option maxRecDepth 100000 in
set_option maxHeartbeats 4000000 in
theorem bl_X13_vein_0 {p : Program} {l : Launch} {e : Env} {s : State} {m : MethodId} {args : Array Value} {below : List Frame} {meth : Method} {c : Code} {G : va_G} {E : EE} {r : RT} (X : CX p s m args meth c cX13_vein RX13 7 G E) (hr : meth.sig.returnType = (some .int)) (a0 : Int32) (D : DD) (o : (Nat × List Int32 × DD) ⊕ RT) (h : b_X13_vein_0 a0 D = some o) (h1 : ∀ x, o = .inl x → hg_X13_vein p l e s m args below meth c G E r x.1 x.2.1 x.2.2) (h2 : ∀ x, o = .inr x → x = r) : GW p l e (rmm 1) s m args below meth c G E 7 (MQ below (QR G E s.heap.size r) args s 0 0 (fr E s.heap.size)) 0 0 D 0 [(0, .ref (E.1 84)), (1, .int a0)] [] := by
  unfold b_X13_vein_0 at h
  refine g_iconst X (v := (0 : Int32)) dX13_vein_0 (by decide) ?_
  refine g_istore_n X (i0 := 2) (lv' := [(2, .int (0 : Int32)), (0, .ref (E.1 84)), (1, .int a0)]) dX13_vein_1 rfl (by decide) rfl ?_
  refine g_sub (lv' := [(0, .ref (E.1 84)), (1, .int a0), (2, .int (0 : Int32))]) [1, 2, 0] rfl ?_
  exact h1 _ (Option.some.inj h).symm
set_option maxRecDepth 100000 in
set_option maxHeartbeats 4000000 in
theorem bl_X13_vein_1 {p : Program} {l : Launch} {e : Env} {s : State} {m : MethodId} {args : Array Value} {below : List Frame} {meth : Method} {c : Code} {G : va_G} {E : EE} {r : RT} (X : CX p s m args meth c cX13_vein RX13 7 G E) (hr : meth.sig.returnType = (some .int)) (x1 : Int32) (x2 : Int32) (D : DD) (o : (Nat × List Int32 × DD) ⊕ RT) (h : b_X13_vein_1 x1 x2 D = some o) (h1 : ∀ x, o = .inl x → hg_X13_vein p l e s m args below meth c G E r x.1 x.2.1 x.2.2) (h2 : ∀ x, o = .inr x → x = r) : GW p l e (rmm 1) s m args below meth c G E 7 (MQ below (QR G E s.heap.size r) args s 0 0 (fr E s.heap.size)) 0 0 D 2 [(0, .ref (E.1 84)), (1, .int x1), (2, .int x2)] [] := by
  unfold b_X13_vein_1 at h
  refine g_iload_n X 2 (i0 := 2) dX13_vein_2 rfl rfl ?_
  refine g_bipush X (v := (36 : Int32)) dX13_vein_3 (by decide) ?_
  refine g_icmp_ge X (tgt := 30) dX13_vein_5 (by decide) (fun c4 => ?_) (fun c4 => ?_)
  · have h := (ite_s h).1 c4
    refine g_iconst X (v := (1 : Int32)) dX13_vein_30 (by decide) ?_
    refine g_istore_n X (i0 := 2) (lv' := [(2, .int (1 : Int32)), (0, .ref (E.1 84)), (1, .int x1)]) dX13_vein_31 rfl (by decide) rfl ?_
    refine g_iconst X (v := (0 : Int32)) dX13_vein_32 (by decide) ?_
    refine g_istore_n X (i0 := 3) (lv' := [(3, .int (0 : Int32)), (2, .int (1 : Int32)), (0, .ref (E.1 84)), (1, .int x1)]) dX13_vein_33 rfl (by decide) rfl ?_
    refine g_sub (lv' := [(0, .ref (E.1 84)), (1, .int x1), (2, .int (1 : Int32)), (3, .int (0 : Int32))]) [2, 3, 1, 0] rfl ?_
    exact h1 _ (Option.some.inj h).symm
  · have h := (ite_s h).2 c4
    refine g_aload_n X 0 (i0 := 0) dX13_vein_8 rfl rfl ?_
    refine g_get X (D := D) (v := .ref (E.1 89)) (T := TX13) 84 uX13 (wg_84 E _) rfl 9 (by decide) fl_X13_29 rfl rfl dX13_vein_9 ?_
    refine g_iload_n X 2 (i0 := 2) dX13_vein_12 rfl rfl ?_
    refine g_iload_n X 2 (i0 := 2) dX13_vein_13 rfl rfl ?_
    refine g_iload_n X 1 (i0 := 1) dX13_vein_14 rfl rfl ?_
    refine g_icmp_ne X (tgt := 22) dX13_vein_15 (by decide) (fun c3 => ?_) (fun c3 => ?_)
    · have h := (ite_s h).2 c3
      refine g_iconst X (v := (0 : Int32)) dX13_vein_22 (by decide) ?_
      obtain ⟨b1, h⟩ := chk_s h
      refine g_iast X (D := D) (f := (D.2.2.1 74)) (i := x2) (x := (0 : Int32)) (D' := (setA D 74 (upd (D.2.2.1 74) x2.toNatClampNeg (0 : Int32)))) 89 (wg_89 E _) (inB_vp b1) (ws_A_74 E _ _) dX13_vein_23 ?_
      refine g_iinc X 2 (v := (x2 + (1 : Int32))) (lv' := [(2, .int (x2 + (1 : Int32))), (0, .ref (E.1 84)), (1, .int x1)]) dX13_vein_24 rfl rfl (by decide) rfl ?_
      refine g_goto X (tgt := 2) dX13_vein_27 (by decide) ?_
      refine g_sub (lv' := [(0, .ref (E.1 84)), (1, .int x1), (2, .int (x2 + (1 : Int32)))]) [1, 2, 0] rfl ?_
      exact h1 _ (Option.some.inj h).symm
    · have h := (ite_s h).1 c3
      refine g_iconst X (v := (1 : Int32)) dX13_vein_18 (by decide) ?_
      refine g_goto X (tgt := 23) dX13_vein_19 (by decide) ?_
      obtain ⟨b2, h⟩ := chk_s h
      refine g_iast X (D := D) (f := (D.2.2.1 74)) (i := x2) (x := (1 : Int32)) (D' := (setA D 74 (upd (D.2.2.1 74) x2.toNatClampNeg (1 : Int32)))) 89 (wg_89 E _) (inB_vp b2) (ws_A_74 E _ _) dX13_vein_23 ?_
      refine g_iinc X 2 (v := (x2 + (1 : Int32))) (lv' := [(2, .int (x2 + (1 : Int32))), (0, .ref (E.1 84)), (1, .int x1)]) dX13_vein_24 rfl rfl (by decide) rfl ?_
      refine g_goto X (tgt := 2) dX13_vein_27 (by decide) ?_
      refine g_sub (lv' := [(0, .ref (E.1 84)), (1, .int x1), (2, .int (x2 + (1 : Int32)))]) [1, 2, 0] rfl ?_
      exact h1 _ (Option.some.inj h).symm
set_option maxRecDepth 100000 in
set_option maxHeartbeats 4000000 in
theorem bl_X13_vein_2 {p : Program} {l : Launch} {e : Env} {s : State} {m : MethodId} {args : Array Value} {below : List Frame} {meth : Method} {c : Code} {G : va_G} {E : EE} {r : RT} (X : CX p s m args meth c cX13_vein RX13 7 G E) (hr : meth.sig.returnType = (some .int)) (x1 : Int32) (x2 : Int32) (x3 : Int32) (D : DD) (o : (Nat × List Int32 × DD) ⊕ RT) (h : b_X13_vein_2 x1 x2 x3 D = some o) (h1 : ∀ x, o = .inl x → hg_X13_vein p l e s m args below meth c G E r x.1 x.2.1 x.2.2) (h2 : ∀ x, o = .inr x → x = r) : GW p l e (rmm 1) s m args below meth c G E 7 (MQ below (QR G E s.heap.size r) args s 0 0 (fr E s.heap.size)) 0 0 D 34 [(0, .ref (E.1 84)), (1, .int x1), (2, .int x2), (3, .int x3)] [] := by
  unfold b_X13_vein_2 at h
  refine g_iload_n X 2 (i0 := 2) dX13_vein_34 rfl rfl ?_
  refine g_iload_n X 3 (i0 := 3) dX13_vein_35 rfl rfl ?_
  refine g_icmp_le X (tgt := 137) dX13_vein_36 (by decide) (fun c5 => ?_) (fun c5 => ?_)
  · have h := (ite_s h).1 c5
    refine g_iload_n X 2 (i0 := 2) dX13_vein_137 rfl rfl ?_
    exact g_iret X hr rfl dX13_vein_138 (h2 _ (Option.some.inj h).symm)
  · have h := (ite_s h).2 c5
    refine g_iload_n X 2 (i0 := 2) dX13_vein_39 rfl rfl ?_
    refine g_istore_n X (i0 := 3) (lv' := [(3, .int x2), (0, .ref (E.1 84)), (1, .int x1), (2, .int x2)]) dX13_vein_40 rfl (by decide) rfl ?_
    refine g_iconst X (v := (0 : Int32)) dX13_vein_41 (by decide) ?_
    refine g_istore X (lv' := [(4, .int (0 : Int32)), (3, .int x2), (0, .ref (E.1 84)), (1, .int x1), (2, .int x2)]) dX13_vein_42 (by decide) rfl ?_
    refine g_sub (lv' := [(0, .ref (E.1 84)), (1, .int x1), (2, .int x2), (3, .int x2), (4, .int (0 : Int32))]) [2, 3, 4, 1, 0] rfl ?_
    exact h1 _ (Option.some.inj h).symm
set_option maxRecDepth 100000 in
set_option maxHeartbeats 4000000 in
theorem bl_X13_vein_3 {p : Program} {l : Launch} {e : Env} {s : State} {m : MethodId} {args : Array Value} {below : List Frame} {meth : Method} {c : Code} {G : va_G} {E : EE} {r : RT} (X : CX p s m args meth c cX13_vein RX13 7 G E) (hr : meth.sig.returnType = (some .int)) (x1 : Int32) (x2 : Int32) (x3 : Int32) (x4 : Int32) (D : DD) (o : (Nat × List Int32 × DD) ⊕ RT) (h : b_X13_vein_3 x1 x2 x3 x4 D = some o) (h1 : ∀ x, o = .inl x → hg_X13_vein p l e s m args below meth c G E r x.1 x.2.1 x.2.2) (h2 : ∀ x, o = .inr x → x = r) : GW p l e (rmm 1) s m args below meth c G E 7 (MQ below (QR G E s.heap.size r) args s 0 0 (fr E s.heap.size)) 0 0 D 44 [(0, .ref (E.1 84)), (1, .int x1), (2, .int x2), (3, .int x3), (4, .int x4)] [] := by
  unfold b_X13_vein_3 at h
  refine g_iload X 4 dX13_vein_44 rfl ?_
  refine g_bipush X (v := (36 : Int32)) dX13_vein_46 (by decide) ?_
  refine g_icmp_ge X (tgt := 134) dX13_vein_48 (by decide) (fun c6 => ?_) (fun c6 => ?_)
  · have h := (ite_s h).1 c6
    refine g_goto X (tgt := 34) dX13_vein_134 (by decide) ?_
    refine g_sub (lv' := [(0, .ref (E.1 84)), (1, .int x1), (2, .int x2), (3, .int x3)]) [0, 1, 2, 3] rfl ?_
    exact h1 _ (Option.some.inj h).symm
  · have h := (ite_s h).2 c6
    refine g_iconst X (v := (0 : Int32)) dX13_vein_51 (by decide) ?_
    refine g_istore X (lv' := [(5, .int (0 : Int32)), (0, .ref (E.1 84)), (1, .int x1), (2, .int x2), (3, .int x3), (4, .int x4)]) dX13_vein_52 (by decide) rfl ?_
    refine g_sub (lv' := [(0, .ref (E.1 84)), (1, .int x1), (2, .int x2), (3, .int x3), (4, .int x4), (5, .int (0 : Int32))]) [1, 2, 3, 4, 5, 0] rfl ?_
    exact h1 _ (Option.some.inj h).symm
set_option maxRecDepth 100000 in
set_option maxHeartbeats 4000000 in
theorem bl_X13_vein_4 {p : Program} {l : Launch} {e : Env} {s : State} {m : MethodId} {args : Array Value} {below : List Frame} {meth : Method} {c : Code} {G : va_G} {E : EE} {r : RT} (X : CX p s m args meth c cX13_vein RX13 7 G E) (hr : meth.sig.returnType = (some .int)) (x1 : Int32) (x2 : Int32) (x3 : Int32) (x4 : Int32) (x5 : Int32) (D : DD) (o : (Nat × List Int32 × DD) ⊕ RT) (h : b_X13_vein_4 x1 x2 x3 x4 x5 D = some o) (h1 : ∀ x, o = .inl x → hg_X13_vein p l e s m args below meth c G E r x.1 x.2.1 x.2.2) (h2 : ∀ x, o = .inr x → x = r) : GW p l e (rmm 1) s m args below meth c G E 7 (MQ below (QR G E s.heap.size r) args s 0 0 (fr E s.heap.size)) 0 0 D 54 [(0, .ref (E.1 84)), (1, .int x1), (2, .int x2), (3, .int x3), (4, .int x4), (5, .int x5)] [] := by
  unfold b_X13_vein_4 at h
  refine g_iload X 5 dX13_vein_54 rfl ?_
  refine g_iconst X (v := (4 : Int32)) dX13_vein_56 (by decide) ?_
  refine g_icmp_ge X (tgt := 128) dX13_vein_57 (by decide) (fun c23 => ?_) (fun c23 => ?_)
  · have h := (ite_s h).1 c23
    refine g_iinc X 4 (v := (x4 + (1 : Int32))) (lv' := [(4, .int (x4 + (1 : Int32))), (0, .ref (E.1 84)), (1, .int x1), (2, .int x2), (3, .int x3), (5, .int x5)]) dX13_vein_128 rfl rfl (by decide) rfl ?_
    refine g_goto X (tgt := 44) dX13_vein_131 (by decide) ?_
    refine g_sub (lv' := [(0, .ref (E.1 84)), (1, .int x1), (2, .int x2), (3, .int x3), (4, .int (x4 + (1 : Int32)))]) [1, 2, 3, 4, 0] rfl ?_
    exact h1 _ (Option.some.inj h).symm
  · have h := (ite_s h).2 c23
    refine g_aload_n X 0 (i0 := 0) dX13_vein_60 rfl rfl ?_
    refine g_get X (D := D) (v := .ref (E.1 89)) (T := TX13) 84 uX13 (wg_84 E _) rfl 9 (by decide) fl_X13_29 rfl rfl dX13_vein_61 ?_
    refine g_iload X 4 dX13_vein_64 rfl ?_
    obtain ⟨b7, h⟩ := chk_s h
    refine g_iald X (D := D) (f := (D.2.2.1 74)) (i := x4) 89 (wg_89 E _) (inB_vp b7) dX13_vein_66 ?_
    refine g_if_ne X (tgt := 128) dX13_vein_67 (by decide) (fun c22 => ?_) (fun c22 => ?_)
    · have h := (ite_s h).2 c22
      refine g_iinc X 4 (v := (x4 + (1 : Int32))) (lv' := [(4, .int (x4 + (1 : Int32))), (0, .ref (E.1 84)), (1, .int x1), (2, .int x2), (3, .int x3), (5, .int x5)]) dX13_vein_128 rfl rfl (by decide) rfl ?_
      refine g_goto X (tgt := 44) dX13_vein_131 (by decide) ?_
      refine g_sub (lv' := [(0, .ref (E.1 84)), (1, .int x1), (2, .int x2), (3, .int x3), (4, .int (x4 + (1 : Int32)))]) [1, 2, 3, 4, 0] rfl ?_
      exact h1 _ (Option.some.inj h).symm
    · have h := (ite_s h).1 c22
      refine g_aload_n X 0 (i0 := 0) dX13_vein_70 rfl rfl ?_
      refine g_iload X 4 dX13_vein_71 rfl ?_
      obtain ⟨r10, D9, e8, h⟩ := cI_s h
      refine g_V X (As := [.int x4]) (rest := []) (c_X13_hard l G E x4 _ _ e8) 84 (wg_84 E _) rfl rfl kv_X13_88 ⟨rfl, rfl⟩ ⟨rfl, hd_X13_hard⟩ (⟨Nat.le_of_ble_eq_true rfl, Nat.le_of_ble_eq_true rfl⟩) rfl rfl (Nat.le_of_ble_eq_true rfl) dX13_vein_73 ?_
      refine g_aload_n X 0 (i0 := 0) dX13_vein_76 rfl rfl ?_
      refine g_iload_n X 1 (i0 := 1) dX13_vein_77 rfl rfl ?_
      obtain ⟨r13, D12, e11, h⟩ := cI_s h
      refine g_V X (As := [.int x1]) (rest := [.int r10]) (c_X13_hard l G E x1 _ _ e11) 84 (wg_84 E _) rfl rfl kv_X13_88 ⟨rfl, rfl⟩ ⟨rfl, hd_X13_hard⟩ (⟨Nat.le_of_ble_eq_true rfl, Nat.le_of_ble_eq_true rfl⟩) rfl rfl (Nat.le_of_ble_eq_true rfl) dX13_vein_78 ?_
      refine g_icmp_ne X (tgt := 128) dX13_vein_81 (by decide) (fun c21 => ?_) (fun c21 => ?_)
      · have h := (ite_s h).2 c21
        refine g_iinc X 4 (v := (x4 + (1 : Int32))) (lv' := [(4, .int (x4 + (1 : Int32))), (0, .ref (E.1 84)), (1, .int x1), (2, .int x2), (3, .int x3), (5, .int x5)]) dX13_vein_128 rfl rfl (by decide) rfl ?_
        refine g_goto X (tgt := 44) dX13_vein_131 (by decide) ?_
        refine g_sub (lv' := [(0, .ref (E.1 84)), (1, .int x1), (2, .int x2), (3, .int x3), (4, .int (x4 + (1 : Int32)))]) [1, 2, 3, 4, 0] rfl ?_
        exact h1 _ (Option.some.inj h).symm
      · have h := (ite_s h).1 c21
        refine g_iload X 4 dX13_vein_84 rfl ?_
        refine g_iload X 5 dX13_vein_86 rfl ?_
        obtain ⟨r16, D15, e14, h⟩ := cI_s h
        refine g_S X (As := [.int x4, .int x5]) (rest := []) (c_X13_beside l G E x4 x5 _ _ e14) ks_X13_101 ⟨rfl, rfl⟩ hd_X13_beside (⟨Nat.le_of_ble_eq_true rfl, Nat.le_of_ble_eq_true rfl⟩) rfl rfl (Nat.le_of_ble_eq_true rfl) dX13_vein_88 ?_
        refine g_istore X (lv' := [(6, .int r16), (0, .ref (E.1 84)), (1, .int x1), (2, .int x2), (3, .int x3), (4, .int x4), (5, .int x5)]) dX13_vein_91 (by decide) rfl ?_
        refine g_iload X 0 dX13_vein_93 rfl ?_
        refine g_if_lt X (tgt := 122) dX13_vein_95 (by decide) (fun c20 => ?_) (fun c20 => ?_)
        · have h := (ite_s h).1 c20
          refine g_iinc X 6 (v := (x5 + (1 : Int32))) (lv' := [(5, .int (x5 + (1 : Int32))), (6, .int r16), (0, .ref (E.1 84)), (1, .int x1), (2, .int x2), (3, .int x3), (4, .int x4)]) dX13_vein_122 rfl rfl (by decide) rfl ?_
          refine g_goto X (tgt := 54) dX13_vein_125 (by decide) ?_
          refine g_sub (lv' := [(0, .ref (E.1 84)), (1, .int x1), (2, .int x2), (3, .int x3), (4, .int x4), (5, .int (x5 + (1 : Int32)))]) [2, 3, 4, 5, 6, 0] rfl ?_
          exact h1 _ (Option.some.inj h).symm
        · have h := (ite_s h).2 c20
          refine g_aload_n X 1 (i0 := 0) dX13_vein_98 rfl rfl ?_
          refine g_get X (D := D15) (v := .ref (E.1 89)) (T := TX13) 84 uX13 (wg_84 E _) rfl 9 (by decide) fl_X13_29 rfl rfl dX13_vein_99 ?_
          refine g_iload X 0 dX13_vein_102 rfl ?_
          obtain ⟨b17, h⟩ := chk_s h
          refine g_iald X (D := D15) (f := (D15.2.2.1 74)) (i := r16) 89 (wg_89 E _) (inB_vp b17) dX13_vein_104 ?_
          refine g_if_ne X (tgt := 111) dX13_vein_105 (by decide) (fun c19 => ?_) (fun c19 => ?_)
          · have h := (ite_s h).2 c19
            refine g_aload_n X 1 (i0 := 0) dX13_vein_111 rfl rfl ?_
            refine g_get X (D := D15) (v := .ref (E.1 89)) (T := TX13) 84 uX13 (wg_84 E _) rfl 9 (by decide) fl_X13_29 rfl rfl dX13_vein_112 ?_
            refine g_iload X 5 dX13_vein_115 rfl ?_
            refine g_iconst X (v := (1 : Int32)) dX13_vein_117 (by decide) ?_
            obtain ⟨b18, h⟩ := chk_s h
            refine g_iast X (D := D15) (f := (D15.2.2.1 74)) (i := x4) (x := (1 : Int32)) (D' := (setA D15 74 (upd (D15.2.2.1 74) x4.toNatClampNeg (1 : Int32)))) 89 (wg_89 E _) (inB_vp b18) (ws_A_74 E _ _) dX13_vein_118 ?_
            refine g_iinc X 3 (v := (x2 + (1 : Int32))) (lv' := [(2, .int (x2 + (1 : Int32))), (6, .int r16), (0, .ref (E.1 84)), (1, .int x1), (3, .int x3), (4, .int x4), (5, .int x5)]) dX13_vein_119 rfl rfl (by decide) rfl ?_
            refine g_iinc X 6 (v := (x5 + (1 : Int32))) (lv' := [(5, .int (x5 + (1 : Int32))), (2, .int (x2 + (1 : Int32))), (6, .int r16), (0, .ref (E.1 84)), (1, .int x1), (3, .int x3), (4, .int x4)]) dX13_vein_122 rfl rfl (by decide) rfl ?_
            refine g_goto X (tgt := 54) dX13_vein_125 (by decide) ?_
            refine g_sub (lv' := [(0, .ref (E.1 84)), (1, .int x1), (2, .int (x2 + (1 : Int32))), (3, .int x3), (4, .int x4), (5, .int (x5 + (1 : Int32)))]) [3, 4, 1, 5, 6, 0] rfl ?_
            exact h1 _ (Option.some.inj h).symm
          · have h := (ite_s h).1 c19
            refine g_goto X (tgt := 122) dX13_vein_108 (by decide) ?_
            refine g_iinc X 6 (v := (x5 + (1 : Int32))) (lv' := [(5, .int (x5 + (1 : Int32))), (6, .int r16), (0, .ref (E.1 84)), (1, .int x1), (2, .int x2), (3, .int x3), (4, .int x4)]) dX13_vein_122 rfl rfl (by decide) rfl ?_
            refine g_goto X (tgt := 54) dX13_vein_125 (by decide) ?_
            refine g_sub (lv' := [(0, .ref (E.1 84)), (1, .int x1), (2, .int x2), (3, .int x3), (4, .int x4), (5, .int (x5 + (1 : Int32)))]) [2, 3, 4, 5, 6, 0] rfl ?_
            exact h1 _ (Option.some.inj h).symm
set_option maxRecDepth 100000 in
set_option maxHeartbeats 4000000 in
theorem c_X13_vein (l : Launch) (G : va_G) (E : EE) (a0 : Int32) (D : DD) (r : RT) (h : S_X13_vein a0 D = some r) : MM l G E yX13_vein cX13_vein 7 (some .int) (rmm 1) [.ref (E.1 84), .int a0] D r := by
  unfold S_X13_vein at h
  refine m_of rfl (Nat.le_of_ble_eq_true rfl) ?_
  intro p e s m args below meth c X hr
  exact run_G (T := T_X13_vein) (HG := hg_X13_vein p l e s m args below meth c G E r) (by
    intro k ls D o hT h1 h2
    unfold T_X13_vein at hT
    split at hT
    · exact bl_X13_vein_0 X hr _ D o hT h1 h2
    · exact bl_X13_vein_1 X hr _ _ D o hT h1 h2
    · exact bl_X13_vein_2 X hr _ _ _ D o hT h1 h2
    · exact bl_X13_vein_3 X hr _ _ _ _ D o hT h1 h2
    · exact bl_X13_vein_4 X hr _ _ _ _ _ D o hT h1 h2
    · cases hT) FUEL 0 [a0] D h
