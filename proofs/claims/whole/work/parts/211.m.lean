def b_X13_bestCharge_0  (D : DD) : Option ((Nat × List Int32 × DD) ⊕ RT) := (if ((D.2.2.1 70) (3 : Int32).toNatClampNeg) = 0 then some (.inl (1, [(0 : Int32), (1 : Int32)], (setI D 140 (1 : Int32)))) else some (.inl (1, [(0 : Int32), (1 : Int32)], (setI D 140 (0 : Int32)))))
def b_X13_bestCharge_1 (x1 : Int32) (x2 : Int32) (D : DD) : Option ((Nat × List Int32 × DD) ⊕ RT) := (if ((D.2.2.1 70) (3 : Int32).toNatClampNeg) ≤ x2 then some (.inr (0, some (.int x1), D)) else (cI (S_X13_fallsOf x2 D) (fun r4 D3 => (cI (S_X13_fallsOf x1 D3) (fun r7 D6 => (if r4 ≤ r7 then some (.inl (1, [x1, (x2 + (1 : Int32))], D6)) else some (.inl (1, [x2, (x2 + (1 : Int32))], D6))))))))
def T_X13_bestCharge (k : Nat) (ls : List Int32) (D : DD) : Option ((Nat × List Int32 × DD) ⊕ RT) := match k, ls with
  | 0, [] => b_X13_bestCharge_0  D
  | 1, [x1, x2] => b_X13_bestCharge_1 x1 x2 D
  | _, _ => none
def S_X13_bestCharge  (D : DD) : Option RT := run T_X13_bestCharge FUEL 0 [] D
def hg_X13_bestCharge (p : Program) (l : Launch) (e : Env) (s : State) (m : MethodId) (args : Array Value) (below : List Frame) (meth : Method) (c : Code) (G : va_G) (E : EE) (r : RT) (k : Nat) (ls : List Int32) (D : DD) : Prop := match k, ls with
  | 0, [] => GW p l e (rmm 4) s m args below meth c G E 3 (MQ below (QR G E s.heap.size r) args s 0 0 (fr E s.heap.size)) 0 0 D 0 [(0, .ref (E.1 84))] []
  | 1, [x1, x2] => GW p l e (rmm 4) s m args below meth c G E 3 (MQ below (QR G E s.heap.size r) args s 0 0 (fr E s.heap.size)) 0 0 D 22 [(0, .ref (E.1 84)), (1, .int x1), (2, .int x2)] []
  | _, _ => True
set_option maxRecDepth 100000 in
set_option maxHeartbeats 4000000 in
theorem bl_X13_bestCharge_0 {p : Program} {l : Launch} {e : Env} {s : State} {m : MethodId} {args : Array Value} {below : List Frame} {meth : Method} {c : Code} {G : va_G} {E : EE} {r : RT} (X : CX p s m args meth c cX13_bestCharge RX13 3 G E) (hr : meth.sig.returnType = (some .int))  (D : DD) (o : (Nat × List Int32 × DD) ⊕ RT) (h : b_X13_bestCharge_0  D = some o) (h1 : ∀ x, o = .inl x → hg_X13_bestCharge p l e s m args below meth c G E r x.1 x.2.1 x.2.2) (h2 : ∀ x, o = .inr x → x = r) : GW p l e (rmm 4) s m args below meth c G E 3 (MQ below (QR G E s.heap.size r) args s 0 0 (fr E s.heap.size)) 0 0 D 0 [(0, .ref (E.1 84))] [] := by
  unfold b_X13_bestCharge_0 at h
  refine g_aload_n X 0 (i0 := 0) dX13_bestCharge_0 rfl rfl ?_
  refine g_aload_n X 0 (i0 := 0) dX13_bestCharge_1 rfl rfl ?_
  refine g_get X (D := D) (v := .ref (E.1 85)) (T := TX13) 84 uX13 (wg_84 E _) rfl 5 (by decide) fl_X13_16 rfl rfl dX13_bestCharge_2 ?_
  refine g_iconst X (v := (3 : Int32)) dX13_bestCharge_5 (by decide) ?_
  refine g_iald X (D := D) (f := (D.2.2.1 70)) (i := (3 : Int32)) 85 (wg_85 E _) (inB_vp (by decide)) dX13_bestCharge_6 ?_
  refine g_if_ne X (tgt := 14) dX13_bestCharge_7 (by decide) (fun c1 => ?_) (fun c1 => ?_)
  · have h := (ite_s h).2 c1
    refine g_iconst X (v := (0 : Int32)) dX13_bestCharge_14 (by decide) ?_
    refine g_put X (D := D) (v := .int (0 : Int32)) (T := TX13) (D' := (setI D 140 (0 : Int32))) 84 uX13 tyX13 tyX13_ok nmX13 (wg_84 E _) rfl 0 (by decide) fl_X13_59 rfl rfl rfl rfl (Nat.le_of_ble_eq_true rfl) (ws_I_140 E _ _) dX13_bestCharge_15 ?_
    refine g_iconst X (v := (0 : Int32)) dX13_bestCharge_18 (by decide) ?_
    refine g_istore_n X (i0 := 1) (lv' := [(1, .int (0 : Int32)), (0, .ref (E.1 84))]) dX13_bestCharge_19 rfl (by decide) rfl ?_
    refine g_iconst X (v := (1 : Int32)) dX13_bestCharge_20 (by decide) ?_
    refine g_istore_n X (i0 := 2) (lv' := [(2, .int (1 : Int32)), (1, .int (0 : Int32)), (0, .ref (E.1 84))]) dX13_bestCharge_21 rfl (by decide) rfl ?_
    refine g_sub (lv' := [(0, .ref (E.1 84)), (1, .int (0 : Int32)), (2, .int (1 : Int32))]) [2, 1, 0] rfl ?_
    exact h1 _ (Option.some.inj h).symm
  · have h := (ite_s h).1 c1
    refine g_iconst X (v := (1 : Int32)) dX13_bestCharge_10 (by decide) ?_
    refine g_goto X (tgt := 15) dX13_bestCharge_11 (by decide) ?_
    refine g_put X (D := D) (v := .int (1 : Int32)) (T := TX13) (D' := (setI D 140 (1 : Int32))) 84 uX13 tyX13 tyX13_ok nmX13 (wg_84 E _) rfl 0 (by decide) fl_X13_59 rfl rfl rfl rfl (Nat.le_of_ble_eq_true rfl) (ws_I_140 E _ _) dX13_bestCharge_15 ?_
    refine g_iconst X (v := (0 : Int32)) dX13_bestCharge_18 (by decide) ?_
    refine g_istore_n X (i0 := 1) (lv' := [(1, .int (0 : Int32)), (0, .ref (E.1 84))]) dX13_bestCharge_19 rfl (by decide) rfl ?_
    refine g_iconst X (v := (1 : Int32)) dX13_bestCharge_20 (by decide) ?_
    refine g_istore_n X (i0 := 2) (lv' := [(2, .int (1 : Int32)), (1, .int (0 : Int32)), (0, .ref (E.1 84))]) dX13_bestCharge_21 rfl (by decide) rfl ?_
    refine g_sub (lv' := [(0, .ref (E.1 84)), (1, .int (0 : Int32)), (2, .int (1 : Int32))]) [2, 1, 0] rfl ?_
    exact h1 _ (Option.some.inj h).symm
set_option maxRecDepth 100000 in
set_option maxHeartbeats 4000000 in
theorem bl_X13_bestCharge_1 {p : Program} {l : Launch} {e : Env} {s : State} {m : MethodId} {args : Array Value} {below : List Frame} {meth : Method} {c : Code} {G : va_G} {E : EE} {r : RT} (X : CX p s m args meth c cX13_bestCharge RX13 3 G E) (hr : meth.sig.returnType = (some .int)) (x1 : Int32) (x2 : Int32) (D : DD) (o : (Nat × List Int32 × DD) ⊕ RT) (h : b_X13_bestCharge_1 x1 x2 D = some o) (h1 : ∀ x, o = .inl x → hg_X13_bestCharge p l e s m args below meth c G E r x.1 x.2.1 x.2.2) (h2 : ∀ x, o = .inr x → x = r) : GW p l e (rmm 4) s m args below meth c G E 3 (MQ below (QR G E s.heap.size r) args s 0 0 (fr E s.heap.size)) 0 0 D 22 [(0, .ref (E.1 84)), (1, .int x1), (2, .int x2)] [] := by
  unfold b_X13_bestCharge_1 at h
  refine g_iload_n X 2 (i0 := 2) dX13_bestCharge_22 rfl rfl ?_
  refine g_aload_n X 0 (i0 := 0) dX13_bestCharge_23 rfl rfl ?_
  refine g_get X (D := D) (v := .ref (E.1 85)) (T := TX13) 84 uX13 (wg_84 E _) rfl 5 (by decide) fl_X13_16 rfl rfl dX13_bestCharge_24 ?_
  refine g_iconst X (v := (3 : Int32)) dX13_bestCharge_27 (by decide) ?_
  refine g_iald X (D := D) (f := (D.2.2.1 70)) (i := (3 : Int32)) 85 (wg_85 E _) (inB_vp (by decide)) dX13_bestCharge_28 ?_
  refine g_icmp_ge X (tgt := 53) dX13_bestCharge_29 (by decide) (fun c9 => ?_) (fun c9 => ?_)
  · have h := (ite_s h).1 c9
    refine g_iload_n X 1 (i0 := 1) dX13_bestCharge_53 rfl rfl ?_
    exact g_iret X hr rfl dX13_bestCharge_54 (h2 _ (Option.some.inj h).symm)
  · have h := (ite_s h).2 c9
    refine g_aload_n X 0 (i0 := 0) dX13_bestCharge_32 rfl rfl ?_
    refine g_iload_n X 2 (i0 := 2) dX13_bestCharge_33 rfl rfl ?_
    obtain ⟨r4, D3, e2, h⟩ := cI_s h
    refine g_V X (As := [.int x2]) (rest := []) (c_X13_fallsOf l G E x2 _ _ e2) 84 (wg_84 E _) rfl rfl kv_X13_164 ⟨rfl, rfl⟩ ⟨rfl, hd_X13_fallsOf⟩ (⟨Nat.le_of_ble_eq_true rfl, Nat.le_of_ble_eq_true rfl⟩) rfl rfl (Nat.le_of_ble_eq_true rfl) dX13_bestCharge_34 ?_
    refine g_aload_n X 0 (i0 := 0) dX13_bestCharge_37 rfl rfl ?_
    refine g_iload_n X 1 (i0 := 1) dX13_bestCharge_38 rfl rfl ?_
    obtain ⟨r7, D6, e5, h⟩ := cI_s h
    refine g_V X (As := [.int x1]) (rest := [.int r4]) (c_X13_fallsOf l G E x1 _ _ e5) 84 (wg_84 E _) rfl rfl kv_X13_164 ⟨rfl, rfl⟩ ⟨rfl, hd_X13_fallsOf⟩ (⟨Nat.le_of_ble_eq_true rfl, Nat.le_of_ble_eq_true rfl⟩) rfl rfl (Nat.le_of_ble_eq_true rfl) dX13_bestCharge_39 ?_
    refine g_icmp_le X (tgt := 47) dX13_bestCharge_42 (by decide) (fun c8 => ?_) (fun c8 => ?_)
    · have h := (ite_s h).1 c8
      refine g_iinc X 2 (v := (x2 + (1 : Int32))) (lv' := [(2, .int (x2 + (1 : Int32))), (0, .ref (E.1 84)), (1, .int x1)]) dX13_bestCharge_47 rfl rfl (by decide) rfl ?_
      refine g_goto X (tgt := 22) dX13_bestCharge_50 (by decide) ?_
      refine g_sub (lv' := [(0, .ref (E.1 84)), (1, .int x1), (2, .int (x2 + (1 : Int32)))]) [1, 2, 0] rfl ?_
      exact h1 _ (Option.some.inj h).symm
    · have h := (ite_s h).2 c8
      refine g_iload_n X 2 (i0 := 2) dX13_bestCharge_45 rfl rfl ?_
      refine g_istore_n X (i0 := 1) (lv' := [(1, .int x2), (0, .ref (E.1 84)), (2, .int x2)]) dX13_bestCharge_46 rfl (by decide) rfl ?_
      refine g_iinc X 2 (v := (x2 + (1 : Int32))) (lv' := [(2, .int (x2 + (1 : Int32))), (1, .int x2), (0, .ref (E.1 84))]) dX13_bestCharge_47 rfl rfl (by decide) rfl ?_
      refine g_goto X (tgt := 22) dX13_bestCharge_50 (by decide) ?_
      refine g_sub (lv' := [(0, .ref (E.1 84)), (1, .int x2), (2, .int (x2 + (1 : Int32)))]) [2, 1, 0] rfl ?_
      exact h1 _ (Option.some.inj h).symm
set_option maxRecDepth 100000 in
set_option maxHeartbeats 4000000 in
theorem c_X13_bestCharge (l : Launch) (G : va_G) (E : EE)  (D : DD) (r : RT) (h : S_X13_bestCharge  D = some r) : MM l G E yX13_bestCharge cX13_bestCharge 3 (some .int) (rmm 4) [.ref (E.1 84)] D r := by
  unfold S_X13_bestCharge at h
  refine m_of rfl (Nat.le_of_ble_eq_true rfl) ?_
  intro p e s m args below meth c X hr
  exact run_G (T := T_X13_bestCharge) (HG := hg_X13_bestCharge p l e s m args below meth c G E r) (by
    intro k ls D o hT h1 h2
    unfold T_X13_bestCharge at hT
    split at hT
    · exact bl_X13_bestCharge_0 X hr  D o hT h1 h2
    · exact bl_X13_bestCharge_1 X hr _ _ D o hT h1 h2
    · cases hT) FUEL 0 [] D h
theorem wk_X13_167 : Cond.constant RX13 167 (100000 : Int32) ∈ UT := ut 1620 (by decide +kernel) (by decide +kernel)
def b_X13_tunnelCost_0  (D : DD) : Option ((Nat × List Int32 × DD) ⊕ RT) := some (.inl (1, [(0 : Int32)], (setI D 140 (0 : Int32))))
def b_X13_tunnelCost_1 (x1 : Int32) (D : DD) : Option ((Nat × List Int32 × DD) ⊕ RT) := (if (36 : Int32) ≤ x1 then some (.inl (2, [(1 : Int32)], D)) else (if (x1 - x1 / (6 : Int32) * (6 : Int32)) = 0 then (cI (S_X13_hard x1 D) (fun r4 D3 => (if inB x1 36 = true then some (.inl (1, [(x1 + (1 : Int32))], (setA D3 74 (upd (D3.2.2.1 74) x1.toNatClampNeg r4)))) else none))) else (if inB x1 36 = true then some (.inl (1, [(x1 + (1 : Int32))], (setA D 74 (upd (D.2.2.1 74) x1.toNatClampNeg (100000 : Int32))))) else none)))
def b_X13_tunnelCost_2 (x1 : Int32) (D : DD) : Option ((Nat × List Int32 × DD) ⊕ RT) := (if x1 = 0 then some (.inl (5, [(100000 : Int32), (0 : Int32)], D)) else some (.inl (3, [(0 : Int32), (0 : Int32)], D)))
def b_X13_tunnelCost_3 (x1 : Int32) (x2 : Int32) (D : DD) : Option ((Nat × List Int32 × DD) ⊕ RT) := (if (36 : Int32) ≤ x2 then some (.inl (2, [x1], D)) else some (.inl (4, [x1, x2, (0 : Int32)], D)))
def b_X13_tunnelCost_4 (x1 : Int32) (x2 : Int32) (x3 : Int32) (D : DD) : Option ((Nat × List Int32 × DD) ⊕ RT) := (if (4 : Int32) ≤ x3 then some (.inl (3, [x1, (x2 + (1 : Int32))], D)) else (cI (S_X13_beside x2 x3 D) (fun r22 D21 => (if r22 < 0 then some (.inl (4, [x1, x2, (x3 + (1 : Int32))], D21)) else (if inB r22 36 = true then (cI (S_X13_hard x2 D21) (fun r26 D25 => (if inB x2 36 = true then (if (((D21.2.2.1 74) r22.toNatClampNeg) + r26) < ((D25.2.2.1 74) x2.toNatClampNeg) then (if inB r22 36 = true then (cI (S_X13_hard x2 D25) (fun r31 D30 => (if inB x2 36 = true then some (.inl (4, [(1 : Int32), x2, (x3 + (1 : Int32))], (setA D30 74 (upd (D30.2.2.1 74) x2.toNatClampNeg (((D25.2.2.1 74) r22.toNatClampNeg) + r31))))) else none))) else none) else some (.inl (4, [x1, x2, (x3 + (1 : Int32))], D25))) else none))) else none)))))
def b_X13_tunnelCost_5 (x2 : Int32) (x3 : Int32) (D : DD) : Option ((Nat × List Int32 × DD) ⊕ RT) := (if (6 : Int32) ≤ x3 then some (.inr (0, some (.int x2), D)) else (cI (S_X13_cell x3 (5 : Int32) D) (fun r11 D10 => (if inB r11 36 = true then (if x2 ≤ ((D10.2.2.1 74) r11.toNatClampNeg) then some (.inl (5, [x2, (x3 + (1 : Int32))], D10)) else (cI (S_X13_cell x3 (5 : Int32) D10) (fun r15 D14 => (if inB r15 36 = true then some (.inl (5, [((D14.2.2.1 74) r15.toNatClampNeg), (x3 + (1 : Int32))], D14)) else none)))) else none))))
def T_X13_tunnelCost (k : Nat) (ls : List Int32) (D : DD) : Option ((Nat × List Int32 × DD) ⊕ RT) := match k, ls with
  | 0, [] => b_X13_tunnelCost_0  D
  | 1, [x1] => b_X13_tunnelCost_1 x1 D
  | 2, [x1] => b_X13_tunnelCost_2 x1 D
  | 3, [x1, x2] => b_X13_tunnelCost_3 x1 x2 D
  | 4, [x1, x2, x3] => b_X13_tunnelCost_4 x1 x2 x3 D
  | 5, [x2, x3] => b_X13_tunnelCost_5 x2 x3 D
  | _, _ => none
def S_X13_tunnelCost  (D : DD) : Option RT := run T_X13_tunnelCost FUEL 0 [] D
def hg_X13_tunnelCost (p : Program) (l : Launch) (e : Env) (s : State) (m : MethodId) (args : Array Value) (below : List Frame) (meth : Method) (c : Code) (G : va_G) (E : EE) (r : RT) (k : Nat) (ls : List Int32) (D : DD) : Prop := match k, ls with
  | 0, [] => GW p l e (rmm 1) s m args below meth c G E 5 (MQ below (QR G E s.heap.size r) args s 0 0 (fr E s.heap.size)) 0 0 D 0 [(0, .ref (E.1 84))] []
  | 1, [x1] => GW p l e (rmm 1) s m args below meth c G E 5 (MQ below (QR G E s.heap.size r) args s 0 0 (fr E s.heap.size)) 0 0 D 7 [(0, .ref (E.1 84)), (1, .int x1)] []
  | 2, [x1] => GW p l e (rmm 1) s m args below meth c G E 5 (MQ below (QR G E s.heap.size r) args s 0 0 (fr E s.heap.size)) 0 0 D 44 [(0, .ref (E.1 84)), (1, .int x1)] []
  | 3, [x1, x2] => GW p l e (rmm 1) s m args below meth c G E 5 (MQ below (QR G E s.heap.size r) args s 0 0 (fr E s.heap.size)) 0 0 D 52 [(0, .ref (E.1 84)), (1, .int x1), (2, .int x2)] []
  | 4, [x1, x2, x3] => GW p l e (rmm 1) s m args below meth c G E 5 (MQ below (QR G E s.heap.size r) args s 0 0 (fr E s.heap.size)) 0 0 D 60 [(0, .ref (E.1 84)), (1, .int x1), (2, .int x2), (3, .int x3)] []
  | 5, [x2, x3] => GW p l e (rmm 1) s m args below meth c G E 5 (MQ below (QR G E s.heap.size r) args s 0 0 (fr E s.heap.size)) 0 0 D 143 [(0, .ref (E.1 84)), (2, .int x2), (3, .int x3)] []
  | _, _ => True
set_option maxRecDepth 100000 in
set_option maxHeartbeats 4000000 in
theorem bl_X13_tunnelCost_0 {p : Program} {l : Launch} {e : Env} {s : State} {m : MethodId} {args : Array Value} {below : List Frame} {meth : Method} {c : Code} {G : va_G} {E : EE} {r : RT} (X : CX p s m args meth c cX13_tunnelCost RX13 5 G E) (hr : meth.sig.returnType = (some .int))  (D : DD) (o : (Nat × List Int32 × DD) ⊕ RT) (h : b_X13_tunnelCost_0  D = some o) (h1 : ∀ x, o = .inl x → hg_X13_tunnelCost p l e s m args below meth c G E r x.1 x.2.1 x.2.2) (h2 : ∀ x, o = .inr x → x = r) : GW p l e (rmm 1) s m args below meth c G E 5 (MQ below (QR G E s.heap.size r) args s 0 0 (fr E s.heap.size)) 0 0 D 0 [(0, .ref (E.1 84))] [] := by
  unfold b_X13_tunnelCost_0 at h
  refine g_aload_n X 0 (i0 := 0) dX13_tunnelCost_0 rfl rfl ?_
  refine g_iconst X (v := (0 : Int32)) dX13_tunnelCost_1 (by decide) ?_
  refine g_put X (D := D) (v := .int (0 : Int32)) (T := TX13) (D' := (setI D 140 (0 : Int32))) 84 uX13 tyX13 tyX13_ok nmX13 (wg_84 E _) rfl 0 (by decide) fl_X13_59 rfl rfl rfl rfl (Nat.le_of_ble_eq_true rfl) (ws_I_140 E _ _) dX13_tunnelCost_2 ?_
  refine g_iconst X (v := (0 : Int32)) dX13_tunnelCost_5 (by decide) ?_
  refine g_istore_n X (i0 := 1) (lv' := [(1, .int (0 : Int32)), (0, .ref (E.1 84))]) dX13_tunnelCost_6 rfl (by decide) rfl ?_
  refine g_sub (lv' := [(0, .ref (E.1 84)), (1, .int (0 : Int32))]) [1, 0] rfl ?_
  exact h1 _ (Option.some.inj h).symm
set_option maxRecDepth 100000 in
set_option maxHeartbeats 4000000 in
theorem bl_X13_tunnelCost_1 {p : Program} {l : Launch} {e : Env} {s : State} {m : MethodId} {args : Array Value} {below : List Frame} {meth : Method} {c : Code} {G : va_G} {E : EE} {r : RT} (X : CX p s m args meth c cX13_tunnelCost RX13 5 G E) (hr : meth.sig.returnType = (some .int)) (x1 : Int32) (D : DD) (o : (Nat × List Int32 × DD) ⊕ RT) (h : b_X13_tunnelCost_1 x1 D = some o) (h1 : ∀ x, o = .inl x → hg_X13_tunnelCost p l e s m args below meth c G E r x.1 x.2.1 x.2.2) (h2 : ∀ x, o = .inr x → x = r) : GW p l e (rmm 1) s m args below meth c G E 5 (MQ below (QR G E s.heap.size r) args s 0 0 (fr E s.heap.size)) 0 0 D 7 [(0, .ref (E.1 84)), (1, .int x1)] [] := by
  unfold b_X13_tunnelCost_1 at h
  refine g_iload_n X 1 (i0 := 1) dX13_tunnelCost_7 rfl rfl ?_
  refine g_bipush X (v := (36 : Int32)) dX13_tunnelCost_8 (by decide) ?_
  refine g_icmp_ge X (tgt := 42) dX13_tunnelCost_10 (by decide) (fun c7 => ?_) (fun c7 => ?_)
  · have h := (ite_s h).1 c7
    refine g_iconst X (v := (1 : Int32)) dX13_tunnelCost_42 (by decide) ?_
    refine g_istore_n X (i0 := 1) (lv' := [(1, .int (1 : Int32)), (0, .ref (E.1 84))]) dX13_tunnelCost_43 rfl (by decide) rfl ?_
    refine g_sub (lv' := [(0, .ref (E.1 84)), (1, .int (1 : Int32))]) [1, 0] rfl ?_
    exact h1 _ (Option.some.inj h).symm
  · have h := (ite_s h).2 c7
    refine g_aload_n X 0 (i0 := 0) dX13_tunnelCost_13 rfl rfl ?_
    refine g_get X (D := D) (v := .ref (E.1 89)) (T := TX13) 84 uX13 (wg_84 E _) rfl 9 (by decide) fl_X13_29 rfl rfl dX13_tunnelCost_14 ?_
    refine g_iload_n X 1 (i0 := 1) dX13_tunnelCost_17 rfl rfl ?_
    refine g_iload_n X 1 (i0 := 1) dX13_tunnelCost_18 rfl rfl ?_
    refine g_bipush X (v := (6 : Int32)) dX13_tunnelCost_19 (by decide) ?_
    refine g_irem X (by decide) dX13_tunnelCost_21 ?_
    refine g_if_ne X (tgt := 33) dX13_tunnelCost_22 (by decide) (fun c6 => ?_) (fun c6 => ?_)
    · have h := (ite_s h).2 c6
      refine g_ldc X (v := (100000 : Int32)) wk_X13_167 dX13_tunnelCost_33 ?_
      obtain ⟨b1, h⟩ := chk_s h
      refine g_iast X (D := D) (f := (D.2.2.1 74)) (i := x1) (x := (100000 : Int32)) (D' := (setA D 74 (upd (D.2.2.1 74) x1.toNatClampNeg (100000 : Int32)))) 89 (wg_89 E _) (inB_vp b1) (ws_A_74 E _ _) dX13_tunnelCost_35 ?_
      refine g_iinc X 1 (v := (x1 + (1 : Int32))) (lv' := [(1, .int (x1 + (1 : Int32))), (0, .ref (E.1 84))]) dX13_tunnelCost_36 rfl rfl (by decide) rfl ?_
      refine g_goto X (tgt := 7) dX13_tunnelCost_39 (by decide) ?_
      refine g_sub (lv' := [(0, .ref (E.1 84)), (1, .int (x1 + (1 : Int32)))]) [1, 0] rfl ?_
      exact h1 _ (Option.some.inj h).symm
    · have h := (ite_s h).1 c6
      refine g_aload_n X 0 (i0 := 0) dX13_tunnelCost_25 rfl rfl ?_
      refine g_iload_n X 1 (i0 := 1) dX13_tunnelCost_26 rfl rfl ?_
      obtain ⟨r4, D3, e2, h⟩ := cI_s h
      refine g_V X (As := [.int x1]) (rest := [.int x1, .ref (E.1 89)]) (c_X13_hard l G E x1 _ _ e2) 84 (wg_84 E _) rfl rfl kv_X13_88 ⟨rfl, rfl⟩ ⟨rfl, hd_X13_hard⟩ (⟨Nat.le_of_ble_eq_true rfl, Nat.le_of_ble_eq_true rfl⟩) rfl rfl (Nat.le_of_ble_eq_true rfl) dX13_tunnelCost_27 ?_
      refine g_goto X (tgt := 35) dX13_tunnelCost_30 (by decide) ?_
      obtain ⟨b5, h⟩ := chk_s h
      refine g_iast X (D := D3) (f := (D3.2.2.1 74)) (i := x1) (x := r4) (D' := (setA D3 74 (upd (D3.2.2.1 74) x1.toNatClampNeg r4))) 89 (wg_89 E _) (inB_vp b5) (ws_A_74 E _ _) dX13_tunnelCost_35 ?_
      refine g_iinc X 1 (v := (x1 + (1 : Int32))) (lv' := [(1, .int (x1 + (1 : Int32))), (0, .ref (E.1 84))]) dX13_tunnelCost_36 rfl rfl (by decide) rfl ?_
      refine g_goto X (tgt := 7) dX13_tunnelCost_39 (by decide) ?_
      refine g_sub (lv' := [(0, .ref (E.1 84)), (1, .int (x1 + (1 : Int32)))]) [1, 0] rfl ?_
      exact h1 _ (Option.some.inj h).symm
set_option maxRecDepth 100000 in
set_option maxHeartbeats 4000000 in
theorem bl_X13_tunnelCost_2 {p : Program} {l : Launch} {e : Env} {s : State} {m : MethodId} {args : Array Value} {below : List Frame} {meth : Method} {c : Code} {G : va_G} {E : EE} {r : RT} (X : CX p s m args meth c cX13_tunnelCost RX13 5 G E) (hr : meth.sig.returnType = (some .int)) (x1 : Int32) (D : DD) (o : (Nat × List Int32 × DD) ⊕ RT) (h : b_X13_tunnelCost_2 x1 D = some o) (h1 : ∀ x, o = .inl x → hg_X13_tunnelCost p l e s m args below meth c G E r x.1 x.2.1 x.2.2) (h2 : ∀ x, o = .inr x → x = r) : GW p l e (rmm 1) s m args below meth c G E 5 (MQ below (QR G E s.heap.size r) args s 0 0 (fr E s.heap.size)) 0 0 D 44 [(0, .ref (E.1 84)), (1, .int x1)] [] := by
  unfold b_X13_tunnelCost_2 at h
  refine g_iload_n X 1 (i0 := 1) dX13_tunnelCost_44 rfl rfl ?_
  refine g_if_eq X (tgt := 138) dX13_tunnelCost_45 (by decide) (fun c8 => ?_) (fun c8 => ?_)
  · have h := (ite_s h).1 c8
    refine g_ldc X (v := (100000 : Int32)) wk_X13_167 dX13_tunnelCost_138 ?_
    refine g_istore_n X (i0 := 2) (lv' := [(2, .int (100000 : Int32)), (0, .ref (E.1 84)), (1, .int x1)]) dX13_tunnelCost_140 rfl (by decide) rfl ?_
    refine g_iconst X (v := (0 : Int32)) dX13_tunnelCost_141 (by decide) ?_
    refine g_istore_n X (i0 := 3) (lv' := [(3, .int (0 : Int32)), (2, .int (100000 : Int32)), (0, .ref (E.1 84)), (1, .int x1)]) dX13_tunnelCost_142 rfl (by decide) rfl ?_
    refine g_sub (lv' := [(0, .ref (E.1 84)), (2, .int (100000 : Int32)), (3, .int (0 : Int32))]) [2, 1, 0] rfl ?_
    exact h1 _ (Option.some.inj h).symm
  · have h := (ite_s h).2 c8
    refine g_iconst X (v := (0 : Int32)) dX13_tunnelCost_48 (by decide) ?_
    refine g_istore_n X (i0 := 1) (lv' := [(1, .int (0 : Int32)), (0, .ref (E.1 84))]) dX13_tunnelCost_49 rfl (by decide) rfl ?_
    refine g_iconst X (v := (0 : Int32)) dX13_tunnelCost_50 (by decide) ?_
    refine g_istore_n X (i0 := 2) (lv' := [(2, .int (0 : Int32)), (1, .int (0 : Int32)), (0, .ref (E.1 84))]) dX13_tunnelCost_51 rfl (by decide) rfl ?_
    refine g_sub (lv' := [(0, .ref (E.1 84)), (1, .int (0 : Int32)), (2, .int (0 : Int32))]) [2, 1, 0] rfl ?_
    exact h1 _ (Option.some.inj h).symm
set_option maxRecDepth 100000 in
set_option maxHeartbeats 4000000 in
theorem bl_X13_tunnelCost_3 {p : Program} {l : Launch} {e : Env} {s : State} {m : MethodId} {args : Array Value} {below : List Frame} {meth : Method} {c : Code} {G : va_G} {E : EE} {r : RT} (X : CX p s m args meth c cX13_tunnelCost RX13 5 G E) (hr : meth.sig.returnType = (some .int)) (x1 : Int32) (x2 : Int32) (D : DD) (o : (Nat × List Int32 × DD) ⊕ RT) (h : b_X13_tunnelCost_3 x1 x2 D = some o) (h1 : ∀ x, o = .inl x → hg_X13_tunnelCost p l e s m args below meth c G E r x.1 x.2.1 x.2.2) (h2 : ∀ x, o = .inr x → x = r) : GW p l e (rmm 1) s m args below meth c G E 5 (MQ below (QR G E s.heap.size r) args s 0 0 (fr E s.heap.size)) 0 0 D 52 [(0, .ref (E.1 84)), (1, .int x1), (2, .int x2)] [] := by
  unfold b_X13_tunnelCost_3 at h
  refine g_iload_n X 2 (i0 := 2) dX13_tunnelCost_52 rfl rfl ?_
  refine g_bipush X (v := (36 : Int32)) dX13_tunnelCost_53 (by decide) ?_
  refine g_icmp_ge X (tgt := 135) dX13_tunnelCost_55 (by decide) (fun c19 => ?_) (fun c19 => ?_)
  · have h := (ite_s h).1 c19
    refine g_goto X (tgt := 44) dX13_tunnelCost_135 (by decide) ?_
    refine g_sub (lv' := [(0, .ref (E.1 84)), (1, .int x1)]) [0, 1] rfl ?_
    exact h1 _ (Option.some.inj h).symm
  · have h := (ite_s h).2 c19
    refine g_iconst X (v := (0 : Int32)) dX13_tunnelCost_58 (by decide) ?_
    refine g_istore_n X (i0 := 3) (lv' := [(3, .int (0 : Int32)), (0, .ref (E.1 84)), (1, .int x1), (2, .int x2)]) dX13_tunnelCost_59 rfl (by decide) rfl ?_
    refine g_sub (lv' := [(0, .ref (E.1 84)), (1, .int x1), (2, .int x2), (3, .int (0 : Int32))]) [1, 2, 3, 0] rfl ?_
    exact h1 _ (Option.some.inj h).symm
set_option maxRecDepth 100000 in
set_option maxHeartbeats 4000000 in
theorem bl_X13_tunnelCost_4 {p : Program} {l : Launch} {e : Env} {s : State} {m : MethodId} {args : Array Value} {below : List Frame} {meth : Method} {c : Code} {G : va_G} {E : EE} {r : RT} (X : CX p s m args meth c cX13_tunnelCost RX13 5 G E) (hr : meth.sig.returnType = (some .int)) (x1 : Int32) (x2 : Int32) (x3 : Int32) (D : DD) (o : (Nat × List Int32 × DD) ⊕ RT) (h : b_X13_tunnelCost_4 x1 x2 x3 D = some o) (h1 : ∀ x, o = .inl x → hg_X13_tunnelCost p l e s m args below meth c G E r x.1 x.2.1 x.2.2) (h2 : ∀ x, o = .inr x → x = r) : GW p l e (rmm 1) s m args below meth c G E 5 (MQ below (QR G E s.heap.size r) args s 0 0 (fr E s.heap.size)) 0 0 D 60 [(0, .ref (E.1 84)), (1, .int x1), (2, .int x2), (3, .int x3)] [] := by
  unfold b_X13_tunnelCost_4 at h
  refine g_iload_n X 3 (i0 := 3) dX13_tunnelCost_60 rfl rfl ?_
  refine g_iconst X (v := (4 : Int32)) dX13_tunnelCost_61 (by decide) ?_
  refine g_icmp_ge X (tgt := 129) dX13_tunnelCost_62 (by decide) (fun c35 => ?_) (fun c35 => ?_)
  · have h := (ite_s h).1 c35
    refine g_iinc X 2 (v := (x2 + (1 : Int32))) (lv' := [(2, .int (x2 + (1 : Int32))), (0, .ref (E.1 84)), (1, .int x1), (3, .int x3)]) dX13_tunnelCost_129 rfl rfl (by decide) rfl ?_
    refine g_goto X (tgt := 52) dX13_tunnelCost_132 (by decide) ?_
    refine g_sub (lv' := [(0, .ref (E.1 84)), (1, .int x1), (2, .int (x2 + (1 : Int32)))]) [1, 2, 0] rfl ?_
    exact h1 _ (Option.some.inj h).symm
  · have h := (ite_s h).2 c35
    refine g_iload_n X 2 (i0 := 2) dX13_tunnelCost_65 rfl rfl ?_
    refine g_iload_n X 3 (i0 := 3) dX13_tunnelCost_66 rfl rfl ?_
    obtain ⟨r22, D21, e20, h⟩ := cI_s h
    refine g_S X (As := [.int x2, .int x3]) (rest := []) (c_X13_beside l G E x2 x3 _ _ e20) ks_X13_101 ⟨rfl, rfl⟩ hd_X13_beside (⟨Nat.le_of_ble_eq_true rfl, Nat.le_of_ble_eq_true rfl⟩) rfl rfl (Nat.le_of_ble_eq_true rfl) dX13_tunnelCost_67 ?_
    refine g_istore X (lv' := [(4, .int r22), (0, .ref (E.1 84)), (1, .int x1), (2, .int x2), (3, .int x3)]) dX13_tunnelCost_70 (by decide) rfl ?_
    refine g_iload X 0 dX13_tunnelCost_72 rfl ?_
    refine g_if_lt X (tgt := 123) dX13_tunnelCost_74 (by decide) (fun c34 => ?_) (fun c34 => ?_)
    · have h := (ite_s h).1 c34
      refine g_iinc X 4 (v := (x3 + (1 : Int32))) (lv' := [(3, .int (x3 + (1 : Int32))), (4, .int r22), (0, .ref (E.1 84)), (1, .int x1), (2, .int x2)]) dX13_tunnelCost_123 rfl rfl (by decide) rfl ?_
      refine g_goto X (tgt := 60) dX13_tunnelCost_126 (by decide) ?_
      refine g_sub (lv' := [(0, .ref (E.1 84)), (1, .int x1), (2, .int x2), (3, .int (x3 + (1 : Int32)))]) [2, 3, 4, 0] rfl ?_
      exact h1 _ (Option.some.inj h).symm
    · have h := (ite_s h).2 c34
      refine g_aload_n X 1 (i0 := 0) dX13_tunnelCost_77 rfl rfl ?_
      refine g_get X (D := D21) (v := .ref (E.1 89)) (T := TX13) 84 uX13 (wg_84 E _) rfl 9 (by decide) fl_X13_29 rfl rfl dX13_tunnelCost_78 ?_
      refine g_iload X 0 dX13_tunnelCost_81 rfl ?_
      obtain ⟨b23, h⟩ := chk_s h
      refine g_iald X (D := D21) (f := (D21.2.2.1 74)) (i := r22) 89 (wg_89 E _) (inB_vp b23) dX13_tunnelCost_83 ?_
      refine g_aload_n X 1 (i0 := 0) dX13_tunnelCost_84 rfl rfl ?_
      refine g_iload_n X 3 (i0 := 2) dX13_tunnelCost_85 rfl rfl ?_
      obtain ⟨r26, D25, e24, h⟩ := cI_s h
      refine g_V X (As := [.int x2]) (rest := [.int ((D21.2.2.1 74) r22.toNatClampNeg)]) (c_X13_hard l G E x2 _ _ e24) 84 (wg_84 E _) rfl rfl kv_X13_88 ⟨rfl, rfl⟩ ⟨rfl, hd_X13_hard⟩ (⟨Nat.le_of_ble_eq_true rfl, Nat.le_of_ble_eq_true rfl⟩) rfl rfl (Nat.le_of_ble_eq_true rfl) dX13_tunnelCost_86 ?_
      refine g_iadd X dX13_tunnelCost_89 ?_
      refine g_aload_n X 1 (i0 := 0) dX13_tunnelCost_90 rfl rfl ?_
      refine g_get X (D := D25) (v := .ref (E.1 89)) (T := TX13) 84 uX13 (wg_84 E _) rfl 9 (by decide) fl_X13_29 rfl rfl dX13_tunnelCost_91 ?_
      refine g_iload_n X 3 (i0 := 2) dX13_tunnelCost_94 rfl rfl ?_
      obtain ⟨b27, h⟩ := chk_s h
      refine g_iald X (D := D25) (f := (D25.2.2.1 74)) (i := x2) 89 (wg_89 E _) (inB_vp b27) dX13_tunnelCost_95 ?_
      refine g_icmp_lt X (tgt := 102) dX13_tunnelCost_96 (by decide) (fun c33 => ?_) (fun c33 => ?_)
      · have h := (ite_s h).1 c33
        refine g_aload_n X 1 (i0 := 0) dX13_tunnelCost_102 rfl rfl ?_
        refine g_get X (D := D25) (v := .ref (E.1 89)) (T := TX13) 84 uX13 (wg_84 E _) rfl 9 (by decide) fl_X13_29 rfl rfl dX13_tunnelCost_103 ?_
        refine g_iload_n X 3 (i0 := 2) dX13_tunnelCost_106 rfl rfl ?_
        refine g_aload_n X 1 (i0 := 0) dX13_tunnelCost_107 rfl rfl ?_
        refine g_get X (D := D25) (v := .ref (E.1 89)) (T := TX13) 84 uX13 (wg_84 E _) rfl 9 (by decide) fl_X13_29 rfl rfl dX13_tunnelCost_108 ?_
        refine g_iload X 0 dX13_tunnelCost_111 rfl ?_
        obtain ⟨b28, h⟩ := chk_s h
        refine g_iald X (D := D25) (f := (D25.2.2.1 74)) (i := r22) 89 (wg_89 E _) (inB_vp b28) dX13_tunnelCost_113 ?_
        refine g_aload_n X 1 (i0 := 0) dX13_tunnelCost_114 rfl rfl ?_
        refine g_iload_n X 3 (i0 := 2) dX13_tunnelCost_115 rfl rfl ?_
        obtain ⟨r31, D30, e29, h⟩ := cI_s h
        refine g_V X (As := [.int x2]) (rest := [.int ((D25.2.2.1 74) r22.toNatClampNeg), .int x2, .ref (E.1 89)]) (c_X13_hard l G E x2 _ _ e29) 84 (wg_84 E _) rfl rfl kv_X13_88 ⟨rfl, rfl⟩ ⟨rfl, hd_X13_hard⟩ (⟨Nat.le_of_ble_eq_true rfl, Nat.le_of_ble_eq_true rfl⟩) rfl rfl (Nat.le_of_ble_eq_true rfl) dX13_tunnelCost_116 ?_
        refine g_iadd X dX13_tunnelCost_119 ?_
        obtain ⟨b32, h⟩ := chk_s h
        refine g_iast X (D := D30) (f := (D30.2.2.1 74)) (i := x2) (x := (((D25.2.2.1 74) r22.toNatClampNeg) + r31)) (D' := (setA D30 74 (upd (D30.2.2.1 74) x2.toNatClampNeg (((D25.2.2.1 74) r22.toNatClampNeg) + r31)))) 89 (wg_89 E _) (inB_vp b32) (ws_A_74 E _ _) dX13_tunnelCost_120 ?_
        refine g_iconst X (v := (1 : Int32)) dX13_tunnelCost_121 (by decide) ?_
        refine g_istore_n X (i0 := 1) (lv' := [(1, .int (1 : Int32)), (4, .int r22), (0, .ref (E.1 84)), (2, .int x2), (3, .int x3)]) dX13_tunnelCost_122 rfl (by decide) rfl ?_
        refine g_iinc X 4 (v := (x3 + (1 : Int32))) (lv' := [(3, .int (x3 + (1 : Int32))), (1, .int (1 : Int32)), (4, .int r22), (0, .ref (E.1 84)), (2, .int x2)]) dX13_tunnelCost_123 rfl rfl (by decide) rfl ?_
        refine g_goto X (tgt := 60) dX13_tunnelCost_126 (by decide) ?_
        refine g_sub (lv' := [(0, .ref (E.1 84)), (1, .int (1 : Int32)), (2, .int x2), (3, .int (x3 + (1 : Int32)))]) [3, 1, 4, 0] rfl ?_
        exact h1 _ (Option.some.inj h).symm
      · have h := (ite_s h).2 c33
        refine g_goto X (tgt := 123) dX13_tunnelCost_99 (by decide) ?_
        refine g_iinc X 4 (v := (x3 + (1 : Int32))) (lv' := [(3, .int (x3 + (1 : Int32))), (4, .int r22), (0, .ref (E.1 84)), (1, .int x1), (2, .int x2)]) dX13_tunnelCost_123 rfl rfl (by decide) rfl ?_
        refine g_goto X (tgt := 60) dX13_tunnelCost_126 (by decide) ?_
        refine g_sub (lv' := [(0, .ref (E.1 84)), (1, .int x1), (2, .int x2), (3, .int (x3 + (1 : Int32)))]) [2, 3, 4, 0] rfl ?_
        exact h1 _ (Option.some.inj h).symm
set_option maxRecDepth 100000 in
set_option maxHeartbeats 4000000 in
theorem bl_X13_tunnelCost_5 {p : Program} {l : Launch} {e : Env} {s : State} {m : MethodId} {args : Array Value} {below : List Frame} {meth : Method} {c : Code} {G : va_G} {E : EE} {r : RT} (X : CX p s m args meth c cX13_tunnelCost RX13 5 G E) (hr : meth.sig.returnType = (some .int)) (x2 : Int32) (x3 : Int32) (D : DD) (o : (Nat × List Int32 × DD) ⊕ RT) (h : b_X13_tunnelCost_5 x2 x3 D = some o) (h1 : ∀ x, o = .inl x → hg_X13_tunnelCost p l e s m args below meth c G E r x.1 x.2.1 x.2.2) (h2 : ∀ x, o = .inr x → x = r) : GW p l e (rmm 1) s m args below meth c G E 5 (MQ below (QR G E s.heap.size r) args s 0 0 (fr E s.heap.size)) 0 0 D 143 [(0, .ref (E.1 84)), (2, .int x2), (3, .int x3)] [] := by
  unfold b_X13_tunnelCost_5 at h
  refine g_iload_n X 2 (i0 := 3) dX13_tunnelCost_143 rfl rfl ?_
  refine g_bipush X (v := (6 : Int32)) dX13_tunnelCost_144 (by decide) ?_
  refine g_icmp_ge X (tgt := 184) dX13_tunnelCost_146 (by decide) (fun c18 => ?_) (fun c18 => ?_)
  · have h := (ite_s h).1 c18
    refine g_iload_n X 1 (i0 := 2) dX13_tunnelCost_184 rfl rfl ?_
    exact g_iret X hr rfl dX13_tunnelCost_185 (h2 _ (Option.some.inj h).symm)
  · have h := (ite_s h).2 c18
    refine g_aload_n X 0 (i0 := 0) dX13_tunnelCost_149 rfl rfl ?_
    refine g_get X (D := D) (v := .ref (E.1 89)) (T := TX13) 84 uX13 (wg_84 E _) rfl 9 (by decide) fl_X13_29 rfl rfl dX13_tunnelCost_150 ?_
    refine g_iload_n X 2 (i0 := 3) dX13_tunnelCost_153 rfl rfl ?_
    refine g_iconst X (v := (5 : Int32)) dX13_tunnelCost_154 (by decide) ?_
    obtain ⟨r11, D10, e9, h⟩ := cI_s h
    refine g_S X (As := [.int x3, .int (5 : Int32)]) (rest := [.ref (E.1 89)]) (c_X13_cell l G E x3 (5 : Int32) _ _ e9) ks_X13_84 ⟨rfl, rfl⟩ hd_X13_cell (⟨Nat.le_of_ble_eq_true rfl, Nat.le_of_ble_eq_true rfl⟩) rfl rfl (Nat.le_of_ble_eq_true rfl) dX13_tunnelCost_155 ?_
    obtain ⟨b12, h⟩ := chk_s h
    refine g_iald X (D := D10) (f := (D10.2.2.1 74)) (i := r11) 89 (wg_89 E _) (inB_vp b12) dX13_tunnelCost_158 ?_
    refine g_iload_n X 1 (i0 := 2) dX13_tunnelCost_159 rfl rfl ?_
    refine g_icmp_ge X (tgt := 176) dX13_tunnelCost_160 (by decide) (fun c17 => ?_) (fun c17 => ?_)
    · have h := (ite_s h).1 c17
      refine g_iload_n X 1 (i0 := 2) dX13_tunnelCost_176 rfl rfl ?_
      refine g_istore_n X (i0 := 2) (lv' := [(2, .int x2), (0, .ref (E.1 84)), (3, .int x3)]) dX13_tunnelCost_177 rfl (by decide) rfl ?_
      refine g_iinc X 2 (v := (x3 + (1 : Int32))) (lv' := [(3, .int (x3 + (1 : Int32))), (2, .int x2), (0, .ref (E.1 84))]) dX13_tunnelCost_178 rfl rfl (by decide) rfl ?_
      refine g_goto X (tgt := 143) dX13_tunnelCost_181 (by decide) ?_
      refine g_sub (lv' := [(0, .ref (E.1 84)), (2, .int x2), (3, .int (x3 + (1 : Int32)))]) [2, 1, 0] rfl ?_
      exact h1 _ (Option.some.inj h).symm
    · have h := (ite_s h).2 c17
      refine g_aload_n X 0 (i0 := 0) dX13_tunnelCost_163 rfl rfl ?_
      refine g_get X (D := D10) (v := .ref (E.1 89)) (T := TX13) 84 uX13 (wg_84 E _) rfl 9 (by decide) fl_X13_29 rfl rfl dX13_tunnelCost_164 ?_
      refine g_iload_n X 2 (i0 := 3) dX13_tunnelCost_167 rfl rfl ?_
      refine g_iconst X (v := (5 : Int32)) dX13_tunnelCost_168 (by decide) ?_
      obtain ⟨r15, D14, e13, h⟩ := cI_s h
      refine g_S X (As := [.int x3, .int (5 : Int32)]) (rest := [.ref (E.1 89)]) (c_X13_cell l G E x3 (5 : Int32) _ _ e13) ks_X13_84 ⟨rfl, rfl⟩ hd_X13_cell (⟨Nat.le_of_ble_eq_true rfl, Nat.le_of_ble_eq_true rfl⟩) rfl rfl (Nat.le_of_ble_eq_true rfl) dX13_tunnelCost_169 ?_
      obtain ⟨b16, h⟩ := chk_s h
      refine g_iald X (D := D14) (f := (D14.2.2.1 74)) (i := r15) 89 (wg_89 E _) (inB_vp b16) dX13_tunnelCost_172 ?_
      refine g_goto X (tgt := 177) dX13_tunnelCost_173 (by decide) ?_
      refine g_istore_n X (i0 := 2) (lv' := [(2, .int ((D14.2.2.1 74) r15.toNatClampNeg)), (0, .ref (E.1 84)), (3, .int x3)]) dX13_tunnelCost_177 rfl (by decide) rfl ?_
      refine g_iinc X 2 (v := (x3 + (1 : Int32))) (lv' := [(3, .int (x3 + (1 : Int32))), (2, .int ((D14.2.2.1 74) r15.toNatClampNeg)), (0, .ref (E.1 84))]) dX13_tunnelCost_178 rfl rfl (by decide) rfl ?_
      refine g_goto X (tgt := 143) dX13_tunnelCost_181 (by decide) ?_
      refine g_sub (lv' := [(0, .ref (E.1 84)), (2, .int ((D14.2.2.1 74) r15.toNatClampNeg)), (3, .int (x3 + (1 : Int32)))]) [2, 1, 0] rfl ?_
      exact h1 _ (Option.some.inj h).symm
set_option maxRecDepth 100000 in
set_option maxHeartbeats 4000000 in
theorem c_X13_tunnelCost (l : Launch) (G : va_G) (E : EE)  (D : DD) (r : RT) (h : S_X13_tunnelCost  D = some r) : MM l G E yX13_tunnelCost cX13_tunnelCost 5 (some .int) (rmm 1) [.ref (E.1 84)] D r := by
  unfold S_X13_tunnelCost at h
  refine m_of rfl (Nat.le_of_ble_eq_true rfl) ?_
  intro p e s m args below meth c X hr
  exact run_G (T := T_X13_tunnelCost) (HG := hg_X13_tunnelCost p l e s m args below meth c G E r) (by
    intro k ls D o hT h1 h2
    unfold T_X13_tunnelCost at hT
    split at hT
    · exact bl_X13_tunnelCost_0 X hr  D o hT h1 h2
    · exact bl_X13_tunnelCost_1 X hr _ D o hT h1 h2
    · exact bl_X13_tunnelCost_2 X hr _ D o hT h1 h2
    · exact bl_X13_tunnelCost_3 X hr _ _ D o hT h1 h2
    · exact bl_X13_tunnelCost_4 X hr _ _ _ D o hT h1 h2
    · exact bl_X13_tunnelCost_5 X hr _ _ D o hT h1 h2
    · cases hT) FUEL 0 [] D h
theorem hd_X13_tunnelCost : yX13_tunnelCost.cls ≠ "java/lang/invoke/MethodHandle" ∧ yX13_tunnelCost.cls ≠ "java/lang/invoke/VarHandle" ∧ (parseMethodDescriptor yX13_tunnelCost.desc).map (fun d => d.parameters.length) = some 0 := by decide +kernel
theorem wc_X13_tunnelCost : Cond.code yX13_tunnelCost cX13_tunnelCost 5 (some .int) ∈ UT := ut 1619 (by decide +kernel) (by decide +kernel)
theorem we_X13_tunnelCost : Cond.selects RX13 yX13_tunnelCost yX13_tunnelCost ∈ UT := ut 1618 (by decide +kernel) (by decide +kernel)
theorem wm_X13_tunnelCost : Cond.instanceMethod yX13_tunnelCost ∈ UT := ut 1617 (by decide +kernel) (by decide +kernel)
theorem kv_X13_168 : GoodIn UT (wsV RX13 168 RX13 yX13_tunnelCost (Cond.code yX13_tunnelCost cX13_tunnelCost 5 (some .int) :: UT)) := gu_V (ut 1625 (by decide +kernel) (by decide +kernel)) wm_X13_tunnelCost we_X13_tunnelCost wi_RX13 wc_X13_tunnelCost
def S_X13_tunnelByRounds  (D : DD) : Option RT := (cI (S_X13_tunnelCost D) (fun r3 D2 => some (0, some (.int r3), D2)))
set_option maxRecDepth 100000 in
set_option maxHeartbeats 4000000 in
theorem c_X13_tunnelByRounds (l : Launch) (G : va_G) (E : EE)  (D : DD) (r : RT) (h : S_X13_tunnelByRounds  D = some r) : MM l G E yX13_tunnelByRounds cX13_tunnelByRounds 1 (some .int) (rmm 2) [.ref (E.1 84)] D r := by
  refine m_of rfl (Nat.le_of_ble_eq_true rfl) ?_
  intro p e s m args below meth c X hr
  unfold S_X13_tunnelByRounds at h
  refine g_aload_n X 0 (i0 := 0) dX13_tunnelByRounds_0 rfl rfl ?_
  obtain ⟨r3, D2, e1, h⟩ := cI_s h
  refine g_V X (As := []) (rest := []) (c_X13_tunnelCost l G E  _ _ e1) 84 (wg_84 E _) rfl rfl kv_X13_168 ⟨rfl, rfl⟩ ⟨rfl, hd_X13_tunnelCost⟩ (⟨Nat.le_of_ble_eq_true rfl, Nat.le_of_ble_eq_true rfl⟩) rfl rfl (Nat.le_of_ble_eq_true rfl) dX13_tunnelByRounds_1 ?_
  exact g_iret X hr rfl dX13_tunnelByRounds_4 (Option.some.inj h)
theorem fl_X13_35 : Cond.fieldLink RX13 35 "StoneQuarryModel" "next" "[I" ∈ UT := ut 1361 (by decide +kernel) (by decide +kernel)
theorem wg_91 (E : EE) (D : DD) : (wd E D)[91]? = some (E.1 91, .inl (E.2 0, 64, .inl (D.2.2.1 76))) := rfl
theorem ws_A_76 (E : EE) (D : DD) (f : Nat → Int32) : (wd E D).set 91 (E.1 91, .inl (E.2 0, 64, .inl f)) = wd E (setA D 76 f) := rfl
def S_X13_better (a0 : Int32) (a1 : Int32) (D : DD) : Option RT := (if inB a0 64 = true then (if a1 ≤ ((D.2.2.1 76) a0.toNatClampNeg) then some (0, none, D) else (if inB a0 64 = true then some (0, none, (setA D 76 (upd (D.2.2.1 76) a0.toNatClampNeg a1))) else none)) else none)
set_option maxRecDepth 100000 in
set_option maxHeartbeats 4000000 in
theorem c_X13_better (l : Launch) (G : va_G) (E : EE) (a0 : Int32) (a1 : Int32) (D : DD) (r : RT) (h : S_X13_better a0 a1 D = some r) : MM l G E yX13_better cX13_better 3 none (rmm 0) [.ref (E.1 84), .int a0, .int a1] D r := by
  refine m_of rfl (Nat.le_of_ble_eq_true rfl) ?_
  intro p e s m args below meth c X hr
  unfold S_X13_better at h
  refine g_iload_n X 2 (i0 := 2) dX13_better_0 rfl rfl ?_
  refine g_aload_n X 0 (i0 := 0) dX13_better_1 rfl rfl ?_
  refine g_get X (D := D) (v := .ref (E.1 91)) (T := TX13) 84 uX13 (wg_84 E _) rfl 11 (by decide) fl_X13_35 rfl rfl dX13_better_2 ?_
  refine g_iload_n X 1 (i0 := 1) dX13_better_5 rfl rfl ?_
  obtain ⟨b1, h⟩ := chk_s h
  refine g_iald X (D := D) (f := (D.2.2.1 76)) (i := a0) 91 (wg_91 E _) (inB_vp b1) dX13_better_6 ?_
  refine g_icmp_le X (tgt := 17) dX13_better_7 (by decide) (fun c3 => ?_) (fun c3 => ?_)
  · have h := (ite_s h).1 c3
    exact g_vret X hr dX13_better_17 (Option.some.inj h)
  · have h := (ite_s h).2 c3
    refine g_aload_n X 0 (i0 := 0) dX13_better_10 rfl rfl ?_
    refine g_get X (D := D) (v := .ref (E.1 91)) (T := TX13) 84 uX13 (wg_84 E _) rfl 11 (by decide) fl_X13_35 rfl rfl dX13_better_11 ?_
    refine g_iload_n X 1 (i0 := 1) dX13_better_14 rfl rfl ?_
    refine g_iload_n X 2 (i0 := 2) dX13_better_15 rfl rfl ?_
    obtain ⟨b2, h⟩ := chk_s h
    refine g_iast X (D := D) (f := (D.2.2.1 76)) (i := a0) (x := a1) (D' := (setA D 76 (upd (D.2.2.1 76) a0.toNatClampNeg a1))) 91 (wg_91 E _) (inB_vp b2) (ws_A_76 E _ _) dX13_better_16 ?_
    exact g_vret X hr dX13_better_17 (Option.some.inj h)
theorem fl_X13_32 : Cond.fieldLink RX13 32 "StoneQuarryModel" "best" "[I" ∈ UT := ut 1360 (by decide +kernel) (by decide +kernel)
theorem hd_X13_better : yX13_better.cls ≠ "java/lang/invoke/MethodHandle" ∧ yX13_better.cls ≠ "java/lang/invoke/VarHandle" ∧ (parseMethodDescriptor yX13_better.desc).map (fun d => d.parameters.length) = some 2 := by decide +kernel
theorem wc_X13_better : Cond.code yX13_better cX13_better 3 none ∈ UT := ut 1638 (by decide +kernel) (by decide +kernel)
theorem we_X13_better : Cond.selects RX13 yX13_better yX13_better ∈ UT := ut 61 (by decide +kernel) (by decide +kernel)
theorem wm_X13_better : Cond.instanceMethod yX13_better ∈ UT := ut 1637 (by decide +kernel) (by decide +kernel)
theorem kv_X13_172 : GoodIn UT (wsV RX13 172 RX13 yX13_better (Cond.code yX13_better cX13_better 3 none :: UT)) := gu_V (ut 1635 (by decide +kernel) (by decide +kernel)) wm_X13_better we_X13_better wi_RX13 wc_X13_better
theorem wg_90 (E : EE) (D : DD) : (wd E D)[90]? = some (E.1 90, .inl (E.2 0, 64, .inl (D.2.2.1 75))) := rfl
theorem wk_X13_171 : Cond.constant RX13 171 (-100000 : Int32) ∈ UT := ut 1630 (by decide +kernel) (by decide +kernel)
theorem ws_A_75 (E : EE) (D : DD) (f : Nat → Int32) : (wd E D).set 90 (E.1 90, .inl (E.2 0, 64, .inl f)) = wd E (setA D 75 f) := rfl
def b_X13_covers_0 (a0 : Int32) (D : DD) : Option ((Nat × List Int32 × DD) ⊕ RT) := some (.inl (1, [a0, (0 : Int32)], D))
def b_X13_covers_1 (x1 : Int32) (x2 : Int32) (D : DD) : Option ((Nat × List Int32 × DD) ⊕ RT) := (if (64 : Int32) ≤ x2 then some (.inl (2, [x1, (0 : Int32)], D)) else (if inB x2 64 = true then some (.inl (1, [x1, (x2 + (1 : Int32))], (setA D 76 (upd (D.2.2.1 76) x2.toNatClampNeg (-100000 : Int32))))) else none))
def b_X13_covers_2 (x1 : Int32) (x2 : Int32) (D : DD) : Option ((Nat × List Int32 × DD) ⊕ RT) := (if (64 : Int32) ≤ x2 then some (.inl (4, [(0 : Int32)], D)) else (if inB x2 64 = true then (if 0 ≤ ((D.2.2.1 75) x2.toNatClampNeg) then (if inB x2 64 = true then (cV (S_X13_better (x2 >>> ((1 : Int32) &&& 31)) ((D.2.2.1 75) x2.toNatClampNeg) D) (fun D6 => (if (x2 &&& (1 : Int32)) = (1 : Int32) then some (.inl (2, [x1, (x2 + (1 : Int32))], D6)) else (cI (S_X13_hard x1 D6) (fun r9 D8 => (if r9 ≤ 0 then (if (5 : Int32) ≤ (x1 - x1 / (6 : Int32) * (6 : Int32)) then some (.inl (3, [x1, x2], D8)) else (if (x2 &&& (2 : Int32)) = 0 then (cI (S_X13_hard (x1 + (1 : Int32)) D8) (fun r12 D11 => (if r12 = 0 then (if inB x2 64 = true then (cV (S_X13_better ((x2 >>> ((1 : Int32) &&& 31)) ||| (1 : Int32)) (((D11.2.2.1 75) x2.toNatClampNeg) + (1 : Int32)) D11) (fun D15 => some (.inl (3, [x1, x2], D15)))) else none) else some (.inl (3, [x1, x2], D11))))) else some (.inl (3, [x1, x2], D8)))) else some (.inl (2, [x1, (x2 + (1 : Int32))], D8)))))))) else none) else some (.inl (2, [x1, (x2 + (1 : Int32))], D))) else none))
def b_X13_covers_3 (x1 : Int32) (x2 : Int32) (D : DD) : Option ((Nat × List Int32 × DD) ⊕ RT) := (if (36 : Int32) ≤ (x1 + (6 : Int32)) then some (.inl (2, [x1, (x2 + (1 : Int32))], D)) else (cI (S_X13_hard (x1 + (6 : Int32)) D) (fun r28 D27 => (if r28 = 0 then (if inB x2 64 = true then (cV (S_X13_better ((x2 >>> ((1 : Int32) &&& 31)) ||| (32 : Int32)) (((D27.2.2.1 75) x2.toNatClampNeg) + (1 : Int32)) D27) (fun D31 => some (.inl (2, [x1, (x2 + (1 : Int32))], D31)))) else none) else some (.inl (2, [x1, (x2 + (1 : Int32))], D27))))))
def b_X13_covers_4 (x2 : Int32) (D : DD) : Option ((Nat × List Int32 × DD) ⊕ RT) := (if (64 : Int32) ≤ x2 then some (.inr (0, none, D)) else (if inB x2 64 = true then (if inB x2 64 = true then some (.inl (4, [(x2 + (1 : Int32))], (setA D 75 (upd (D.2.2.1 75) x2.toNatClampNeg ((D.2.2.1 76) x2.toNatClampNeg))))) else none) else none))
def T_X13_covers (k : Nat) (ls : List Int32) (D : DD) : Option ((Nat × List Int32 × DD) ⊕ RT) := match k, ls with
  | 0, [a0] => b_X13_covers_0 a0 D
  | 1, [x1, x2] => b_X13_covers_1 x1 x2 D
  | 2, [x1, x2] => b_X13_covers_2 x1 x2 D
  | 3, [x1, x2] => b_X13_covers_3 x1 x2 D
  | 4, [x2] => b_X13_covers_4 x2 D
  | _, _ => none
def S_X13_covers (a0 : Int32) (D : DD) : Option RT := run T_X13_covers FUEL 0 [a0] D
def hg_X13_covers (p : Program) (l : Launch) (e : Env) (s : State) (m : MethodId) (args : Array Value) (below : List Frame) (meth : Method) (c : Code) (G : va_G) (E : EE) (r : RT) (k : Nat) (ls : List Int32) (D : DD) : Prop := match k, ls with
  | 0, [a0] => GW p l e (rmm 1) s m args below meth c G E 3 (MQ below (QR G E s.heap.size r) args s 0 0 (fr E s.heap.size)) 0 0 D 0 [(0, .ref (E.1 84)), (1, .int a0)] []
  | 1, [x1, x2] => GW p l e (rmm 1) s m args below meth c G E 3 (MQ below (QR G E s.heap.size r) args s 0 0 (fr E s.heap.size)) 0 0 D 2 [(0, .ref (E.1 84)), (1, .int x1), (2, .int x2)] []
  | 2, [x1, x2] => GW p l e (rmm 1) s m args below meth c G E 3 (MQ below (QR G E s.heap.size r) args s 0 0 (fr E s.heap.size)) 0 0 D 24 [(0, .ref (E.1 84)), (1, .int x1), (2, .int x2)] []
  | 3, [x1, x2] => GW p l e (rmm 1) s m args below meth c G E 3 (MQ below (QR G E s.heap.size r) args s 0 0 (fr E s.heap.size)) 0 0 D 114 [(0, .ref (E.1 84)), (1, .int x1), (2, .int x2)] []
  | 4, [x2] => GW p l e (rmm 1) s m args below meth c G E 3 (MQ below (QR G E s.heap.size r) args s 0 0 (fr E s.heap.size)) 0 0 D 160 [(0, .ref (E.1 84)), (2, .int x2)] []
  | _, _ => True
set_option maxRecDepth 100000 in
set_option maxHeartbeats 4000000 in
theorem bl_X13_covers_0 {p : Program} {l : Launch} {e : Env} {s : State} {m : MethodId} {args : Array Value} {below : List Frame} {meth : Method} {c : Code} {G : va_G} {E : EE} {r : RT} (X : CX p s m args meth c cX13_covers RX13 3 G E) (hr : meth.sig.returnType = none) (a0 : Int32) (D : DD) (o : (Nat × List Int32 × DD) ⊕ RT) (h : b_X13_covers_0 a0 D = some o) (h1 : ∀ x, o = .inl x → hg_X13_covers p l e s m args below meth c G E r x.1 x.2.1 x.2.2) (h2 : ∀ x, o = .inr x → x = r) : GW p l e (rmm 1) s m args below meth c G E 3 (MQ below (QR G E s.heap.size r) args s 0 0 (fr E s.heap.size)) 0 0 D 0 [(0, .ref (E.1 84)), (1, .int a0)] [] := by
  unfold b_X13_covers_0 at h
  refine g_iconst X (v := (0 : Int32)) dX13_covers_0 (by decide) ?_
  refine g_istore_n X (i0 := 2) (lv' := [(2, .int (0 : Int32)), (0, .ref (E.1 84)), (1, .int a0)]) dX13_covers_1 rfl (by decide) rfl ?_
  refine g_sub (lv' := [(0, .ref (E.1 84)), (1, .int a0), (2, .int (0 : Int32))]) [1, 2, 0] rfl ?_
  exact h1 _ (Option.some.inj h).symm
set_option maxRecDepth 100000 in
set_option maxHeartbeats 4000000 in
theorem bl_X13_covers_1 {p : Program} {l : Launch} {e : Env} {s : State} {m : MethodId} {args : Array Value} {below : List Frame} {meth : Method} {c : Code} {G : va_G} {E : EE} {r : RT} (X : CX p s m args meth c cX13_covers RX13 3 G E) (hr : meth.sig.returnType = none) (x1 : Int32) (x2 : Int32) (D : DD) (o : (Nat × List Int32 × DD) ⊕ RT) (h : b_X13_covers_1 x1 x2 D = some o) (h1 : ∀ x, o = .inl x → hg_X13_covers p l e s m args below meth c G E r x.1 x.2.1 x.2.2) (h2 : ∀ x, o = .inr x → x = r) : GW p l e (rmm 1) s m args below meth c G E 3 (MQ below (QR G E s.heap.size r) args s 0 0 (fr E s.heap.size)) 0 0 D 2 [(0, .ref (E.1 84)), (1, .int x1), (2, .int x2)] [] := by
  unfold b_X13_covers_1 at h
  refine g_iload_n X 2 (i0 := 2) dX13_covers_2 rfl rfl ?_
  refine g_bipush X (v := (64 : Int32)) dX13_covers_3 (by decide) ?_
  refine g_icmp_ge X (tgt := 22) dX13_covers_5 (by decide) (fun c2 => ?_) (fun c2 => ?_)
  · have h := (ite_s h).1 c2
    refine g_iconst X (v := (0 : Int32)) dX13_covers_22 (by decide) ?_
    refine g_istore_n X (i0 := 2) (lv' := [(2, .int (0 : Int32)), (0, .ref (E.1 84)), (1, .int x1)]) dX13_covers_23 rfl (by decide) rfl ?_
    refine g_sub (lv' := [(0, .ref (E.1 84)), (1, .int x1), (2, .int (0 : Int32))]) [1, 2, 0] rfl ?_
    exact h1 _ (Option.some.inj h).symm
  · have h := (ite_s h).2 c2
    refine g_aload_n X 0 (i0 := 0) dX13_covers_8 rfl rfl ?_
    refine g_get X (D := D) (v := .ref (E.1 91)) (T := TX13) 84 uX13 (wg_84 E _) rfl 11 (by decide) fl_X13_35 rfl rfl dX13_covers_9 ?_
    refine g_iload_n X 2 (i0 := 2) dX13_covers_12 rfl rfl ?_
    refine g_ldc X (v := (-100000 : Int32)) wk_X13_171 dX13_covers_13 ?_
    obtain ⟨b1, h⟩ := chk_s h
    refine g_iast X (D := D) (f := (D.2.2.1 76)) (i := x2) (x := (-100000 : Int32)) (D' := (setA D 76 (upd (D.2.2.1 76) x2.toNatClampNeg (-100000 : Int32)))) 91 (wg_91 E _) (inB_vp b1) (ws_A_76 E _ _) dX13_covers_15 ?_
    refine g_iinc X 2 (v := (x2 + (1 : Int32))) (lv' := [(2, .int (x2 + (1 : Int32))), (0, .ref (E.1 84)), (1, .int x1)]) dX13_covers_16 rfl rfl (by decide) rfl ?_
    refine g_goto X (tgt := 2) dX13_covers_19 (by decide) ?_
    refine g_sub (lv' := [(0, .ref (E.1 84)), (1, .int x1), (2, .int (x2 + (1 : Int32)))]) [1, 2, 0] rfl ?_
    exact h1 _ (Option.some.inj h).symm
set_option maxRecDepth 100000 in
set_option maxHeartbeats 4000000 in
theorem bl_X13_covers_2 {p : Program} {l : Launch} {e : Env} {s : State} {m : MethodId} {args : Array Value} {below : List Frame} {meth : Method} {c : Code} {G : va_G} {E : EE} {r : RT} (X : CX p s m args meth c cX13_covers RX13 3 G E) (hr : meth.sig.returnType = none) (x1 : Int32) (x2 : Int32) (D : DD) (o : (Nat × List Int32 × DD) ⊕ RT) (h : b_X13_covers_2 x1 x2 D = some o) (h1 : ∀ x, o = .inl x → hg_X13_covers p l e s m args below meth c G E r x.1 x.2.1 x.2.2) (h2 : ∀ x, o = .inr x → x = r) : GW p l e (rmm 1) s m args below meth c G E 3 (MQ below (QR G E s.heap.size r) args s 0 0 (fr E s.heap.size)) 0 0 D 24 [(0, .ref (E.1 84)), (1, .int x1), (2, .int x2)] [] := by
  unfold b_X13_covers_2 at h
  refine g_iload_n X 2 (i0 := 2) dX13_covers_24 rfl rfl ?_
  refine g_bipush X (v := (64 : Int32)) dX13_covers_25 (by decide) ?_
  refine g_icmp_ge X (tgt := 158) dX13_covers_27 (by decide) (fun c22 => ?_) (fun c22 => ?_)
  · have h := (ite_s h).1 c22
    refine g_iconst X (v := (0 : Int32)) dX13_covers_158 (by decide) ?_
    refine g_istore_n X (i0 := 2) (lv' := [(2, .int (0 : Int32)), (0, .ref (E.1 84)), (1, .int x1)]) dX13_covers_159 rfl (by decide) rfl ?_
    refine g_sub (lv' := [(0, .ref (E.1 84)), (2, .int (0 : Int32))]) [1, 0] rfl ?_
    exact h1 _ (Option.some.inj h).symm
  · have h := (ite_s h).2 c22
    refine g_aload_n X 0 (i0 := 0) dX13_covers_30 rfl rfl ?_
    refine g_get X (D := D) (v := .ref (E.1 90)) (T := TX13) 84 uX13 (wg_84 E _) rfl 10 (by decide) fl_X13_32 rfl rfl dX13_covers_31 ?_
    refine g_iload_n X 2 (i0 := 2) dX13_covers_34 rfl rfl ?_
    obtain ⟨b3, h⟩ := chk_s h
    refine g_iald X (D := D) (f := (D.2.2.1 75)) (i := x2) 90 (wg_90 E _) (inB_vp b3) dX13_covers_35 ?_
    refine g_if_ge X (tgt := 42) dX13_covers_36 (by decide) (fun c21 => ?_) (fun c21 => ?_)
    · have h := (ite_s h).1 c21
      refine g_aload_n X 0 (i0 := 0) dX13_covers_42 rfl rfl ?_
      refine g_iload_n X 2 (i0 := 2) dX13_covers_43 rfl rfl ?_
      refine g_iconst X (v := (1 : Int32)) dX13_covers_44 (by decide) ?_
      refine g_ishr X dX13_covers_45 ?_
      refine g_aload_n X 0 (i0 := 0) dX13_covers_46 rfl rfl ?_
      refine g_get X (D := D) (v := .ref (E.1 90)) (T := TX13) 84 uX13 (wg_84 E _) rfl 10 (by decide) fl_X13_32 rfl rfl dX13_covers_47 ?_
      refine g_iload_n X 2 (i0 := 2) dX13_covers_50 rfl rfl ?_
      obtain ⟨b4, h⟩ := chk_s h
      refine g_iald X (D := D) (f := (D.2.2.1 75)) (i := x2) 90 (wg_90 E _) (inB_vp b4) dX13_covers_51 ?_
      obtain ⟨D6, e5, h⟩ := cV_s h
      refine g_V X (As := [.int (x2 >>> ((1 : Int32) &&& 31)), .int ((D.2.2.1 75) x2.toNatClampNeg)]) (rest := []) (c_X13_better l G E (x2 >>> ((1 : Int32) &&& 31)) ((D.2.2.1 75) x2.toNatClampNeg) _ _ e5) 84 (wg_84 E _) rfl rfl kv_X13_172 ⟨rfl, rfl⟩ ⟨rfl, hd_X13_better⟩ (⟨Nat.le_of_ble_eq_true rfl, Nat.le_of_ble_eq_true rfl⟩) rfl rfl (Nat.le_of_ble_eq_true rfl) dX13_covers_52 ?_
      refine g_iload_n X 2 (i0 := 2) dX13_covers_55 rfl rfl ?_
      refine g_iconst X (v := (1 : Int32)) dX13_covers_56 (by decide) ?_
      refine g_iand X dX13_covers_57 ?_
      refine g_iconst X (v := (1 : Int32)) dX13_covers_58 (by decide) ?_
      refine g_icmp_eq X (tgt := 152) dX13_covers_59 (by decide) (fun c20 => ?_) (fun c20 => ?_)
      · have h := (ite_s h).1 c20
        refine g_iinc X 2 (v := (x2 + (1 : Int32))) (lv' := [(2, .int (x2 + (1 : Int32))), (0, .ref (E.1 84)), (1, .int x1)]) dX13_covers_152 rfl rfl (by decide) rfl ?_
        refine g_goto X (tgt := 24) dX13_covers_155 (by decide) ?_
        refine g_sub (lv' := [(0, .ref (E.1 84)), (1, .int x1), (2, .int (x2 + (1 : Int32)))]) [1, 2, 0] rfl ?_
        exact h1 _ (Option.some.inj h).symm
      · have h := (ite_s h).2 c20
        refine g_aload_n X 0 (i0 := 0) dX13_covers_62 rfl rfl ?_
        refine g_iload_n X 1 (i0 := 1) dX13_covers_63 rfl rfl ?_
        obtain ⟨r9, D8, e7, h⟩ := cI_s h
        refine g_V X (As := [.int x1]) (rest := []) (c_X13_hard l G E x1 _ _ e7) 84 (wg_84 E _) rfl rfl kv_X13_88 ⟨rfl, rfl⟩ ⟨rfl, hd_X13_hard⟩ (⟨Nat.le_of_ble_eq_true rfl, Nat.le_of_ble_eq_true rfl⟩) rfl rfl (Nat.le_of_ble_eq_true rfl) dX13_covers_64 ?_
        refine g_if_le X (tgt := 73) dX13_covers_67 (by decide) (fun c19 => ?_) (fun c19 => ?_)
        · have h := (ite_s h).1 c19
          refine g_iload_n X 1 (i0 := 1) dX13_covers_73 rfl rfl ?_
          refine g_bipush X (v := (6 : Int32)) dX13_covers_74 (by decide) ?_
          refine g_irem X (by decide) dX13_covers_76 ?_
          refine g_iconst X (v := (5 : Int32)) dX13_covers_77 (by decide) ?_
          refine g_icmp_ge X (tgt := 114) dX13_covers_78 (by decide) (fun c18 => ?_) (fun c18 => ?_)
          · have h := (ite_s h).1 c18
            refine g_sub (lv' := [(0, .ref (E.1 84)), (1, .int x1), (2, .int x2)]) [0, 1, 2] rfl ?_
            exact h1 _ (Option.some.inj h).symm
          · have h := (ite_s h).2 c18
            refine g_iload_n X 2 (i0 := 2) dX13_covers_81 rfl rfl ?_
            refine g_iconst X (v := (2 : Int32)) dX13_covers_82 (by decide) ?_
            refine g_iand X dX13_covers_83 ?_
            refine g_if_ne X (tgt := 114) dX13_covers_84 (by decide) (fun c17 => ?_) (fun c17 => ?_)
            · have h := (ite_s h).2 c17
              refine g_sub (lv' := [(0, .ref (E.1 84)), (1, .int x1), (2, .int x2)]) [0, 1, 2] rfl ?_
              exact h1 _ (Option.some.inj h).symm
            · have h := (ite_s h).1 c17
              refine g_aload_n X 0 (i0 := 0) dX13_covers_87 rfl rfl ?_
              refine g_iload_n X 1 (i0 := 1) dX13_covers_88 rfl rfl ?_
              refine g_iconst X (v := (1 : Int32)) dX13_covers_89 (by decide) ?_
              refine g_iadd X dX13_covers_90 ?_
              obtain ⟨r12, D11, e10, h⟩ := cI_s h
              refine g_V X (As := [.int (x1 + (1 : Int32))]) (rest := []) (c_X13_hard l G E (x1 + (1 : Int32)) _ _ e10) 84 (wg_84 E _) rfl rfl kv_X13_88 ⟨rfl, rfl⟩ ⟨rfl, hd_X13_hard⟩ (⟨Nat.le_of_ble_eq_true rfl, Nat.le_of_ble_eq_true rfl⟩) rfl rfl (Nat.le_of_ble_eq_true rfl) dX13_covers_91 ?_
              refine g_if_ne X (tgt := 114) dX13_covers_94 (by decide) (fun c16 => ?_) (fun c16 => ?_)
              · have h := (ite_s h).2 c16
                refine g_sub (lv' := [(0, .ref (E.1 84)), (1, .int x1), (2, .int x2)]) [0, 1, 2] rfl ?_
                exact h1 _ (Option.some.inj h).symm
              · have h := (ite_s h).1 c16
                refine g_aload_n X 0 (i0 := 0) dX13_covers_97 rfl rfl ?_
                refine g_iload_n X 2 (i0 := 2) dX13_covers_98 rfl rfl ?_
                refine g_iconst X (v := (1 : Int32)) dX13_covers_99 (by decide) ?_
                refine g_ishr X dX13_covers_100 ?_
                refine g_iconst X (v := (1 : Int32)) dX13_covers_101 (by decide) ?_
                refine g_ior X dX13_covers_102 ?_
                refine g_aload_n X 0 (i0 := 0) dX13_covers_103 rfl rfl ?_
                refine g_get X (D := D11) (v := .ref (E.1 90)) (T := TX13) 84 uX13 (wg_84 E _) rfl 10 (by decide) fl_X13_32 rfl rfl dX13_covers_104 ?_
                refine g_iload_n X 2 (i0 := 2) dX13_covers_107 rfl rfl ?_
                obtain ⟨b13, h⟩ := chk_s h
                refine g_iald X (D := D11) (f := (D11.2.2.1 75)) (i := x2) 90 (wg_90 E _) (inB_vp b13) dX13_covers_108 ?_
                refine g_iconst X (v := (1 : Int32)) dX13_covers_109 (by decide) ?_
                refine g_iadd X dX13_covers_110 ?_
                obtain ⟨D15, e14, h⟩ := cV_s h
                refine g_V X (As := [.int ((x2 >>> ((1 : Int32) &&& 31)) ||| (1 : Int32)), .int (((D11.2.2.1 75) x2.toNatClampNeg) + (1 : Int32))]) (rest := []) (c_X13_better l G E ((x2 >>> ((1 : Int32) &&& 31)) ||| (1 : Int32)) (((D11.2.2.1 75) x2.toNatClampNeg) + (1 : Int32)) _ _ e14) 84 (wg_84 E _) rfl rfl kv_X13_172 ⟨rfl, rfl⟩ ⟨rfl, hd_X13_better⟩ (⟨Nat.le_of_ble_eq_true rfl, Nat.le_of_ble_eq_true rfl⟩) rfl rfl (Nat.le_of_ble_eq_true rfl) dX13_covers_111 ?_
                refine g_sub (lv' := [(0, .ref (E.1 84)), (1, .int x1), (2, .int x2)]) [0, 1, 2] rfl ?_
                exact h1 _ (Option.some.inj h).symm
        · have h := (ite_s h).2 c19
          refine g_goto X (tgt := 152) dX13_covers_70 (by decide) ?_
          refine g_iinc X 2 (v := (x2 + (1 : Int32))) (lv' := [(2, .int (x2 + (1 : Int32))), (0, .ref (E.1 84)), (1, .int x1)]) dX13_covers_152 rfl rfl (by decide) rfl ?_
          refine g_goto X (tgt := 24) dX13_covers_155 (by decide) ?_
          refine g_sub (lv' := [(0, .ref (E.1 84)), (1, .int x1), (2, .int (x2 + (1 : Int32)))]) [1, 2, 0] rfl ?_
          exact h1 _ (Option.some.inj h).symm
    · have h := (ite_s h).2 c21
      refine g_goto X (tgt := 152) dX13_covers_39 (by decide) ?_
      refine g_iinc X 2 (v := (x2 + (1 : Int32))) (lv' := [(2, .int (x2 + (1 : Int32))), (0, .ref (E.1 84)), (1, .int x1)]) dX13_covers_152 rfl rfl (by decide) rfl ?_
      refine g_goto X (tgt := 24) dX13_covers_155 (by decide) ?_
      refine g_sub (lv' := [(0, .ref (E.1 84)), (1, .int x1), (2, .int (x2 + (1 : Int32)))]) [1, 2, 0] rfl ?_
      exact h1 _ (Option.some.inj h).symm
set_option maxRecDepth 100000 in
set_option maxHeartbeats 4000000 in
theorem bl_X13_covers_3 {p : Program} {l : Launch} {e : Env} {s : State} {m : MethodId} {args : Array Value} {below : List Frame} {meth : Method} {c : Code} {G : va_G} {E : EE} {r : RT} (X : CX p s m args meth c cX13_covers RX13 3 G E) (hr : meth.sig.returnType = none) (x1 : Int32) (x2 : Int32) (D : DD) (o : (Nat × List Int32 × DD) ⊕ RT) (h : b_X13_covers_3 x1 x2 D = some o) (h1 : ∀ x, o = .inl x → hg_X13_covers p l e s m args below meth c G E r x.1 x.2.1 x.2.2) (h2 : ∀ x, o = .inr x → x = r) : GW p l e (rmm 1) s m args below meth c G E 3 (MQ below (QR G E s.heap.size r) args s 0 0 (fr E s.heap.size)) 0 0 D 114 [(0, .ref (E.1 84)), (1, .int x1), (2, .int x2)] [] := by
  unfold b_X13_covers_3 at h
  refine g_iload_n X 1 (i0 := 1) dX13_covers_114 rfl rfl ?_
  refine g_bipush X (v := (6 : Int32)) dX13_covers_115 (by decide) ?_
  refine g_iadd X dX13_covers_117 ?_
  refine g_bipush X (v := (36 : Int32)) dX13_covers_118 (by decide) ?_
  refine g_icmp_ge X (tgt := 152) dX13_covers_120 (by decide) (fun c33 => ?_) (fun c33 => ?_)
  · have h := (ite_s h).1 c33
    refine g_iinc X 2 (v := (x2 + (1 : Int32))) (lv' := [(2, .int (x2 + (1 : Int32))), (0, .ref (E.1 84)), (1, .int x1)]) dX13_covers_152 rfl rfl (by decide) rfl ?_
    refine g_goto X (tgt := 24) dX13_covers_155 (by decide) ?_
    refine g_sub (lv' := [(0, .ref (E.1 84)), (1, .int x1), (2, .int (x2 + (1 : Int32)))]) [1, 2, 0] rfl ?_
    exact h1 _ (Option.some.inj h).symm
  · have h := (ite_s h).2 c33
    refine g_aload_n X 0 (i0 := 0) dX13_covers_123 rfl rfl ?_
    refine g_iload_n X 1 (i0 := 1) dX13_covers_124 rfl rfl ?_
    refine g_bipush X (v := (6 : Int32)) dX13_covers_125 (by decide) ?_
    refine g_iadd X dX13_covers_127 ?_
    obtain ⟨r28, D27, e26, h⟩ := cI_s h
    refine g_V X (As := [.int (x1 + (6 : Int32))]) (rest := []) (c_X13_hard l G E (x1 + (6 : Int32)) _ _ e26) 84 (wg_84 E _) rfl rfl kv_X13_88 ⟨rfl, rfl⟩ ⟨rfl, hd_X13_hard⟩ (⟨Nat.le_of_ble_eq_true rfl, Nat.le_of_ble_eq_true rfl⟩) rfl rfl (Nat.le_of_ble_eq_true rfl) dX13_covers_128 ?_
    refine g_if_ne X (tgt := 152) dX13_covers_131 (by decide) (fun c32 => ?_) (fun c32 => ?_)
    · have h := (ite_s h).2 c32
      refine g_iinc X 2 (v := (x2 + (1 : Int32))) (lv' := [(2, .int (x2 + (1 : Int32))), (0, .ref (E.1 84)), (1, .int x1)]) dX13_covers_152 rfl rfl (by decide) rfl ?_
      refine g_goto X (tgt := 24) dX13_covers_155 (by decide) ?_
      refine g_sub (lv' := [(0, .ref (E.1 84)), (1, .int x1), (2, .int (x2 + (1 : Int32)))]) [1, 2, 0] rfl ?_
      exact h1 _ (Option.some.inj h).symm
    · have h := (ite_s h).1 c32
      refine g_aload_n X 0 (i0 := 0) dX13_covers_134 rfl rfl ?_
      refine g_iload_n X 2 (i0 := 2) dX13_covers_135 rfl rfl ?_
      refine g_iconst X (v := (1 : Int32)) dX13_covers_136 (by decide) ?_
      refine g_ishr X dX13_covers_137 ?_
      refine g_bipush X (v := (32 : Int32)) dX13_covers_138 (by decide) ?_
      refine g_ior X dX13_covers_140 ?_
      refine g_aload_n X 0 (i0 := 0) dX13_covers_141 rfl rfl ?_
      refine g_get X (D := D27) (v := .ref (E.1 90)) (T := TX13) 84 uX13 (wg_84 E _) rfl 10 (by decide) fl_X13_32 rfl rfl dX13_covers_142 ?_
      refine g_iload_n X 2 (i0 := 2) dX13_covers_145 rfl rfl ?_
      obtain ⟨b29, h⟩ := chk_s h
      refine g_iald X (D := D27) (f := (D27.2.2.1 75)) (i := x2) 90 (wg_90 E _) (inB_vp b29) dX13_covers_146 ?_
      refine g_iconst X (v := (1 : Int32)) dX13_covers_147 (by decide) ?_
      refine g_iadd X dX13_covers_148 ?_
      obtain ⟨D31, e30, h⟩ := cV_s h
      refine g_V X (As := [.int ((x2 >>> ((1 : Int32) &&& 31)) ||| (32 : Int32)), .int (((D27.2.2.1 75) x2.toNatClampNeg) + (1 : Int32))]) (rest := []) (c_X13_better l G E ((x2 >>> ((1 : Int32) &&& 31)) ||| (32 : Int32)) (((D27.2.2.1 75) x2.toNatClampNeg) + (1 : Int32)) _ _ e30) 84 (wg_84 E _) rfl rfl kv_X13_172 ⟨rfl, rfl⟩ ⟨rfl, hd_X13_better⟩ (⟨Nat.le_of_ble_eq_true rfl, Nat.le_of_ble_eq_true rfl⟩) rfl rfl (Nat.le_of_ble_eq_true rfl) dX13_covers_149 ?_
      refine g_iinc X 2 (v := (x2 + (1 : Int32))) (lv' := [(2, .int (x2 + (1 : Int32))), (0, .ref (E.1 84)), (1, .int x1)]) dX13_covers_152 rfl rfl (by decide) rfl ?_
      refine g_goto X (tgt := 24) dX13_covers_155 (by decide) ?_
      refine g_sub (lv' := [(0, .ref (E.1 84)), (1, .int x1), (2, .int (x2 + (1 : Int32)))]) [1, 2, 0] rfl ?_
      exact h1 _ (Option.some.inj h).symm
set_option maxRecDepth 100000 in
set_option maxHeartbeats 4000000 in
theorem bl_X13_covers_4 {p : Program} {l : Launch} {e : Env} {s : State} {m : MethodId} {args : Array Value} {below : List Frame} {meth : Method} {c : Code} {G : va_G} {E : EE} {r : RT} (X : CX p s m args meth c cX13_covers RX13 3 G E) (hr : meth.sig.returnType = none) (x2 : Int32) (D : DD) (o : (Nat × List Int32 × DD) ⊕ RT) (h : b_X13_covers_4 x2 D = some o) (h1 : ∀ x, o = .inl x → hg_X13_covers p l e s m args below meth c G E r x.1 x.2.1 x.2.2) (h2 : ∀ x, o = .inr x → x = r) : GW p l e (rmm 1) s m args below meth c G E 3 (MQ below (QR G E s.heap.size r) args s 0 0 (fr E s.heap.size)) 0 0 D 160 [(0, .ref (E.1 84)), (2, .int x2)] [] := by
  unfold b_X13_covers_4 at h
  refine g_iload_n X 1 (i0 := 2) dX13_covers_160 rfl rfl ?_
  refine g_bipush X (v := (64 : Int32)) dX13_covers_161 (by decide) ?_
  refine g_icmp_ge X (tgt := 184) dX13_covers_163 (by decide) (fun c25 => ?_) (fun c25 => ?_)
  · have h := (ite_s h).1 c25
    exact g_vret X hr dX13_covers_184 (h2 _ (Option.some.inj h).symm)
  · have h := (ite_s h).2 c25
    refine g_aload_n X 0 (i0 := 0) dX13_covers_166 rfl rfl ?_
    refine g_get X (D := D) (v := .ref (E.1 90)) (T := TX13) 84 uX13 (wg_84 E _) rfl 10 (by decide) fl_X13_32 rfl rfl dX13_covers_167 ?_
    refine g_iload_n X 1 (i0 := 2) dX13_covers_170 rfl rfl ?_
    refine g_aload_n X 0 (i0 := 0) dX13_covers_171 rfl rfl ?_
    refine g_get X (D := D) (v := .ref (E.1 91)) (T := TX13) 84 uX13 (wg_84 E _) rfl 11 (by decide) fl_X13_35 rfl rfl dX13_covers_172 ?_
    refine g_iload_n X 1 (i0 := 2) dX13_covers_175 rfl rfl ?_
    obtain ⟨b23, h⟩ := chk_s h
    refine g_iald X (D := D) (f := (D.2.2.1 76)) (i := x2) 91 (wg_91 E _) (inB_vp b23) dX13_covers_176 ?_
    obtain ⟨b24, h⟩ := chk_s h
    refine g_iast X (D := D) (f := (D.2.2.1 75)) (i := x2) (x := ((D.2.2.1 76) x2.toNatClampNeg)) (D' := (setA D 75 (upd (D.2.2.1 75) x2.toNatClampNeg ((D.2.2.1 76) x2.toNatClampNeg)))) 90 (wg_90 E _) (inB_vp b24) (ws_A_75 E _ _) dX13_covers_177 ?_
    refine g_iinc X 1 (v := (x2 + (1 : Int32))) (lv' := [(2, .int (x2 + (1 : Int32))), (0, .ref (E.1 84))]) dX13_covers_178 rfl rfl (by decide) rfl ?_
    refine g_goto X (tgt := 160) dX13_covers_181 (by decide) ?_
    refine g_sub (lv' := [(0, .ref (E.1 84)), (2, .int (x2 + (1 : Int32)))]) [1, 0] rfl ?_
    exact h1 _ (Option.some.inj h).symm
set_option maxRecDepth 100000 in
set_option maxHeartbeats 4000000 in
theorem c_X13_covers (l : Launch) (G : va_G) (E : EE) (a0 : Int32) (D : DD) (r : RT) (h : S_X13_covers a0 D = some r) : MM l G E yX13_covers cX13_covers 3 none (rmm 1) [.ref (E.1 84), .int a0] D r := by
  unfold S_X13_covers at h
  refine m_of rfl (Nat.le_of_ble_eq_true rfl) ?_
  intro p e s m args below meth c X hr
  exact run_G (T := T_X13_covers) (HG := hg_X13_covers p l e s m args below meth c G E r) (by
    intro k ls D o hT h1 h2
    unfold T_X13_covers at hT
    split at hT
    · exact bl_X13_covers_0 X hr _ D o hT h1 h2
    · exact bl_X13_covers_1 X hr _ _ D o hT h1 h2
    · exact bl_X13_covers_2 X hr _ _ D o hT h1 h2
    · exact bl_X13_covers_3 X hr _ _ D o hT h1 h2
    · exact bl_X13_covers_4 X hr _ D o hT h1 h2
    · cases hT) FUEL 0 [a0] D h
theorem hd_X13_covers : yX13_covers.cls ≠ "java/lang/invoke/MethodHandle" ∧ yX13_covers.cls ≠ "java/lang/invoke/VarHandle" ∧ (parseMethodDescriptor yX13_covers.desc).map (fun d => d.parameters.length) = some 1 := by decide +kernel
theorem wc_X13_covers : Cond.code yX13_covers cX13_covers 3 none ∈ UT := ut 1634 (by decide +kernel) (by decide +kernel)
theorem we_X13_covers : Cond.selects RX13 yX13_covers yX13_covers ∈ UT := ut 60 (by decide +kernel) (by decide +kernel)
theorem wm_X13_covers : Cond.instanceMethod yX13_covers ∈ UT := ut 1633 (by decide +kernel) (by decide +kernel)
theorem kv_X13_176 : GoodIn UT (wsV RX13 176 RX13 yX13_covers (Cond.code yX13_covers cX13_covers 3 none :: UT)) := gu_V (ut 1631 (by decide +kernel) (by decide +kernel)) wm_X13_covers we_X13_covers wi_RX13 wc_X13_covers
def b_X13_mostSlabs_0  (D : DD) : Option ((Nat × List Int32 × DD) ⊕ RT) := some (.inl (1, [(0 : Int32)], (setI D 140 (0 : Int32))))
def b_X13_mostSlabs_1 (x1 : Int32) (D : DD) : Option ((Nat × List Int32 × DD) ⊕ RT) := (if (64 : Int32) ≤ x1 then some (.inl (2, [(0 : Int32)], D)) else (if x1 = 0 then (if inB x1 64 = true then some (.inl (1, [(x1 + (1 : Int32))], (setA D 75 (upd (D.2.2.1 75) x1.toNatClampNeg (0 : Int32))))) else none) else (if inB x1 64 = true then some (.inl (1, [(x1 + (1 : Int32))], (setA D 75 (upd (D.2.2.1 75) x1.toNatClampNeg (-100000 : Int32))))) else none)))
def b_X13_mostSlabs_2 (x1 : Int32) (D : DD) : Option ((Nat × List Int32 × DD) ⊕ RT) := (if (36 : Int32) ≤ x1 then some (.inl (3, [(0 : Int32), (0 : Int32)], D)) else (cV (S_X13_covers x1 D) (fun D6 => some (.inl (2, [(x1 + (1 : Int32))], D6)))))
def b_X13_mostSlabs_3 (x1 : Int32) (x2 : Int32) (D : DD) : Option ((Nat × List Int32 × DD) ⊕ RT) := (if (64 : Int32) ≤ x2 then some (.inr (0, some (.int x1), D)) else (if inB x2 64 = true then (if ((D.2.2.1 75) x2.toNatClampNeg) ≤ x1 then some (.inl (3, [x1, (x2 + (1 : Int32))], D)) else (if inB x2 64 = true then some (.inl (3, [((D.2.2.1 75) x2.toNatClampNeg), (x2 + (1 : Int32))], D)) else none)) else none))
def T_X13_mostSlabs (k : Nat) (ls : List Int32) (D : DD) : Option ((Nat × List Int32 × DD) ⊕ RT) := match k, ls with
  | 0, [] => b_X13_mostSlabs_0  D
  | 1, [x1] => b_X13_mostSlabs_1 x1 D
  | 2, [x1] => b_X13_mostSlabs_2 x1 D
  | 3, [x1, x2] => b_X13_mostSlabs_3 x1 x2 D
  | _, _ => none
def S_X13_mostSlabs  (D : DD) : Option RT := run T_X13_mostSlabs FUEL 0 [] D
def hg_X13_mostSlabs (p : Program) (l : Launch) (e : Env) (s : State) (m : MethodId) (args : Array Value) (below : List Frame) (meth : Method) (c : Code) (G : va_G) (E : EE) (r : RT) (k : Nat) (ls : List Int32) (D : DD) : Prop := match k, ls with
  | 0, [] => GW p l e (rmm 2) s m args below meth c G E 3 (MQ below (QR G E s.heap.size r) args s 0 0 (fr E s.heap.size)) 0 0 D 0 [(0, .ref (E.1 84))] []
  | 1, [x1] => GW p l e (rmm 2) s m args below meth c G E 3 (MQ below (QR G E s.heap.size r) args s 0 0 (fr E s.heap.size)) 0 0 D 7 [(0, .ref (E.1 84)), (1, .int x1)] []
  | 2, [x1] => GW p l e (rmm 2) s m args below meth c G E 3 (MQ below (QR G E s.heap.size r) args s 0 0 (fr E s.heap.size)) 0 0 D 37 [(0, .ref (E.1 84)), (1, .int x1)] []
  | 3, [x1, x2] => GW p l e (rmm 2) s m args below meth c G E 3 (MQ below (QR G E s.heap.size r) args s 0 0 (fr E s.heap.size)) 0 0 D 58 [(0, .ref (E.1 84)), (1, .int x1), (2, .int x2)] []
  | _, _ => True
set_option maxRecDepth 100000 in
set_option maxHeartbeats 4000000 in
theorem bl_X13_mostSlabs_0 {p : Program} {l : Launch} {e : Env} {s : State} {m : MethodId} {args : Array Value} {below : List Frame} {meth : Method} {c : Code} {G : va_G} {E : EE} {r : RT} (X : CX p s m args meth c cX13_mostSlabs RX13 3 G E) (hr : meth.sig.returnType = (some .int))  (D : DD) (o : (Nat × List Int32 × DD) ⊕ RT) (h : b_X13_mostSlabs_0  D = some o) (h1 : ∀ x, o = .inl x → hg_X13_mostSlabs p l e s m args below meth c G E r x.1 x.2.1 x.2.2) (h2 : ∀ x, o = .inr x → x = r) : GW p l e (rmm 2) s m args below meth c G E 3 (MQ below (QR G E s.heap.size r) args s 0 0 (fr E s.heap.size)) 0 0 D 0 [(0, .ref (E.1 84))] [] := by
  unfold b_X13_mostSlabs_0 at h
  refine g_aload_n X 0 (i0 := 0) dX13_mostSlabs_0 rfl rfl ?_
  refine g_iconst X (v := (0 : Int32)) dX13_mostSlabs_1 (by decide) ?_
  refine g_put X (D := D) (v := .int (0 : Int32)) (T := TX13) (D' := (setI D 140 (0 : Int32))) 84 uX13 tyX13 tyX13_ok nmX13 (wg_84 E _) rfl 0 (by decide) fl_X13_59 rfl rfl rfl rfl (Nat.le_of_ble_eq_true rfl) (ws_I_140 E _ _) dX13_mostSlabs_2 ?_
  refine g_iconst X (v := (0 : Int32)) dX13_mostSlabs_5 (by decide) ?_
  refine g_istore_n X (i0 := 1) (lv' := [(1, .int (0 : Int32)), (0, .ref (E.1 84))]) dX13_mostSlabs_6 rfl (by decide) rfl ?_
  refine g_sub (lv' := [(0, .ref (E.1 84)), (1, .int (0 : Int32))]) [1, 0] rfl ?_
  exact h1 _ (Option.some.inj h).symm
set_option maxRecDepth 100000 in
set_option maxHeartbeats 4000000 in
theorem bl_X13_mostSlabs_1 {p : Program} {l : Launch} {e : Env} {s : State} {m : MethodId} {args : Array Value} {below : List Frame} {meth : Method} {c : Code} {G : va_G} {E : EE} {r : RT} (X : CX p s m args meth c cX13_mostSlabs RX13 3 G E) (hr : meth.sig.returnType = (some .int)) (x1 : Int32) (D : DD) (o : (Nat × List Int32 × DD) ⊕ RT) (h : b_X13_mostSlabs_1 x1 D = some o) (h1 : ∀ x, o = .inl x → hg_X13_mostSlabs p l e s m args below meth c G E r x.1 x.2.1 x.2.2) (h2 : ∀ x, o = .inr x → x = r) : GW p l e (rmm 2) s m args below meth c G E 3 (MQ below (QR G E s.heap.size r) args s 0 0 (fr E s.heap.size)) 0 0 D 7 [(0, .ref (E.1 84)), (1, .int x1)] [] := by
  unfold b_X13_mostSlabs_1 at h
  refine g_iload_n X 1 (i0 := 1) dX13_mostSlabs_7 rfl rfl ?_
  refine g_bipush X (v := (64 : Int32)) dX13_mostSlabs_8 (by decide) ?_
  refine g_icmp_ge X (tgt := 35) dX13_mostSlabs_10 (by decide) (fun c4 => ?_) (fun c4 => ?_)
  · have h := (ite_s h).1 c4
    refine g_iconst X (v := (0 : Int32)) dX13_mostSlabs_35 (by decide) ?_
    refine g_istore_n X (i0 := 1) (lv' := [(1, .int (0 : Int32)), (0, .ref (E.1 84))]) dX13_mostSlabs_36 rfl (by decide) rfl ?_
    refine g_sub (lv' := [(0, .ref (E.1 84)), (1, .int (0 : Int32))]) [1, 0] rfl ?_
    exact h1 _ (Option.some.inj h).symm
  · have h := (ite_s h).2 c4
    refine g_aload_n X 0 (i0 := 0) dX13_mostSlabs_13 rfl rfl ?_
    refine g_get X (D := D) (v := .ref (E.1 90)) (T := TX13) 84 uX13 (wg_84 E _) rfl 10 (by decide) fl_X13_32 rfl rfl dX13_mostSlabs_14 ?_
    refine g_iload_n X 1 (i0 := 1) dX13_mostSlabs_17 rfl rfl ?_
    refine g_iload_n X 1 (i0 := 1) dX13_mostSlabs_18 rfl rfl ?_
    refine g_if_ne X (tgt := 26) dX13_mostSlabs_19 (by decide) (fun c3 => ?_) (fun c3 => ?_)
    · have h := (ite_s h).2 c3
      refine g_ldc X (v := (-100000 : Int32)) wk_X13_171 dX13_mostSlabs_26 ?_
      obtain ⟨b1, h⟩ := chk_s h
      refine g_iast X (D := D) (f := (D.2.2.1 75)) (i := x1) (x := (-100000 : Int32)) (D' := (setA D 75 (upd (D.2.2.1 75) x1.toNatClampNeg (-100000 : Int32)))) 90 (wg_90 E _) (inB_vp b1) (ws_A_75 E _ _) dX13_mostSlabs_28 ?_
      refine g_iinc X 1 (v := (x1 + (1 : Int32))) (lv' := [(1, .int (x1 + (1 : Int32))), (0, .ref (E.1 84))]) dX13_mostSlabs_29 rfl rfl (by decide) rfl ?_
      refine g_goto X (tgt := 7) dX13_mostSlabs_32 (by decide) ?_
      refine g_sub (lv' := [(0, .ref (E.1 84)), (1, .int (x1 + (1 : Int32)))]) [1, 0] rfl ?_
      exact h1 _ (Option.some.inj h).symm
    · have h := (ite_s h).1 c3
      refine g_iconst X (v := (0 : Int32)) dX13_mostSlabs_22 (by decide) ?_
      refine g_goto X (tgt := 28) dX13_mostSlabs_23 (by decide) ?_
      obtain ⟨b2, h⟩ := chk_s h
      refine g_iast X (D := D) (f := (D.2.2.1 75)) (i := x1) (x := (0 : Int32)) (D' := (setA D 75 (upd (D.2.2.1 75) x1.toNatClampNeg (0 : Int32)))) 90 (wg_90 E _) (inB_vp b2) (ws_A_75 E _ _) dX13_mostSlabs_28 ?_
      refine g_iinc X 1 (v := (x1 + (1 : Int32))) (lv' := [(1, .int (x1 + (1 : Int32))), (0, .ref (E.1 84))]) dX13_mostSlabs_29 rfl rfl (by decide) rfl ?_
      refine g_goto X (tgt := 7) dX13_mostSlabs_32 (by decide) ?_
      refine g_sub (lv' := [(0, .ref (E.1 84)), (1, .int (x1 + (1 : Int32)))]) [1, 0] rfl ?_
      exact h1 _ (Option.some.inj h).symm
set_option maxRecDepth 100000 in
set_option maxHeartbeats 4000000 in
theorem bl_X13_mostSlabs_2 {p : Program} {l : Launch} {e : Env} {s : State} {m : MethodId} {args : Array Value} {below : List Frame} {meth : Method} {c : Code} {G : va_G} {E : EE} {r : RT} (X : CX p s m args meth c cX13_mostSlabs RX13 3 G E) (hr : meth.sig.returnType = (some .int)) (x1 : Int32) (D : DD) (o : (Nat × List Int32 × DD) ⊕ RT) (h : b_X13_mostSlabs_2 x1 D = some o) (h1 : ∀ x, o = .inl x → hg_X13_mostSlabs p l e s m args below meth c G E r x.1 x.2.1 x.2.2) (h2 : ∀ x, o = .inr x → x = r) : GW p l e (rmm 2) s m args below meth c G E 3 (MQ below (QR G E s.heap.size r) args s 0 0 (fr E s.heap.size)) 0 0 D 37 [(0, .ref (E.1 84)), (1, .int x1)] [] := by
  unfold b_X13_mostSlabs_2 at h
  refine g_iload_n X 1 (i0 := 1) dX13_mostSlabs_37 rfl rfl ?_
  refine g_bipush X (v := (36 : Int32)) dX13_mostSlabs_38 (by decide) ?_
  refine g_icmp_ge X (tgt := 54) dX13_mostSlabs_40 (by decide) (fun c7 => ?_) (fun c7 => ?_)
  · have h := (ite_s h).1 c7
    refine g_iconst X (v := (0 : Int32)) dX13_mostSlabs_54 (by decide) ?_
    refine g_istore_n X (i0 := 1) (lv' := [(1, .int (0 : Int32)), (0, .ref (E.1 84))]) dX13_mostSlabs_55 rfl (by decide) rfl ?_
    refine g_iconst X (v := (0 : Int32)) dX13_mostSlabs_56 (by decide) ?_
    refine g_istore_n X (i0 := 2) (lv' := [(2, .int (0 : Int32)), (1, .int (0 : Int32)), (0, .ref (E.1 84))]) dX13_mostSlabs_57 rfl (by decide) rfl ?_
    refine g_sub (lv' := [(0, .ref (E.1 84)), (1, .int (0 : Int32)), (2, .int (0 : Int32))]) [2, 1, 0] rfl ?_
    exact h1 _ (Option.some.inj h).symm
  · have h := (ite_s h).2 c7
    refine g_aload_n X 0 (i0 := 0) dX13_mostSlabs_43 rfl rfl ?_
    refine g_iload_n X 1 (i0 := 1) dX13_mostSlabs_44 rfl rfl ?_
    obtain ⟨D6, e5, h⟩ := cV_s h
    refine g_V X (As := [.int x1]) (rest := []) (c_X13_covers l G E x1 _ _ e5) 84 (wg_84 E _) rfl rfl kv_X13_176 ⟨rfl, rfl⟩ ⟨rfl, hd_X13_covers⟩ (⟨Nat.le_of_ble_eq_true rfl, Nat.le_of_ble_eq_true rfl⟩) rfl rfl (Nat.le_of_ble_eq_true rfl) dX13_mostSlabs_45 ?_
    refine g_iinc X 1 (v := (x1 + (1 : Int32))) (lv' := [(1, .int (x1 + (1 : Int32))), (0, .ref (E.1 84))]) dX13_mostSlabs_48 rfl rfl (by decide) rfl ?_
    refine g_goto X (tgt := 37) dX13_mostSlabs_51 (by decide) ?_
    refine g_sub (lv' := [(0, .ref (E.1 84)), (1, .int (x1 + (1 : Int32)))]) [1, 0] rfl ?_
    exact h1 _ (Option.some.inj h).symm
set_option maxRecDepth 100000 in
set_option maxHeartbeats 4000000 in
theorem bl_X13_mostSlabs_3 {p : Program} {l : Launch} {e : Env} {s : State} {m : MethodId} {args : Array Value} {below : List Frame} {meth : Method} {c : Code} {G : va_G} {E : EE} {r : RT} (X : CX p s m args meth c cX13_mostSlabs RX13 3 G E) (hr : meth.sig.returnType = (some .int)) (x1 : Int32) (x2 : Int32) (D : DD) (o : (Nat × List Int32 × DD) ⊕ RT) (h : b_X13_mostSlabs_3 x1 x2 D = some o) (h1 : ∀ x, o = .inl x → hg_X13_mostSlabs p l e s m args below meth c G E r x.1 x.2.1 x.2.2) (h2 : ∀ x, o = .inr x → x = r) : GW p l e (rmm 2) s m args below meth c G E 3 (MQ below (QR G E s.heap.size r) args s 0 0 (fr E s.heap.size)) 0 0 D 58 [(0, .ref (E.1 84)), (1, .int x1), (2, .int x2)] [] := by
  unfold b_X13_mostSlabs_3 at h
  refine g_iload_n X 2 (i0 := 2) dX13_mostSlabs_58 rfl rfl ?_
  refine g_bipush X (v := (64 : Int32)) dX13_mostSlabs_59 (by decide) ?_
  refine g_icmp_ge X (tgt := 91) dX13_mostSlabs_61 (by decide) (fun c11 => ?_) (fun c11 => ?_)
  · have h := (ite_s h).1 c11
    refine g_iload_n X 1 (i0 := 1) dX13_mostSlabs_91 rfl rfl ?_
    exact g_iret X hr rfl dX13_mostSlabs_92 (h2 _ (Option.some.inj h).symm)
  · have h := (ite_s h).2 c11
    refine g_aload_n X 0 (i0 := 0) dX13_mostSlabs_64 rfl rfl ?_
    refine g_get X (D := D) (v := .ref (E.1 90)) (T := TX13) 84 uX13 (wg_84 E _) rfl 10 (by decide) fl_X13_32 rfl rfl dX13_mostSlabs_65 ?_
    refine g_iload_n X 2 (i0 := 2) dX13_mostSlabs_68 rfl rfl ?_
    obtain ⟨b8, h⟩ := chk_s h
    refine g_iald X (D := D) (f := (D.2.2.1 75)) (i := x2) 90 (wg_90 E _) (inB_vp b8) dX13_mostSlabs_69 ?_
    refine g_iload_n X 1 (i0 := 1) dX13_mostSlabs_70 rfl rfl ?_
    refine g_icmp_le X (tgt := 83) dX13_mostSlabs_71 (by decide) (fun c10 => ?_) (fun c10 => ?_)
    · have h := (ite_s h).1 c10
      refine g_iload_n X 1 (i0 := 1) dX13_mostSlabs_83 rfl rfl ?_
      refine g_istore_n X (i0 := 1) (lv' := [(1, .int x1), (0, .ref (E.1 84)), (2, .int x2)]) dX13_mostSlabs_84 rfl (by decide) rfl ?_
      refine g_iinc X 2 (v := (x2 + (1 : Int32))) (lv' := [(2, .int (x2 + (1 : Int32))), (1, .int x1), (0, .ref (E.1 84))]) dX13_mostSlabs_85 rfl rfl (by decide) rfl ?_
      refine g_goto X (tgt := 58) dX13_mostSlabs_88 (by decide) ?_
      refine g_sub (lv' := [(0, .ref (E.1 84)), (1, .int x1), (2, .int (x2 + (1 : Int32)))]) [2, 1, 0] rfl ?_
      exact h1 _ (Option.some.inj h).symm
    · have h := (ite_s h).2 c10
      refine g_aload_n X 0 (i0 := 0) dX13_mostSlabs_74 rfl rfl ?_
      refine g_get X (D := D) (v := .ref (E.1 90)) (T := TX13) 84 uX13 (wg_84 E _) rfl 10 (by decide) fl_X13_32 rfl rfl dX13_mostSlabs_75 ?_
      refine g_iload_n X 2 (i0 := 2) dX13_mostSlabs_78 rfl rfl ?_
      obtain ⟨b9, h⟩ := chk_s h
      refine g_iald X (D := D) (f := (D.2.2.1 75)) (i := x2) 90 (wg_90 E _) (inB_vp b9) dX13_mostSlabs_79 ?_
      refine g_goto X (tgt := 84) dX13_mostSlabs_80 (by decide) ?_
      refine g_istore_n X (i0 := 1) (lv' := [(1, .int ((D.2.2.1 75) x2.toNatClampNeg)), (0, .ref (E.1 84)), (2, .int x2)]) dX13_mostSlabs_84 rfl (by decide) rfl ?_
      refine g_iinc X 2 (v := (x2 + (1 : Int32))) (lv' := [(2, .int (x2 + (1 : Int32))), (1, .int ((D.2.2.1 75) x2.toNatClampNeg)), (0, .ref (E.1 84))]) dX13_mostSlabs_85 rfl rfl (by decide) rfl ?_
      refine g_goto X (tgt := 58) dX13_mostSlabs_88 (by decide) ?_
      refine g_sub (lv' := [(0, .ref (E.1 84)), (1, .int ((D.2.2.1 75) x2.toNatClampNeg)), (2, .int (x2 + (1 : Int32)))]) [2, 1, 0] rfl ?_
      exact h1 _ (Option.some.inj h).symm
set_option maxRecDepth 100000 in
set_option maxHeartbeats 4000000 in
theorem c_X13_mostSlabs (l : Launch) (G : va_G) (E : EE)  (D : DD) (r : RT) (h : S_X13_mostSlabs  D = some r) : MM l G E yX13_mostSlabs cX13_mostSlabs 3 (some .int) (rmm 2) [.ref (E.1 84)] D r := by
  unfold S_X13_mostSlabs at h
  refine m_of rfl (Nat.le_of_ble_eq_true rfl) ?_
  intro p e s m args below meth c X hr
  exact run_G (T := T_X13_mostSlabs) (HG := hg_X13_mostSlabs p l e s m args below meth c G E r) (by
    intro k ls D o hT h1 h2
    unfold T_X13_mostSlabs at hT
    split at hT
    · exact bl_X13_mostSlabs_0 X hr  D o hT h1 h2
    · exact bl_X13_mostSlabs_1 X hr _ D o hT h1 h2
    · exact bl_X13_mostSlabs_2 X hr _ D o hT h1 h2
    · exact bl_X13_mostSlabs_3 X hr _ _ D o hT h1 h2
    · cases hT) FUEL 0 [] D h
theorem hd_X13_mostSlabs : yX13_mostSlabs.cls ≠ "java/lang/invoke/MethodHandle" ∧ yX13_mostSlabs.cls ≠ "java/lang/invoke/VarHandle" ∧ (parseMethodDescriptor yX13_mostSlabs.desc).map (fun d => d.parameters.length) = some 0 := by decide +kernel
theorem wc_X13_mostSlabs : Cond.code yX13_mostSlabs cX13_mostSlabs 3 (some .int) ∈ UT := ut 1629 (by decide +kernel) (by decide +kernel)
theorem we_X13_mostSlabs : Cond.selects RX13 yX13_mostSlabs yX13_mostSlabs ∈ UT := ut 1628 (by decide +kernel) (by decide +kernel)
theorem wm_X13_mostSlabs : Cond.instanceMethod yX13_mostSlabs ∈ UT := ut 1627 (by decide +kernel) (by decide +kernel)
theorem kv_X13_179 : GoodIn UT (wsV RX13 179 RX13 yX13_mostSlabs (Cond.code yX13_mostSlabs cX13_mostSlabs 3 (some .int) :: UT)) := gu_V (ut 1643 (by decide +kernel) (by decide +kernel)) wm_X13_mostSlabs we_X13_mostSlabs wi_RX13 wc_X13_mostSlabs
def S_X13_slabsByCells  (D : DD) : Option RT := (cI (S_X13_mostSlabs D) (fun r3 D2 => some (0, some (.int r3), D2)))
set_option maxRecDepth 100000 in
set_option maxHeartbeats 4000000 in
theorem c_X13_slabsByCells (l : Launch) (G : va_G) (E : EE)  (D : DD) (r : RT) (h : S_X13_slabsByCells  D = some r) : MM l G E yX13_slabsByCells cX13_slabsByCells 1 (some .int) (rmm 3) [.ref (E.1 84)] D r := by
  refine m_of rfl (Nat.le_of_ble_eq_true rfl) ?_
  intro p e s m args below meth c X hr
  unfold S_X13_slabsByCells at h
  refine g_aload_n X 0 (i0 := 0) dX13_slabsByCells_0 rfl rfl ?_
  obtain ⟨r3, D2, e1, h⟩ := cI_s h
  refine g_V X (As := []) (rest := []) (c_X13_mostSlabs l G E  _ _ e1) 84 (wg_84 E _) rfl rfl kv_X13_179 ⟨rfl, rfl⟩ ⟨rfl, hd_X13_mostSlabs⟩ (⟨Nat.le_of_ble_eq_true rfl, Nat.le_of_ble_eq_true rfl⟩) rfl rfl (Nat.le_of_ble_eq_true rfl) dX13_slabsByCells_1 ?_
  exact g_iret X hr rfl dX13_slabsByCells_4 (Option.some.inj h)
def b_X13_isWhole_0 (a0 : Int32) (a1 : Int32) (a2 : Int32) (a3 : Int32) (D : DD) : Option ((Nat × List Int32 × DD) ⊕ RT) := some (.inl (1, [a1, a2, a3, a0], D))
def b_X13_isWhole_1 (x2 : Int32) (x3 : Int32) (x4 : Int32) (x5 : Int32) (D : DD) : Option ((Nat × List Int32 × DD) ⊕ RT) := (if x3 < x5 then some (.inr (0, some (.int (1 : Int32)), D)) else some (.inl (2, [x2, x3, x4, x5, x2], D)))
def b_X13_isWhole_2 (x2 : Int32) (x3 : Int32) (x4 : Int32) (x5 : Int32) (x6 : Int32) (D : DD) : Option ((Nat × List Int32 × DD) ⊕ RT) := (if x4 < x6 then some (.inl (1, [x2, x3, x4, (x5 + (1 : Int32))], D)) else (cI (S_X13_cell x5 x6 D) (fun r4 D3 => (cI (S_X13_hard r4 D3) (fun r7 D6 => (if r7 ≤ 0 then some (.inl (2, [x2, x3, x4, x5, (x6 + (1 : Int32))], D6)) else some (.inr (0, some (.int (0 : Int32)), D6))))))))
def T_X13_isWhole (k : Nat) (ls : List Int32) (D : DD) : Option ((Nat × List Int32 × DD) ⊕ RT) := match k, ls with
  | 0, [a0, a1, a2, a3] => b_X13_isWhole_0 a0 a1 a2 a3 D
  | 1, [x2, x3, x4, x5] => b_X13_isWhole_1 x2 x3 x4 x5 D
  | 2, [x2, x3, x4, x5, x6] => b_X13_isWhole_2 x2 x3 x4 x5 x6 D
  | _, _ => none
def S_X13_isWhole (a0 : Int32) (a1 : Int32) (a2 : Int32) (a3 : Int32) (D : DD) : Option RT := run T_X13_isWhole FUEL 0 [a0, a1, a2, a3] D
def hg_X13_isWhole (p : Program) (l : Launch) (e : Env) (s : State) (m : MethodId) (args : Array Value) (below : List Frame) (meth : Method) (c : Code) (G : va_G) (E : EE) (r : RT) (k : Nat) (ls : List Int32) (D : DD) : Prop := match k, ls with
  | 0, [a0, a1, a2, a3] => GW p l e (rmm 1) s m args below meth c G E 7 (MQ below (QR G E s.heap.size r) args s 0 0 (fr E s.heap.size)) 0 0 D 0 [(0, .ref (E.1 84)), (1, .int a0), (2, .int a1), (3, .int a2), (4, .int a3)] []
  | 1, [x2, x3, x4, x5] => GW p l e (rmm 1) s m args below meth c G E 7 (MQ below (QR G E s.heap.size r) args s 0 0 (fr E s.heap.size)) 0 0 D 3 [(0, .ref (E.1 84)), (2, .int x2), (3, .int x3), (4, .int x4), (5, .int x5)] []
  | 2, [x2, x3, x4, x5, x6] => GW p l e (rmm 1) s m args below meth c G E 7 (MQ below (QR G E s.heap.size r) args s 0 0 (fr E s.heap.size)) 0 0 D 12 [(0, .ref (E.1 84)), (2, .int x2), (3, .int x3), (4, .int x4), (5, .int x5), (6, .int x6)] []
  | _, _ => True
set_option maxRecDepth 100000 in
set_option maxHeartbeats 4000000 in
theorem bl_X13_isWhole_0 {p : Program} {l : Launch} {e : Env} {s : State} {m : MethodId} {args : Array Value} {below : List Frame} {meth : Method} {c : Code} {G : va_G} {E : EE} {r : RT} (X : CX p s m args meth c cX13_isWhole RX13 7 G E) (hr : meth.sig.returnType = (some .boolean)) (a0 : Int32) (a1 : Int32) (a2 : Int32) (a3 : Int32) (D : DD) (o : (Nat × List Int32 × DD) ⊕ RT) (h : b_X13_isWhole_0 a0 a1 a2 a3 D = some o) (h1 : ∀ x, o = .inl x → hg_X13_isWhole p l e s m args below meth c G E r x.1 x.2.1 x.2.2) (h2 : ∀ x, o = .inr x → x = r) : GW p l e (rmm 1) s m args below meth c G E 7 (MQ below (QR G E s.heap.size r) args s 0 0 (fr E s.heap.size)) 0 0 D 0 [(0, .ref (E.1 84)), (1, .int a0), (2, .int a1), (3, .int a2), (4, .int a3)] [] := by
  unfold b_X13_isWhole_0 at h
  refine g_iload_n X 1 (i0 := 1) dX13_isWhole_0 rfl rfl ?_
  refine g_istore X (lv' := [(5, .int a0), (0, .ref (E.1 84)), (1, .int a0), (2, .int a1), (3, .int a2), (4, .int a3)]) dX13_isWhole_1 (by decide) rfl ?_
  refine g_sub (lv' := [(0, .ref (E.1 84)), (2, .int a1), (3, .int a2), (4, .int a3), (5, .int a0)]) [1, 3, 4, 5, 0] rfl ?_
  exact h1 _ (Option.some.inj h).symm
set_option maxRecDepth 100000 in
set_option maxHeartbeats 4000000 in
theorem bl_X13_isWhole_1 {p : Program} {l : Launch} {e : Env} {s : State} {m : MethodId} {args : Array Value} {below : List Frame} {meth : Method} {c : Code} {G : va_G} {E : EE} {r : RT} (X : CX p s m args meth c cX13_isWhole RX13 7 G E) (hr : meth.sig.returnType = (some .boolean)) (x2 : Int32) (x3 : Int32) (x4 : Int32) (x5 : Int32) (D : DD) (o : (Nat × List Int32 × DD) ⊕ RT) (h : b_X13_isWhole_1 x2 x3 x4 x5 D = some o) (h1 : ∀ x, o = .inl x → hg_X13_isWhole p l e s m args below meth c G E r x.1 x.2.1 x.2.2) (h2 : ∀ x, o = .inr x → x = r) : GW p l e (rmm 1) s m args below meth c G E 7 (MQ below (QR G E s.heap.size r) args s 0 0 (fr E s.heap.size)) 0 0 D 3 [(0, .ref (E.1 84)), (2, .int x2), (3, .int x3), (4, .int x4), (5, .int x5)] [] := by
  unfold b_X13_isWhole_1 at h
  refine g_iload X 4 dX13_isWhole_3 rfl ?_
  refine g_iload_n X 2 (i0 := 3) dX13_isWhole_5 rfl rfl ?_
  refine g_icmp_gt X (tgt := 47) dX13_isWhole_6 (by decide) (fun c1 => ?_) (fun c1 => ?_)
  · have h := (ite_s h).1 c1
    refine g_iconst X (v := (1 : Int32)) dX13_isWhole_47 (by decide) ?_
    exact g_iret X hr rfl dX13_isWhole_48 (h2 _ (Option.some.inj h).symm)
  · have h := (ite_s h).2 c1
    refine g_iload_n X 1 (i0 := 2) dX13_isWhole_9 rfl rfl ?_
    refine g_istore X (lv' := [(6, .int x2), (0, .ref (E.1 84)), (2, .int x2), (3, .int x3), (4, .int x4), (5, .int x5)]) dX13_isWhole_10 (by decide) rfl ?_
    refine g_sub (lv' := [(0, .ref (E.1 84)), (2, .int x2), (3, .int x3), (4, .int x4), (5, .int x5), (6, .int x2)]) [1, 2, 3, 4, 5, 0] rfl ?_
    exact h1 _ (Option.some.inj h).symm
set_option maxRecDepth 100000 in
set_option maxHeartbeats 4000000 in
theorem bl_X13_isWhole_2 {p : Program} {l : Launch} {e : Env} {s : State} {m : MethodId} {args : Array Value} {below : List Frame} {meth : Method} {c : Code} {G : va_G} {E : EE} {r : RT} (X : CX p s m args meth c cX13_isWhole RX13 7 G E) (hr : meth.sig.returnType = (some .boolean)) (x2 : Int32) (x3 : Int32) (x4 : Int32) (x5 : Int32) (x6 : Int32) (D : DD) (o : (Nat × List Int32 × DD) ⊕ RT) (h : b_X13_isWhole_2 x2 x3 x4 x5 x6 D = some o) (h1 : ∀ x, o = .inl x → hg_X13_isWhole p l e s m args below meth c G E r x.1 x.2.1 x.2.2) (h2 : ∀ x, o = .inr x → x = r) : GW p l e (rmm 1) s m args below meth c G E 7 (MQ below (QR G E s.heap.size r) args s 0 0 (fr E s.heap.size)) 0 0 D 12 [(0, .ref (E.1 84)), (2, .int x2), (3, .int x3), (4, .int x4), (5, .int x5), (6, .int x6)] [] := by
  unfold b_X13_isWhole_2 at h
  refine g_iload X 5 dX13_isWhole_12 rfl ?_
  refine g_iload X 3 dX13_isWhole_14 rfl ?_
  refine g_icmp_gt X (tgt := 41) dX13_isWhole_16 (by decide) (fun c9 => ?_) (fun c9 => ?_)
  · have h := (ite_s h).1 c9
    refine g_iinc X 4 (v := (x5 + (1 : Int32))) (lv' := [(5, .int (x5 + (1 : Int32))), (0, .ref (E.1 84)), (2, .int x2), (3, .int x3), (4, .int x4), (6, .int x6)]) dX13_isWhole_41 rfl rfl (by decide) rfl ?_
    refine g_goto X (tgt := 3) dX13_isWhole_44 (by decide) ?_
    refine g_sub (lv' := [(0, .ref (E.1 84)), (2, .int x2), (3, .int x3), (4, .int x4), (5, .int (x5 + (1 : Int32)))]) [1, 2, 3, 4, 0] rfl ?_
    exact h1 _ (Option.some.inj h).symm
  · have h := (ite_s h).2 c9
    refine g_aload_n X 0 (i0 := 0) dX13_isWhole_19 rfl rfl ?_
    refine g_iload X 4 dX13_isWhole_20 rfl ?_
    refine g_iload X 5 dX13_isWhole_22 rfl ?_
    obtain ⟨r4, D3, e2, h⟩ := cI_s h
    refine g_S X (As := [.int x5, .int x6]) (rest := [.ref (E.1 84)]) (c_X13_cell l G E x5 x6 _ _ e2) ks_X13_84 ⟨rfl, rfl⟩ hd_X13_cell (⟨Nat.le_of_ble_eq_true rfl, Nat.le_of_ble_eq_true rfl⟩) rfl rfl (Nat.le_of_ble_eq_true rfl) dX13_isWhole_24 ?_
    obtain ⟨r7, D6, e5, h⟩ := cI_s h
    refine g_V X (As := [.int r4]) (rest := []) (c_X13_hard l G E r4 _ _ e5) 84 (wg_84 E _) rfl rfl kv_X13_88 ⟨rfl, rfl⟩ ⟨rfl, hd_X13_hard⟩ (⟨Nat.le_of_ble_eq_true rfl, Nat.le_of_ble_eq_true rfl⟩) rfl rfl (Nat.le_of_ble_eq_true rfl) dX13_isWhole_27 ?_
    refine g_if_le X (tgt := 35) dX13_isWhole_30 (by decide) (fun c8 => ?_) (fun c8 => ?_)
    · have h := (ite_s h).1 c8
      refine g_iinc X 5 (v := (x6 + (1 : Int32))) (lv' := [(6, .int (x6 + (1 : Int32))), (0, .ref (E.1 84)), (2, .int x2), (3, .int x3), (4, .int x4), (5, .int x5)]) dX13_isWhole_35 rfl rfl (by decide) rfl ?_
      refine g_goto X (tgt := 12) dX13_isWhole_38 (by decide) ?_
      refine g_sub (lv' := [(0, .ref (E.1 84)), (2, .int x2), (3, .int x3), (4, .int x4), (5, .int x5), (6, .int (x6 + (1 : Int32)))]) [1, 2, 3, 4, 5, 0] rfl ?_
      exact h1 _ (Option.some.inj h).symm
    · have h := (ite_s h).2 c8
      refine g_iconst X (v := (0 : Int32)) dX13_isWhole_33 (by decide) ?_
      exact g_iret X hr rfl dX13_isWhole_34 (h2 _ (Option.some.inj h).symm)
set_option maxRecDepth 100000 in
set_option maxHeartbeats 4000000 in
theorem c_X13_isWhole (l : Launch) (G : va_G) (E : EE) (a0 : Int32) (a1 : Int32) (a2 : Int32) (a3 : Int32) (D : DD) (r : RT) (h : S_X13_isWhole a0 a1 a2 a3 D = some r) : MM l G E yX13_isWhole cX13_isWhole 7 (some .boolean) (rmm 1) [.ref (E.1 84), .int a0, .int a1, .int a2, .int a3] D r := by
  unfold S_X13_isWhole at h
  refine m_of rfl (Nat.le_of_ble_eq_true rfl) ?_
  intro p e s m args below meth c X hr
  exact run_G (T := T_X13_isWhole) (HG := hg_X13_isWhole p l e s m args below meth c G E r) (by
    intro k ls D o hT h1 h2
    unfold T_X13_isWhole at hT
    split at hT
    · exact bl_X13_isWhole_0 X hr _ _ _ _ D o hT h1 h2
    · exact bl_X13_isWhole_1 X hr _ _ _ _ D o hT h1 h2
    · exact bl_X13_isWhole_2 X hr _ _ _ _ _ D o hT h1 h2
    · cases hT) FUEL 0 [a0, a1, a2, a3] D h
theorem hd_X13_isWhole : yX13_isWhole.cls ≠ "java/lang/invoke/MethodHandle" ∧ yX13_isWhole.cls ≠ "java/lang/invoke/VarHandle" ∧ (parseMethodDescriptor yX13_isWhole.desc).map (fun d => d.parameters.length) = some 4 := by decide +kernel
theorem wc_X13_isWhole : Cond.code yX13_isWhole cX13_isWhole 7 (some .boolean) ∈ UT := ut 1651 (by decide +kernel) (by decide +kernel)
theorem we_X13_isWhole : Cond.selects RX13 yX13_isWhole yX13_isWhole ∈ UT := ut 62 (by decide +kernel) (by decide +kernel)
theorem wm_X13_isWhole : Cond.instanceMethod yX13_isWhole ∈ UT := ut 1650 (by decide +kernel) (by decide +kernel)
theorem kv_X13_182 : GoodIn UT (wsV RX13 182 RX13 yX13_isWhole (Cond.code yX13_isWhole cX13_isWhole 7 (some .boolean) :: UT)) := gu_V (ut 1648 (by decide +kernel) (by decide +kernel)) wm_X13_isWhole we_X13_isWhole wi_RX13 wc_X13_isWhole
def b_X13_largestBlock_0  (D : DD) : Option ((Nat × List Int32 × DD) ⊕ RT) := some (.inl (1, [(0 : Int32), (0 : Int32)], (setI D 140 (0 : Int32))))
def b_X13_largestBlock_1 (x1 : Int32) (x2 : Int32) (D : DD) : Option ((Nat × List Int32 × DD) ⊕ RT) := (if (36 : Int32) ≤ x2 then some (.inr (0, some (.int x1), D)) else some (.inl (2, [x1, x2, x2], D)))
def b_X13_largestBlock_2 (x1 : Int32) (x2 : Int32) (x3 : Int32) (D : DD) : Option ((Nat × List Int32 × DD) ⊕ RT) := (if (36 : Int32) ≤ x3 then some (.inl (1, [x1, (x2 + (1 : Int32))], D)) else (if (x3 - x3 / (6 : Int32) * (6 : Int32)) < (x2 - x2 / (6 : Int32) * (6 : Int32)) then some (.inl (2, [x1, x2, (x3 + (1 : Int32))], D)) else (if ((((x3 / (6 : Int32)) - (x2 / (6 : Int32))) + (1 : Int32)) * (((x3 - x3 / (6 : Int32) * (6 : Int32)) - (x2 - x2 / (6 : Int32) * (6 : Int32))) + (1 : Int32))) ≤ x1 then some (.inl (2, [x1, x2, (x3 + (1 : Int32))], D)) else (cI (S_X13_isWhole (x2 / (6 : Int32)) (x2 - x2 / (6 : Int32) * (6 : Int32)) (x3 / (6 : Int32)) (x3 - x3 / (6 : Int32) * (6 : Int32)) D) (fun r4 D3 => (if r4 = 0 then some (.inl (2, [x1, x2, (x3 + (1 : Int32))], D3)) else some (.inl (2, [((((x3 / (6 : Int32)) - (x2 / (6 : Int32))) + (1 : Int32)) * (((x3 - x3 / (6 : Int32) * (6 : Int32)) - (x2 - x2 / (6 : Int32) * (6 : Int32))) + (1 : Int32))), x2, (x3 + (1 : Int32))], D3))))))))
def T_X13_largestBlock (k : Nat) (ls : List Int32) (D : DD) : Option ((Nat × List Int32 × DD) ⊕ RT) := match k, ls with
  | 0, [] => b_X13_largestBlock_0  D
  | 1, [x1, x2] => b_X13_largestBlock_1 x1 x2 D
  | 2, [x1, x2, x3] => b_X13_largestBlock_2 x1 x2 x3 D
  | _, _ => none
def S_X13_largestBlock  (D : DD) : Option RT := run T_X13_largestBlock FUEL 0 [] D
def hg_X13_largestBlock (p : Program) (l : Launch) (e : Env) (s : State) (m : MethodId) (args : Array Value) (below : List Frame) (meth : Method) (c : Code) (G : va_G) (E : EE) (r : RT) (k : Nat) (ls : List Int32) (D : DD) : Prop := match k, ls with
  | 0, [] => GW p l e (rmm 2) s m args below meth c G E 5 (MQ below (QR G E s.heap.size r) args s 0 0 (fr E s.heap.size)) 0 0 D 0 [(0, .ref (E.1 84))] []
  | 1, [x1, x2] => GW p l e (rmm 2) s m args below meth c G E 5 (MQ below (QR G E s.heap.size r) args s 0 0 (fr E s.heap.size)) 0 0 D 9 [(0, .ref (E.1 84)), (1, .int x1), (2, .int x2)] []
  | 2, [x1, x2, x3] => GW p l e (rmm 2) s m args below meth c G E 5 (MQ below (QR G E s.heap.size r) args s 0 0 (fr E s.heap.size)) 0 0 D 17 [(0, .ref (E.1 84)), (1, .int x1), (2, .int x2), (3, .int x3)] []
  | _, _ => True
set_option maxRecDepth 100000 in
set_option maxHeartbeats 4000000 in
theorem bl_X13_largestBlock_0 {p : Program} {l : Launch} {e : Env} {s : State} {m : MethodId} {args : Array Value} {below : List Frame} {meth : Method} {c : Code} {G : va_G} {E : EE} {r : RT} (X : CX p s m args meth c cX13_largestBlock RX13 5 G E) (hr : meth.sig.returnType = (some .int))  (D : DD) (o : (Nat × List Int32 × DD) ⊕ RT) (h : b_X13_largestBlock_0  D = some o) (h1 : ∀ x, o = .inl x → hg_X13_largestBlock p l e s m args below meth c G E r x.1 x.2.1 x.2.2) (h2 : ∀ x, o = .inr x → x = r) : GW p l e (rmm 2) s m args below meth c G E 5 (MQ below (QR G E s.heap.size r) args s 0 0 (fr E s.heap.size)) 0 0 D 0 [(0, .ref (E.1 84))] [] := by
  unfold b_X13_largestBlock_0 at h
  refine g_aload_n X 0 (i0 := 0) dX13_largestBlock_0 rfl rfl ?_
  refine g_iconst X (v := (0 : Int32)) dX13_largestBlock_1 (by decide) ?_
  refine g_put X (D := D) (v := .int (0 : Int32)) (T := TX13) (D' := (setI D 140 (0 : Int32))) 84 uX13 tyX13 tyX13_ok nmX13 (wg_84 E _) rfl 0 (by decide) fl_X13_59 rfl rfl rfl rfl (Nat.le_of_ble_eq_true rfl) (ws_I_140 E _ _) dX13_largestBlock_2 ?_
  refine g_iconst X (v := (0 : Int32)) dX13_largestBlock_5 (by decide) ?_
  refine g_istore_n X (i0 := 1) (lv' := [(1, .int (0 : Int32)), (0, .ref (E.1 84))]) dX13_largestBlock_6 rfl (by decide) rfl ?_
  refine g_iconst X (v := (0 : Int32)) dX13_largestBlock_7 (by decide) ?_
  refine g_istore_n X (i0 := 2) (lv' := [(2, .int (0 : Int32)), (1, .int (0 : Int32)), (0, .ref (E.1 84))]) dX13_largestBlock_8 rfl (by decide) rfl ?_
  refine g_sub (lv' := [(0, .ref (E.1 84)), (1, .int (0 : Int32)), (2, .int (0 : Int32))]) [2, 1, 0] rfl ?_
  exact h1 _ (Option.some.inj h).symm
set_option maxRecDepth 100000 in
set_option maxHeartbeats 4000000 in
theorem bl_X13_largestBlock_1 {p : Program} {l : Launch} {e : Env} {s : State} {m : MethodId} {args : Array Value} {below : List Frame} {meth : Method} {c : Code} {G : va_G} {E : EE} {r : RT} (X : CX p s m args meth c cX13_largestBlock RX13 5 G E) (hr : meth.sig.returnType = (some .int)) (x1 : Int32) (x2 : Int32) (D : DD) (o : (Nat × List Int32 × DD) ⊕ RT) (h : b_X13_largestBlock_1 x1 x2 D = some o) (h1 : ∀ x, o = .inl x → hg_X13_largestBlock p l e s m args below meth c G E r x.1 x.2.1 x.2.2) (h2 : ∀ x, o = .inr x → x = r) : GW p l e (rmm 2) s m args below meth c G E 5 (MQ below (QR G E s.heap.size r) args s 0 0 (fr E s.heap.size)) 0 0 D 9 [(0, .ref (E.1 84)), (1, .int x1), (2, .int x2)] [] := by
  unfold b_X13_largestBlock_1 at h
  refine g_iload_n X 2 (i0 := 2) dX13_largestBlock_9 rfl rfl ?_
  refine g_bipush X (v := (36 : Int32)) dX13_largestBlock_10 (by decide) ?_
  refine g_icmp_ge X (tgt := 103) dX13_largestBlock_12 (by decide) (fun c1 => ?_) (fun c1 => ?_)
  · have h := (ite_s h).1 c1
    refine g_iload_n X 1 (i0 := 1) dX13_largestBlock_103 rfl rfl ?_
    exact g_iret X hr rfl dX13_largestBlock_104 (h2 _ (Option.some.inj h).symm)
  · have h := (ite_s h).2 c1
    refine g_iload_n X 2 (i0 := 2) dX13_largestBlock_15 rfl rfl ?_
    refine g_istore_n X (i0 := 3) (lv' := [(3, .int x2), (0, .ref (E.1 84)), (1, .int x1), (2, .int x2)]) dX13_largestBlock_16 rfl (by decide) rfl ?_
    refine g_sub (lv' := [(0, .ref (E.1 84)), (1, .int x1), (2, .int x2), (3, .int x2)]) [1, 2, 3, 0] rfl ?_
    exact h1 _ (Option.some.inj h).symm
set_option maxRecDepth 100000 in
set_option maxHeartbeats 4000000 in
theorem bl_X13_largestBlock_2 {p : Program} {l : Launch} {e : Env} {s : State} {m : MethodId} {args : Array Value} {below : List Frame} {meth : Method} {c : Code} {G : va_G} {E : EE} {r : RT} (X : CX p s m args meth c cX13_largestBlock RX13 5 G E) (hr : meth.sig.returnType = (some .int)) (x1 : Int32) (x2 : Int32) (x3 : Int32) (D : DD) (o : (Nat × List Int32 × DD) ⊕ RT) (h : b_X13_largestBlock_2 x1 x2 x3 D = some o) (h1 : ∀ x, o = .inl x → hg_X13_largestBlock p l e s m args below meth c G E r x.1 x.2.1 x.2.2) (h2 : ∀ x, o = .inr x → x = r) : GW p l e (rmm 2) s m args below meth c G E 5 (MQ below (QR G E s.heap.size r) args s 0 0 (fr E s.heap.size)) 0 0 D 17 [(0, .ref (E.1 84)), (1, .int x1), (2, .int x2), (3, .int x3)] [] := by
  unfold b_X13_largestBlock_2 at h
  refine g_iload_n X 3 (i0 := 3) dX13_largestBlock_17 rfl rfl ?_
  refine g_bipush X (v := (36 : Int32)) dX13_largestBlock_18 (by decide) ?_
  refine g_icmp_ge X (tgt := 97) dX13_largestBlock_20 (by decide) (fun c8 => ?_) (fun c8 => ?_)
  · have h := (ite_s h).1 c8
    refine g_iinc X 2 (v := (x2 + (1 : Int32))) (lv' := [(2, .int (x2 + (1 : Int32))), (0, .ref (E.1 84)), (1, .int x1), (3, .int x3)]) dX13_largestBlock_97 rfl rfl (by decide) rfl ?_
    refine g_goto X (tgt := 9) dX13_largestBlock_100 (by decide) ?_
    refine g_sub (lv' := [(0, .ref (E.1 84)), (1, .int x1), (2, .int (x2 + (1 : Int32)))]) [1, 2, 0] rfl ?_
    exact h1 _ (Option.some.inj h).symm
  · have h := (ite_s h).2 c8
    refine g_iload_n X 3 (i0 := 3) dX13_largestBlock_23 rfl rfl ?_
    refine g_bipush X (v := (6 : Int32)) dX13_largestBlock_24 (by decide) ?_
    refine g_idiv X (by decide) dX13_largestBlock_26 ?_
    refine g_iload_n X 2 (i0 := 2) dX13_largestBlock_27 rfl rfl ?_
    refine g_bipush X (v := (6 : Int32)) dX13_largestBlock_28 (by decide) ?_
    refine g_idiv X (by decide) dX13_largestBlock_30 ?_
    refine g_isub X dX13_largestBlock_31 ?_
    refine g_iconst X (v := (1 : Int32)) dX13_largestBlock_32 (by decide) ?_
    refine g_iadd X dX13_largestBlock_33 ?_
    refine g_iload_n X 3 (i0 := 3) dX13_largestBlock_34 rfl rfl ?_
    refine g_bipush X (v := (6 : Int32)) dX13_largestBlock_35 (by decide) ?_
    refine g_irem X (by decide) dX13_largestBlock_37 ?_
    refine g_iload_n X 2 (i0 := 2) dX13_largestBlock_38 rfl rfl ?_
    refine g_bipush X (v := (6 : Int32)) dX13_largestBlock_39 (by decide) ?_
    refine g_irem X (by decide) dX13_largestBlock_41 ?_
    refine g_isub X dX13_largestBlock_42 ?_
    refine g_iconst X (v := (1 : Int32)) dX13_largestBlock_43 (by decide) ?_
    refine g_iadd X dX13_largestBlock_44 ?_
    refine g_imul X dX13_largestBlock_45 ?_
    refine g_istore X (lv' := [(4, .int ((((x3 / (6 : Int32)) - (x2 / (6 : Int32))) + (1 : Int32)) * (((x3 - x3 / (6 : Int32) * (6 : Int32)) - (x2 - x2 / (6 : Int32) * (6 : Int32))) + (1 : Int32)))), (0, .ref (E.1 84)), (1, .int x1), (2, .int x2), (3, .int x3)]) dX13_largestBlock_46 (by decide) rfl ?_
    refine g_iload_n X 4 (i0 := 3) dX13_largestBlock_48 rfl rfl ?_
    refine g_bipush X (v := (6 : Int32)) dX13_largestBlock_49 (by decide) ?_
    refine g_irem X (by decide) dX13_largestBlock_51 ?_
    refine g_iload_n X 3 (i0 := 2) dX13_largestBlock_52 rfl rfl ?_
    refine g_bipush X (v := (6 : Int32)) dX13_largestBlock_53 (by decide) ?_
    refine g_irem X (by decide) dX13_largestBlock_55 ?_
    refine g_icmp_lt X (tgt := 91) dX13_largestBlock_56 (by decide) (fun c7 => ?_) (fun c7 => ?_)
    · have h := (ite_s h).1 c7
      refine g_iinc X 4 (v := (x3 + (1 : Int32))) (lv' := [(3, .int (x3 + (1 : Int32))), (4, .int ((((x3 / (6 : Int32)) - (x2 / (6 : Int32))) + (1 : Int32)) * (((x3 - x3 / (6 : Int32) * (6 : Int32)) - (x2 - x2 / (6 : Int32) * (6 : Int32))) + (1 : Int32)))), (0, .ref (E.1 84)), (1, .int x1), (2, .int x2)]) dX13_largestBlock_91 rfl rfl (by decide) rfl ?_
      refine g_goto X (tgt := 17) dX13_largestBlock_94 (by decide) ?_
      refine g_sub (lv' := [(0, .ref (E.1 84)), (1, .int x1), (2, .int x2), (3, .int (x3 + (1 : Int32)))]) [2, 3, 4, 0] rfl ?_
      exact h1 _ (Option.some.inj h).symm
    · have h := (ite_s h).2 c7
      refine g_iload X 0 dX13_largestBlock_59 rfl ?_
      refine g_iload_n X 2 (i0 := 1) dX13_largestBlock_61 rfl rfl ?_
      refine g_icmp_le X (tgt := 91) dX13_largestBlock_62 (by decide) (fun c6 => ?_) (fun c6 => ?_)
      · have h := (ite_s h).1 c6
        refine g_iinc X 4 (v := (x3 + (1 : Int32))) (lv' := [(3, .int (x3 + (1 : Int32))), (4, .int ((((x3 / (6 : Int32)) - (x2 / (6 : Int32))) + (1 : Int32)) * (((x3 - x3 / (6 : Int32) * (6 : Int32)) - (x2 - x2 / (6 : Int32) * (6 : Int32))) + (1 : Int32)))), (0, .ref (E.1 84)), (1, .int x1), (2, .int x2)]) dX13_largestBlock_91 rfl rfl (by decide) rfl ?_
        refine g_goto X (tgt := 17) dX13_largestBlock_94 (by decide) ?_
        refine g_sub (lv' := [(0, .ref (E.1 84)), (1, .int x1), (2, .int x2), (3, .int (x3 + (1 : Int32)))]) [2, 3, 4, 0] rfl ?_
        exact h1 _ (Option.some.inj h).symm
      · have h := (ite_s h).2 c6
        refine g_aload_n X 1 (i0 := 0) dX13_largestBlock_65 rfl rfl ?_
        refine g_iload_n X 3 (i0 := 2) dX13_largestBlock_66 rfl rfl ?_
        refine g_bipush X (v := (6 : Int32)) dX13_largestBlock_67 (by decide) ?_
        refine g_idiv X (by decide) dX13_largestBlock_69 ?_
        refine g_iload_n X 3 (i0 := 2) dX13_largestBlock_70 rfl rfl ?_
        refine g_bipush X (v := (6 : Int32)) dX13_largestBlock_71 (by decide) ?_
        refine g_irem X (by decide) dX13_largestBlock_73 ?_
        refine g_iload_n X 4 (i0 := 3) dX13_largestBlock_74 rfl rfl ?_
        refine g_bipush X (v := (6 : Int32)) dX13_largestBlock_75 (by decide) ?_
        refine g_idiv X (by decide) dX13_largestBlock_77 ?_
        refine g_iload_n X 4 (i0 := 3) dX13_largestBlock_78 rfl rfl ?_
        refine g_bipush X (v := (6 : Int32)) dX13_largestBlock_79 (by decide) ?_
        refine g_irem X (by decide) dX13_largestBlock_81 ?_
        obtain ⟨r4, D3, e2, h⟩ := cI_s h
        refine g_V X (As := [.int (x2 / (6 : Int32)), .int (x2 - x2 / (6 : Int32) * (6 : Int32)), .int (x3 / (6 : Int32)), .int (x3 - x3 / (6 : Int32) * (6 : Int32))]) (rest := []) (c_X13_isWhole l G E (x2 / (6 : Int32)) (x2 - x2 / (6 : Int32) * (6 : Int32)) (x3 / (6 : Int32)) (x3 - x3 / (6 : Int32) * (6 : Int32)) _ _ e2) 84 (wg_84 E _) rfl rfl kv_X13_182 ⟨rfl, rfl⟩ ⟨rfl, hd_X13_isWhole⟩ (⟨Nat.le_of_ble_eq_true rfl, Nat.le_of_ble_eq_true rfl⟩) rfl rfl (Nat.le_of_ble_eq_true rfl) dX13_largestBlock_82 ?_
        refine g_if_eq X (tgt := 91) dX13_largestBlock_85 (by decide) (fun c5 => ?_) (fun c5 => ?_)
        · have h := (ite_s h).1 c5
          refine g_iinc X 4 (v := (x3 + (1 : Int32))) (lv' := [(3, .int (x3 + (1 : Int32))), (4, .int ((((x3 / (6 : Int32)) - (x2 / (6 : Int32))) + (1 : Int32)) * (((x3 - x3 / (6 : Int32) * (6 : Int32)) - (x2 - x2 / (6 : Int32) * (6 : Int32))) + (1 : Int32)))), (0, .ref (E.1 84)), (1, .int x1), (2, .int x2)]) dX13_largestBlock_91 rfl rfl (by decide) rfl ?_
          refine g_goto X (tgt := 17) dX13_largestBlock_94 (by decide) ?_
          refine g_sub (lv' := [(0, .ref (E.1 84)), (1, .int x1), (2, .int x2), (3, .int (x3 + (1 : Int32)))]) [2, 3, 4, 0] rfl ?_
          exact h1 _ (Option.some.inj h).symm
        · have h := (ite_s h).2 c5
          refine g_iload X 0 dX13_largestBlock_88 rfl ?_
          refine g_istore_n X (i0 := 1) (lv' := [(1, .int ((((x3 / (6 : Int32)) - (x2 / (6 : Int32))) + (1 : Int32)) * (((x3 - x3 / (6 : Int32) * (6 : Int32)) - (x2 - x2 / (6 : Int32) * (6 : Int32))) + (1 : Int32)))), (4, .int ((((x3 / (6 : Int32)) - (x2 / (6 : Int32))) + (1 : Int32)) * (((x3 - x3 / (6 : Int32) * (6 : Int32)) - (x2 - x2 / (6 : Int32) * (6 : Int32))) + (1 : Int32)))), (0, .ref (E.1 84)), (2, .int x2), (3, .int x3)]) dX13_largestBlock_90 rfl (by decide) rfl ?_
          refine g_iinc X 4 (v := (x3 + (1 : Int32))) (lv' := [(3, .int (x3 + (1 : Int32))), (1, .int ((((x3 / (6 : Int32)) - (x2 / (6 : Int32))) + (1 : Int32)) * (((x3 - x3 / (6 : Int32) * (6 : Int32)) - (x2 - x2 / (6 : Int32) * (6 : Int32))) + (1 : Int32)))), (4, .int ((((x3 / (6 : Int32)) - (x2 / (6 : Int32))) + (1 : Int32)) * (((x3 - x3 / (6 : Int32) * (6 : Int32)) - (x2 - x2 / (6 : Int32) * (6 : Int32))) + (1 : Int32)))), (0, .ref (E.1 84)), (2, .int x2)]) dX13_largestBlock_91 rfl rfl (by decide) rfl ?_
          refine g_goto X (tgt := 17) dX13_largestBlock_94 (by decide) ?_
          refine g_sub (lv' := [(0, .ref (E.1 84)), (1, .int ((((x3 / (6 : Int32)) - (x2 / (6 : Int32))) + (1 : Int32)) * (((x3 - x3 / (6 : Int32) * (6 : Int32)) - (x2 - x2 / (6 : Int32) * (6 : Int32))) + (1 : Int32)))), (2, .int x2), (3, .int (x3 + (1 : Int32)))]) [3, 1, 4, 0] rfl ?_
          exact h1 _ (Option.some.inj h).symm
set_option maxRecDepth 100000 in
set_option maxHeartbeats 4000000 in
theorem c_X13_largestBlock (l : Launch) (G : va_G) (E : EE)  (D : DD) (r : RT) (h : S_X13_largestBlock  D = some r) : MM l G E yX13_largestBlock cX13_largestBlock 5 (some .int) (rmm 2) [.ref (E.1 84)] D r := by
  unfold S_X13_largestBlock at h
  refine m_of rfl (Nat.le_of_ble_eq_true rfl) ?_
  intro p e s m args below meth c X hr
  exact run_G (T := T_X13_largestBlock) (HG := hg_X13_largestBlock p l e s m args below meth c G E r) (by
    intro k ls D o hT h1 h2
    unfold T_X13_largestBlock at hT
    split at hT
    · exact bl_X13_largestBlock_0 X hr  D o hT h1 h2
    · exact bl_X13_largestBlock_1 X hr _ _ D o hT h1 h2
    · exact bl_X13_largestBlock_2 X hr _ _ _ D o hT h1 h2
    · cases hT) FUEL 0 [] D h
theorem hd_X13_largestBlock : yX13_largestBlock.cls ≠ "java/lang/invoke/MethodHandle" ∧ yX13_largestBlock.cls ≠ "java/lang/invoke/VarHandle" ∧ (parseMethodDescriptor yX13_largestBlock.desc).map (fun d => d.parameters.length) = some 0 := by decide +kernel
theorem wc_X13_largestBlock : Cond.code yX13_largestBlock cX13_largestBlock 5 (some .int) ∈ UT := ut 1647 (by decide +kernel) (by decide +kernel)
theorem we_X13_largestBlock : Cond.selects RX13 yX13_largestBlock yX13_largestBlock ∈ UT := ut 1646 (by decide +kernel) (by decide +kernel)
theorem wm_X13_largestBlock : Cond.instanceMethod yX13_largestBlock ∈ UT := ut 1645 (by decide +kernel) (by decide +kernel)
theorem kv_X13_186 : GoodIn UT (wsV RX13 186 RX13 yX13_largestBlock (Cond.code yX13_largestBlock cX13_largestBlock 5 (some .int) :: UT)) := gu_V (ut 1656 (by decide +kernel) (by decide +kernel)) wm_X13_largestBlock we_X13_largestBlock wi_RX13 wc_X13_largestBlock
def S_X13_blockByHeights  (D : DD) : Option RT := (cI (S_X13_largestBlock D) (fun r3 D2 => some (0, some (.int r3), D2)))
set_option maxRecDepth 100000 in
set_option maxHeartbeats 4000000 in
theorem c_X13_blockByHeights (l : Launch) (G : va_G) (E : EE)  (D : DD) (r : RT) (h : S_X13_blockByHeights  D = some r) : MM l G E yX13_blockByHeights cX13_blockByHeights 1 (some .int) (rmm 3) [.ref (E.1 84)] D r := by
  refine m_of rfl (Nat.le_of_ble_eq_true rfl) ?_
  intro p e s m args below meth c X hr
  unfold S_X13_blockByHeights at h
  refine g_aload_n X 0 (i0 := 0) dX13_blockByHeights_0 rfl rfl ?_
  obtain ⟨r3, D2, e1, h⟩ := cI_s h
  refine g_V X (As := []) (rest := []) (c_X13_largestBlock l G E  _ _ e1) 84 (wg_84 E _) rfl rfl kv_X13_186 ⟨rfl, rfl⟩ ⟨rfl, hd_X13_largestBlock⟩ (⟨Nat.le_of_ble_eq_true rfl, Nat.le_of_ble_eq_true rfl⟩) rfl rfl (Nat.le_of_ble_eq_true rfl) dX13_blockByHeights_1 ?_
  exact g_iret X hr rfl dX13_blockByHeights_4 (Option.some.inj h)
def S_X13_prices (a0 : Int32) (a1 : Int32) (D : DD) : Option RT := (cI (S_X13_isIn a0 (1 : Int32) (10 : Int32) D) (fun r3 D2 => (if r3 = 0 then (cI (S_X13_fail (1 : Int32) D2) (fun r6 D5 => some (0, some (.int r6), D5))) else (cI (S_X13_isIn a1 (0 : Int32) (99 : Int32) D2) (fun r9 D8 => (if r9 = 0 then (cI (S_X13_fail (1 : Int32) D8) (fun r14 D13 => some (0, some (.int r14), D13))) else (if inB (((52 : Int32) + a0) - (1 : Int32)) 62 = true then (if inB (((52 : Int32) + a0) - (1 : Int32)) 62 = true then some (0, some (.int ((D8.2.2.1 70) (((52 : Int32) + a0) - (1 : Int32)).toNatClampNeg)), (setA D8 70 (upd (D8.2.2.1 70) (((52 : Int32) + a0) - (1 : Int32)).toNatClampNeg a1))) else none) else none)))))))
set_option maxRecDepth 100000 in
set_option maxHeartbeats 4000000 in
theorem c_X13_prices (l : Launch) (G : va_G) (E : EE) (a0 : Int32) (a1 : Int32) (D : DD) (r : RT) (h : S_X13_prices a0 a1 D = some r) : MM l G E yX13_prices cX13_prices 4 (some .int) (rmm 1) [.ref (E.1 84), .int a0, .int a1] D r := by
  refine m_of rfl (Nat.le_of_ble_eq_true rfl) ?_
  intro p e s m args below meth c X hr
  unfold S_X13_prices at h
  refine g_iload_n X 1 (i0 := 1) dX13_prices_0 rfl rfl ?_
  refine g_iconst X (v := (1 : Int32)) dX13_prices_1 (by decide) ?_
  refine g_bipush X (v := (10 : Int32)) dX13_prices_2 (by decide) ?_
  obtain ⟨r3, D2, e1, h⟩ := cI_s h
  refine g_S X (As := [.int a0, .int (1 : Int32), .int (10 : Int32)]) (rest := []) (c_X13_isIn l G E a0 (1 : Int32) (10 : Int32) _ _ e1) ks_X13_69 ⟨rfl, rfl⟩ hd_X13_isIn (⟨Nat.le_of_ble_eq_true rfl, Nat.le_of_ble_eq_true rfl⟩) rfl rfl (Nat.le_of_ble_eq_true rfl) dX13_prices_4 ?_
  refine g_if_eq X (tgt := 20) dX13_prices_7 (by decide) (fun c16 => ?_) (fun c16 => ?_)
  · have h := (ite_s h).1 c16
    refine g_aload_n X 0 (i0 := 0) dX13_prices_20 rfl rfl ?_
    refine g_iconst X (v := (1 : Int32)) dX13_prices_21 (by decide) ?_
    obtain ⟨r6, D5, e4, h⟩ := cI_s h
    refine g_V X (As := [.int (1 : Int32)]) (rest := []) (c_X13_fail l G E (1 : Int32) _ _ e4) 84 (wg_84 E _) rfl rfl kv_X13_81 ⟨rfl, rfl⟩ ⟨rfl, hd_X13_fail⟩ (⟨Nat.le_of_ble_eq_true rfl, Nat.le_of_ble_eq_true rfl⟩) rfl rfl (Nat.le_of_ble_eq_true rfl) dX13_prices_22 ?_
    exact g_iret X hr rfl dX13_prices_25 (Option.some.inj h)
  · have h := (ite_s h).2 c16
    refine g_iload_n X 2 (i0 := 2) dX13_prices_10 rfl rfl ?_
    refine g_iconst X (v := (0 : Int32)) dX13_prices_11 (by decide) ?_
    refine g_bipush X (v := (99 : Int32)) dX13_prices_12 (by decide) ?_
    obtain ⟨r9, D8, e7, h⟩ := cI_s h
    refine g_S X (As := [.int a1, .int (0 : Int32), .int (99 : Int32)]) (rest := []) (c_X13_isIn l G E a1 (0 : Int32) (99 : Int32) _ _ e7) ks_X13_69 ⟨rfl, rfl⟩ hd_X13_isIn (⟨Nat.le_of_ble_eq_true rfl, Nat.le_of_ble_eq_true rfl⟩) rfl rfl (Nat.le_of_ble_eq_true rfl) dX13_prices_14 ?_
    refine g_if_ne X (tgt := 26) dX13_prices_17 (by decide) (fun c15 => ?_) (fun c15 => ?_)
    · have h := (ite_s h).2 c15
      refine g_aload_n X 0 (i0 := 0) dX13_prices_26 rfl rfl ?_
      refine g_get X (D := D8) (v := .ref (E.1 85)) (T := TX13) 84 uX13 (wg_84 E _) rfl 5 (by decide) fl_X13_16 rfl rfl dX13_prices_27 ?_
      refine g_bipush X (v := (52 : Int32)) dX13_prices_30 (by decide) ?_
      refine g_iload_n X 1 (i0 := 1) dX13_prices_32 rfl rfl ?_
      refine g_iadd X dX13_prices_33 ?_
      refine g_iconst X (v := (1 : Int32)) dX13_prices_34 (by decide) ?_
      refine g_isub X dX13_prices_35 ?_
      obtain ⟨b10, h⟩ := chk_s h
      refine g_iald X (D := D8) (f := (D8.2.2.1 70)) (i := (((52 : Int32) + a0) - (1 : Int32))) 85 (wg_85 E _) (inB_vp b10) dX13_prices_36 ?_
      refine g_istore_n X (i0 := 3) (lv' := [(3, .int ((D8.2.2.1 70) (((52 : Int32) + a0) - (1 : Int32)).toNatClampNeg)), (0, .ref (E.1 84)), (1, .int a0), (2, .int a1)]) dX13_prices_37 rfl (by decide) rfl ?_
      refine g_aload_n X 1 (i0 := 0) dX13_prices_38 rfl rfl ?_
      refine g_get X (D := D8) (v := .ref (E.1 85)) (T := TX13) 84 uX13 (wg_84 E _) rfl 5 (by decide) fl_X13_16 rfl rfl dX13_prices_39 ?_
      refine g_bipush X (v := (52 : Int32)) dX13_prices_42 (by decide) ?_
      refine g_iload_n X 2 (i0 := 1) dX13_prices_44 rfl rfl ?_
      refine g_iadd X dX13_prices_45 ?_
      refine g_iconst X (v := (1 : Int32)) dX13_prices_46 (by decide) ?_
      refine g_isub X dX13_prices_47 ?_
      refine g_iload_n X 3 (i0 := 2) dX13_prices_48 rfl rfl ?_
      obtain ⟨b11, h⟩ := chk_s h
      refine g_iast X (D := D8) (f := (D8.2.2.1 70)) (i := (((52 : Int32) + a0) - (1 : Int32))) (x := a1) (D' := (setA D8 70 (upd (D8.2.2.1 70) (((52 : Int32) + a0) - (1 : Int32)).toNatClampNeg a1))) 85 (wg_85 E _) (inB_vp b11) (ws_A_70 E _ _) dX13_prices_49 ?_
      refine g_iload_n X 0 (i0 := 3) dX13_prices_50 rfl rfl ?_
      exact g_iret X hr rfl dX13_prices_51 (Option.some.inj h)
    · have h := (ite_s h).1 c15
      refine g_aload_n X 0 (i0 := 0) dX13_prices_20 rfl rfl ?_
      refine g_iconst X (v := (1 : Int32)) dX13_prices_21 (by decide) ?_
      obtain ⟨r14, D13, e12, h⟩ := cI_s h
      refine g_V X (As := [.int (1 : Int32)]) (rest := []) (c_X13_fail l G E (1 : Int32) _ _ e12) 84 (wg_84 E _) rfl rfl kv_X13_81 ⟨rfl, rfl⟩ ⟨rfl, hd_X13_fail⟩ (⟨Nat.le_of_ble_eq_true rfl, Nat.le_of_ble_eq_true rfl⟩) rfl rfl (Nat.le_of_ble_eq_true rfl) dX13_prices_22 ?_
      exact g_iret X hr rfl dX13_prices_25 (Option.some.inj h)
theorem hd_X13_prices : yX13_prices.cls ≠ "java/lang/invoke/MethodHandle" ∧ yX13_prices.cls ≠ "java/lang/invoke/VarHandle" ∧ (parseMethodDescriptor yX13_prices.desc).map (fun d => d.parameters.length) = some 2 := by decide +kernel
theorem wc_X13_prices : Cond.code yX13_prices cX13_prices 4 (some .int) ∈ UT := ut 1664 (by decide +kernel) (by decide +kernel)
theorem we_X13_prices : Cond.selects RX13 yX13_prices yX13_prices ∈ UT := ut 63 (by decide +kernel) (by decide +kernel)
theorem wm_X13_prices : Cond.instanceMethod yX13_prices ∈ UT := ut 1663 (by decide +kernel) (by decide +kernel)
theorem kv_X13_189 : GoodIn UT (wsV RX13 189 RX13 yX13_prices (Cond.code yX13_prices cX13_prices 4 (some .int) :: UT)) := gu_V (ut 1661 (by decide +kernel) (by decide +kernel)) wm_X13_prices we_X13_prices wi_RX13 wc_X13_prices
def S_X13_setPrice (a0 : Int32) (a1 : Int32) (D : DD) : Option RT := (cV (S_X13_begins D) (fun D2 => (cI (S_X13_prices a0 a1 D2) (fun r5 D4 => (cI (S_X13_ends r5 D4) (fun r8 D7 => some (0, some (.int r8), D7)))))))
set_option maxRecDepth 100000 in
set_option maxHeartbeats 4000000 in
theorem c_X13_setPrice (l : Launch) (G : va_G) (E : EE) (a0 : Int32) (a1 : Int32) (D : DD) (r : RT) (h : S_X13_setPrice a0 a1 D = some r) : MM l G E yX13_setPrice cX13_setPrice 3 (some .int) (rmm 2) [.ref (E.1 84), .int a0, .int a1] D r := by
  refine m_of rfl (Nat.le_of_ble_eq_true rfl) ?_
  intro p e s m args below meth c X hr
  unfold S_X13_setPrice at h
  refine g_aload_n X 0 (i0 := 0) dX13_setPrice_0 rfl rfl ?_
  obtain ⟨D2, e1, h⟩ := cV_s h
  refine g_V X (As := []) (rest := []) (c_X13_begins l G E  _ _ e1) 84 (wg_84 E _) rfl rfl kv_X13_91 ⟨rfl, rfl⟩ ⟨rfl, hd_X13_begins⟩ (⟨Nat.le_of_ble_eq_true rfl, Nat.le_of_ble_eq_true rfl⟩) rfl rfl (Nat.le_of_ble_eq_true rfl) dX13_setPrice_1 ?_
  refine g_aload_n X 0 (i0 := 0) dX13_setPrice_4 rfl rfl ?_
  refine g_aload_n X 0 (i0 := 0) dX13_setPrice_5 rfl rfl ?_
  refine g_iload_n X 1 (i0 := 1) dX13_setPrice_6 rfl rfl ?_
  refine g_iload_n X 2 (i0 := 2) dX13_setPrice_7 rfl rfl ?_
  obtain ⟨r5, D4, e3, h⟩ := cI_s h
  refine g_V X (As := [.int a0, .int a1]) (rest := [.ref (E.1 84)]) (c_X13_prices l G E a0 a1 _ _ e3) 84 (wg_84 E _) rfl rfl kv_X13_189 ⟨rfl, rfl⟩ ⟨rfl, hd_X13_prices⟩ (⟨Nat.le_of_ble_eq_true rfl, Nat.le_of_ble_eq_true rfl⟩) rfl rfl (Nat.le_of_ble_eq_true rfl) dX13_setPrice_8 ?_
  obtain ⟨r8, D7, e6, h⟩ := cI_s h
  refine g_V X (As := [.int r5]) (rest := []) (c_X13_ends l G E r5 _ _ e6) 84 (wg_84 E _) rfl rfl kv_X13_98 ⟨rfl, rfl⟩ ⟨rfl, hd_X13_ends⟩ (⟨Nat.le_of_ble_eq_true rfl, Nat.le_of_ble_eq_true rfl⟩) rfl rfl (Nat.le_of_ble_eq_true rfl) dX13_setPrice_11 ?_
  exact g_iret X hr rfl dX13_setPrice_14 (Option.some.inj h)
def S_X13_priceOf (a0 : Int32) (D : DD) : Option RT := (cI (S_X13_isIn a0 (1 : Int32) (10 : Int32) D) (fun r3 D2 => (if r3 = 0 then (if (1 : Int32) = 0 then (if inB (((52 : Int32) + a0) - (1 : Int32)) 62 = true then some (0, some (.int ((D2.2.2.1 70) (((52 : Int32) + a0) - (1 : Int32)).toNatClampNeg)), (setI D2 140 (1 : Int32))) else none) else some (0, some (.int (0 : Int32)), (setI D2 140 (1 : Int32)))) else (if (0 : Int32) = 0 then (if inB (((52 : Int32) + a0) - (1 : Int32)) 62 = true then some (0, some (.int ((D2.2.2.1 70) (((52 : Int32) + a0) - (1 : Int32)).toNatClampNeg)), (setI D2 140 (0 : Int32))) else none) else some (0, some (.int (0 : Int32)), (setI D2 140 (0 : Int32)))))))
set_option maxRecDepth 100000 in
set_option maxHeartbeats 4000000 in
theorem c_X13_priceOf (l : Launch) (G : va_G) (E : EE) (a0 : Int32) (D : DD) (r : RT) (h : S_X13_priceOf a0 D = some r) : MM l G E yX13_priceOf cX13_priceOf 2 (some .int) (rmm 1) [.ref (E.1 84), .int a0] D r := by
  refine m_of rfl (Nat.le_of_ble_eq_true rfl) ?_
  intro p e s m args below meth c X hr
  unfold S_X13_priceOf at h
  refine g_aload_n X 0 (i0 := 0) dX13_priceOf_0 rfl rfl ?_
  refine g_iload_n X 1 (i0 := 1) dX13_priceOf_1 rfl rfl ?_
  refine g_iconst X (v := (1 : Int32)) dX13_priceOf_2 (by decide) ?_
  refine g_bipush X (v := (10 : Int32)) dX13_priceOf_3 (by decide) ?_
  obtain ⟨r3, D2, e1, h⟩ := cI_s h
  refine g_S X (As := [.int a0, .int (1 : Int32), .int (10 : Int32)]) (rest := [.ref (E.1 84)]) (c_X13_isIn l G E a0 (1 : Int32) (10 : Int32) _ _ e1) ks_X13_69 ⟨rfl, rfl⟩ hd_X13_isIn (⟨Nat.le_of_ble_eq_true rfl, Nat.le_of_ble_eq_true rfl⟩) rfl rfl (Nat.le_of_ble_eq_true rfl) dX13_priceOf_5 ?_
  refine g_if_eq X (tgt := 15) dX13_priceOf_8 (by decide) (fun c8 => ?_) (fun c8 => ?_)
  · have h := (ite_s h).1 c8
    refine g_iconst X (v := (1 : Int32)) dX13_priceOf_15 (by decide) ?_
    refine g_put X (D := D2) (v := .int (1 : Int32)) (T := TX13) (D' := (setI D2 140 (1 : Int32))) 84 uX13 tyX13 tyX13_ok nmX13 (wg_84 E _) rfl 0 (by decide) fl_X13_59 rfl rfl rfl rfl (Nat.le_of_ble_eq_true rfl) (ws_I_140 E _ _) dX13_priceOf_16 ?_
    refine g_aload_n X 0 (i0 := 0) dX13_priceOf_19 rfl rfl ?_
    refine g_get X (D := (setI D2 140 (1 : Int32))) (v := .int (1 : Int32)) (T := TX13) 84 uX13 (wg_84 E _) rfl 0 (by decide) fl_X13_59 rfl rfl dX13_priceOf_20 ?_
    refine g_if_ne X (tgt := 40) dX13_priceOf_23 (by decide) (fun c5 => ?_) (fun c5 => ?_)
    · have h := (ite_s h).2 c5
      refine g_iconst X (v := (0 : Int32)) dX13_priceOf_40 (by decide) ?_
      exact g_iret X hr rfl dX13_priceOf_41 (Option.some.inj h)
    · have h := (ite_s h).1 c5
      refine g_aload_n X 0 (i0 := 0) dX13_priceOf_26 rfl rfl ?_
      refine g_get X (D := (setI D2 140 (1 : Int32))) (v := .ref (E.1 85)) (T := TX13) 84 uX13 (wg_84 E _) rfl 5 (by decide) fl_X13_16 rfl rfl dX13_priceOf_27 ?_
      refine g_bipush X (v := (52 : Int32)) dX13_priceOf_30 (by decide) ?_
      refine g_iload_n X 1 (i0 := 1) dX13_priceOf_32 rfl rfl ?_
      refine g_iadd X dX13_priceOf_33 ?_
      refine g_iconst X (v := (1 : Int32)) dX13_priceOf_34 (by decide) ?_
      refine g_isub X dX13_priceOf_35 ?_
      obtain ⟨b4, h⟩ := chk_s h
      refine g_iald X (D := (setI D2 140 (1 : Int32))) (f := (D2.2.2.1 70)) (i := (((52 : Int32) + a0) - (1 : Int32))) 85 (wg_85 E _) (inB_vp b4) dX13_priceOf_36 ?_
      refine g_goto X (tgt := 41) dX13_priceOf_37 (by decide) ?_
      exact g_iret X hr rfl dX13_priceOf_41 (Option.some.inj h)
  · have h := (ite_s h).2 c8
    refine g_iconst X (v := (0 : Int32)) dX13_priceOf_11 (by decide) ?_
    refine g_goto X (tgt := 16) dX13_priceOf_12 (by decide) ?_
    refine g_put X (D := D2) (v := .int (0 : Int32)) (T := TX13) (D' := (setI D2 140 (0 : Int32))) 84 uX13 tyX13 tyX13_ok nmX13 (wg_84 E _) rfl 0 (by decide) fl_X13_59 rfl rfl rfl rfl (Nat.le_of_ble_eq_true rfl) (ws_I_140 E _ _) dX13_priceOf_16 ?_
    refine g_aload_n X 0 (i0 := 0) dX13_priceOf_19 rfl rfl ?_
    refine g_get X (D := (setI D2 140 (0 : Int32))) (v := .int (0 : Int32)) (T := TX13) 84 uX13 (wg_84 E _) rfl 0 (by decide) fl_X13_59 rfl rfl dX13_priceOf_20 ?_
    refine g_if_ne X (tgt := 40) dX13_priceOf_23 (by decide) (fun c7 => ?_) (fun c7 => ?_)
    · have h := (ite_s h).2 c7
      refine g_iconst X (v := (0 : Int32)) dX13_priceOf_40 (by decide) ?_
      exact g_iret X hr rfl dX13_priceOf_41 (Option.some.inj h)
    · have h := (ite_s h).1 c7
      refine g_aload_n X 0 (i0 := 0) dX13_priceOf_26 rfl rfl ?_
      refine g_get X (D := (setI D2 140 (0 : Int32))) (v := .ref (E.1 85)) (T := TX13) 84 uX13 (wg_84 E _) rfl 5 (by decide) fl_X13_16 rfl rfl dX13_priceOf_27 ?_
      refine g_bipush X (v := (52 : Int32)) dX13_priceOf_30 (by decide) ?_
      refine g_iload_n X 1 (i0 := 1) dX13_priceOf_32 rfl rfl ?_
      refine g_iadd X dX13_priceOf_33 ?_
      refine g_iconst X (v := (1 : Int32)) dX13_priceOf_34 (by decide) ?_
      refine g_isub X dX13_priceOf_35 ?_
      obtain ⟨b6, h⟩ := chk_s h
      refine g_iald X (D := (setI D2 140 (0 : Int32))) (f := (D2.2.2.1 70)) (i := (((52 : Int32) + a0) - (1 : Int32))) 85 (wg_85 E _) (inB_vp b6) dX13_priceOf_36 ?_
      refine g_goto X (tgt := 41) dX13_priceOf_37 (by decide) ?_
      exact g_iret X hr rfl dX13_priceOf_41 (Option.some.inj h)
theorem fl_X13_38 : Cond.fieldLink RX13 38 "StoneQuarryModel" "worth" "[I" ∈ UT := ut 1362 (by decide +kernel) (by decide +kernel)
theorem fl_X13_41 : Cond.fieldLink RX13 41 "StoneQuarryModel" "pieces" "[I" ∈ UT := ut 1363 (by decide +kernel) (by decide +kernel)
theorem wg_92 (E : EE) (D : DD) : (wd E D)[92]? = some (E.1 92, .inl (E.2 0, 31, .inl (D.2.2.1 77))) := rfl
theorem wg_93 (E : EE) (D : DD) : (wd E D)[93]? = some (E.1 93, .inl (E.2 0, 31, .inl (D.2.2.1 78))) := rfl
theorem ws_A_77 (E : EE) (D : DD) (f : Nat → Int32) : (wd E D).set 92 (E.1 92, .inl (E.2 0, 31, .inl f)) = wd E (setA D 77 f) := rfl
theorem ws_A_78 (E : EE) (D : DD) (f : Nat → Int32) : (wd E D).set 93 (E.1 93, .inl (E.2 0, 31, .inl f)) = wd E (setA D 78 f) := rfl
def b_X13_cuts_0  (D : DD) : Option ((Nat × List Int32 × DD) ⊕ RT) := some (.inl (1, [(1 : Int32)], (setA (setA D 77 (upd (D.2.2.1 77) (0 : Int32).toNatClampNeg (0 : Int32))) 78 (upd (D.2.2.1 78) (0 : Int32).toNatClampNeg (0 : Int32)))))
def b_X13_cuts_1 (x1 : Int32) (D : DD) : Option ((Nat × List Int32 × DD) ⊕ RT) := (if (30 : Int32) < x1 then some (.inr (0, none, D)) else (if inB x1 31 = true then some (.inl (2, [x1, (1 : Int32)], (setA D 77 (upd (D.2.2.1 77) x1.toNatClampNeg (-1 : Int32))))) else none))
def b_X13_cuts_2 (x1 : Int32) (x2 : Int32) (D : DD) : Option ((Nat × List Int32 × DD) ⊕ RT) := (if (10 : Int32) < x2 then some (.inl (1, [(x1 + (1 : Int32))], D)) else (if x1 < x2 then some (.inl (1, [(x1 + (1 : Int32))], D)) else (if inB (((52 : Int32) + x2) - (1 : Int32)) 62 = true then (if inB (x1 - x2) 31 = true then (if inB (x1 - x2) 31 = true then (if inB x1 31 = true then (if (((D.2.2.1 70) (((52 : Int32) + x2) - (1 : Int32)).toNatClampNeg) + ((D.2.2.1 77) (x1 - x2).toNatClampNeg)) < ((D.2.2.1 77) x1.toNatClampNeg) then some (.inl (2, [x1, (x2 + (1 : Int32))], D)) else (if inB x1 31 = true then (if (((D.2.2.1 70) (((52 : Int32) + x2) - (1 : Int32)).toNatClampNeg) + ((D.2.2.1 77) (x1 - x2).toNatClampNeg)) = ((D.2.2.1 77) x1.toNatClampNeg) then (if inB x1 31 = true then (if ((1 : Int32) + ((D.2.2.1 78) (x1 - x2).toNatClampNeg)) < ((D.2.2.1 78) x1.toNatClampNeg) then some (.inl (3, [x1, x2, (((D.2.2.1 70) (((52 : Int32) + x2) - (1 : Int32)).toNatClampNeg) + ((D.2.2.1 77) (x1 - x2).toNatClampNeg)), ((1 : Int32) + ((D.2.2.1 78) (x1 - x2).toNatClampNeg))], D)) else some (.inl (2, [x1, (x2 + (1 : Int32))], D))) else none) else some (.inl (3, [x1, x2, (((D.2.2.1 70) (((52 : Int32) + x2) - (1 : Int32)).toNatClampNeg) + ((D.2.2.1 77) (x1 - x2).toNatClampNeg)), ((1 : Int32) + ((D.2.2.1 78) (x1 - x2).toNatClampNeg))], D))) else none)) else none) else none) else none) else none)))
def b_X13_cuts_3 (x1 : Int32) (x2 : Int32) (x3 : Int32) (x4 : Int32) (D : DD) : Option ((Nat × List Int32 × DD) ⊕ RT) := (if inB x1 31 = true then (if inB x1 31 = true then some (.inl (2, [x1, (x2 + (1 : Int32))], (setA (setA D 77 (upd (D.2.2.1 77) x1.toNatClampNeg x3)) 78 (upd (D.2.2.1 78) x1.toNatClampNeg x4)))) else none) else none)
def T_X13_cuts (k : Nat) (ls : List Int32) (D : DD) : Option ((Nat × List Int32 × DD) ⊕ RT) := match k, ls with
  | 0, [] => b_X13_cuts_0  D
  | 1, [x1] => b_X13_cuts_1 x1 D
  | 2, [x1, x2] => b_X13_cuts_2 x1 x2 D
  | 3, [x1, x2, x3, x4] => b_X13_cuts_3 x1 x2 x3 x4 D
  | _, _ => none
def S_X13_cuts  (D : DD) : Option RT := run T_X13_cuts FUEL 0 [] D
def hg_X13_cuts (p : Program) (l : Launch) (e : Env) (s : State) (m : MethodId) (args : Array Value) (below : List Frame) (meth : Method) (c : Code) (G : va_G) (E : EE) (r : RT) (k : Nat) (ls : List Int32) (D : DD) : Prop := match k, ls with
  | 0, [] => GW p l e (rmm 0) s m args below meth c G E 5 (MQ below (QR G E s.heap.size r) args s 0 0 (fr E s.heap.size)) 0 0 D 0 [(0, .ref (E.1 84))] []
  | 1, [x1] => GW p l e (rmm 0) s m args below meth c G E 5 (MQ below (QR G E s.heap.size r) args s 0 0 (fr E s.heap.size)) 0 0 D 16 [(0, .ref (E.1 84)), (1, .int x1)] []
  | 2, [x1, x2] => GW p l e (rmm 0) s m args below meth c G E 5 (MQ below (QR G E s.heap.size r) args s 0 0 (fr E s.heap.size)) 0 0 D 31 [(0, .ref (E.1 84)), (1, .int x1), (2, .int x2)] []
  | 3, [x1, x2, x3, x4] => GW p l e (rmm 0) s m args below meth c G E 5 (MQ below (QR G E s.heap.size r) args s 0 0 (fr E s.heap.size)) 0 0 D 109 [(0, .ref (E.1 84)), (1, .int x1), (2, .int x2), (3, .int x3), (4, .int x4)] []
  | _, _ => True
set_option maxRecDepth 100000 in
set_option maxHeartbeats 4000000 in
theorem bl_X13_cuts_0 {p : Program} {l : Launch} {e : Env} {s : State} {m : MethodId} {args : Array Value} {below : List Frame} {meth : Method} {c : Code} {G : va_G} {E : EE} {r : RT} (X : CX p s m args meth c cX13_cuts RX13 5 G E) (hr : meth.sig.returnType = none)  (D : DD) (o : (Nat × List Int32 × DD) ⊕ RT) (h : b_X13_cuts_0  D = some o) (h1 : ∀ x, o = .inl x → hg_X13_cuts p l e s m args below meth c G E r x.1 x.2.1 x.2.2) (h2 : ∀ x, o = .inr x → x = r) : GW p l e (rmm 0) s m args below meth c G E 5 (MQ below (QR G E s.heap.size r) args s 0 0 (fr E s.heap.size)) 0 0 D 0 [(0, .ref (E.1 84))] [] := by
  unfold b_X13_cuts_0 at h
  refine g_aload_n X 0 (i0 := 0) dX13_cuts_0 rfl rfl ?_
  refine g_get X (D := D) (v := .ref (E.1 92)) (T := TX13) 84 uX13 (wg_84 E _) rfl 12 (by decide) fl_X13_38 rfl rfl dX13_cuts_1 ?_
  refine g_iconst X (v := (0 : Int32)) dX13_cuts_4 (by decide) ?_
  refine g_iconst X (v := (0 : Int32)) dX13_cuts_5 (by decide) ?_
  refine g_iast X (D := D) (f := (D.2.2.1 77)) (i := (0 : Int32)) (x := (0 : Int32)) (D' := (setA D 77 (upd (D.2.2.1 77) (0 : Int32).toNatClampNeg (0 : Int32)))) 92 (wg_92 E _) (inB_vp (by decide)) (ws_A_77 E _ _) dX13_cuts_6 ?_
  refine g_aload_n X 0 (i0 := 0) dX13_cuts_7 rfl rfl ?_
  refine g_get X (D := (setA D 77 (upd (D.2.2.1 77) (0 : Int32).toNatClampNeg (0 : Int32)))) (v := .ref (E.1 93)) (T := TX13) 84 uX13 (wg_84 E _) rfl 13 (by decide) fl_X13_41 rfl rfl dX13_cuts_8 ?_
  refine g_iconst X (v := (0 : Int32)) dX13_cuts_11 (by decide) ?_
  refine g_iconst X (v := (0 : Int32)) dX13_cuts_12 (by decide) ?_
  refine g_iast X (D := (setA D 77 (upd (D.2.2.1 77) (0 : Int32).toNatClampNeg (0 : Int32)))) (f := (D.2.2.1 78)) (i := (0 : Int32)) (x := (0 : Int32)) (D' := (setA (setA D 77 (upd (D.2.2.1 77) (0 : Int32).toNatClampNeg (0 : Int32))) 78 (upd (D.2.2.1 78) (0 : Int32).toNatClampNeg (0 : Int32)))) 93 (wg_93 E _) (inB_vp (by decide)) (ws_A_78 E _ _) dX13_cuts_13 ?_
  refine g_iconst X (v := (1 : Int32)) dX13_cuts_14 (by decide) ?_
  refine g_istore_n X (i0 := 1) (lv' := [(1, .int (1 : Int32)), (0, .ref (E.1 84))]) dX13_cuts_15 rfl (by decide) rfl ?_
  refine g_sub (lv' := [(0, .ref (E.1 84)), (1, .int (1 : Int32))]) [1, 0] rfl ?_
  exact h1 _ (Option.some.inj h).symm
set_option maxRecDepth 100000 in
set_option maxHeartbeats 4000000 in
theorem bl_X13_cuts_1 {p : Program} {l : Launch} {e : Env} {s : State} {m : MethodId} {args : Array Value} {below : List Frame} {meth : Method} {c : Code} {G : va_G} {E : EE} {r : RT} (X : CX p s m args meth c cX13_cuts RX13 5 G E) (hr : meth.sig.returnType = none) (x1 : Int32) (D : DD) (o : (Nat × List Int32 × DD) ⊕ RT) (h : b_X13_cuts_1 x1 D = some o) (h1 : ∀ x, o = .inl x → hg_X13_cuts p l e s m args below meth c G E r x.1 x.2.1 x.2.2) (h2 : ∀ x, o = .inr x → x = r) : GW p l e (rmm 0) s m args below meth c G E 5 (MQ below (QR G E s.heap.size r) args s 0 0 (fr E s.heap.size)) 0 0 D 16 [(0, .ref (E.1 84)), (1, .int x1)] [] := by
  unfold b_X13_cuts_1 at h
  refine g_iload_n X 1 (i0 := 1) dX13_cuts_16 rfl rfl ?_
  refine g_bipush X (v := (30 : Int32)) dX13_cuts_17 (by decide) ?_
  refine g_icmp_gt X (tgt := 136) dX13_cuts_19 (by decide) (fun c2 => ?_) (fun c2 => ?_)
  · have h := (ite_s h).1 c2
    exact g_vret X hr dX13_cuts_136 (h2 _ (Option.some.inj h).symm)
  · have h := (ite_s h).2 c2
    refine g_aload_n X 0 (i0 := 0) dX13_cuts_22 rfl rfl ?_
    refine g_get X (D := D) (v := .ref (E.1 92)) (T := TX13) 84 uX13 (wg_84 E _) rfl 12 (by decide) fl_X13_38 rfl rfl dX13_cuts_23 ?_
    refine g_iload_n X 1 (i0 := 1) dX13_cuts_26 rfl rfl ?_
    refine g_iconst X (v := (-1 : Int32)) dX13_cuts_27 (by decide) ?_
    obtain ⟨b1, h⟩ := chk_s h
    refine g_iast X (D := D) (f := (D.2.2.1 77)) (i := x1) (x := (-1 : Int32)) (D' := (setA D 77 (upd (D.2.2.1 77) x1.toNatClampNeg (-1 : Int32)))) 92 (wg_92 E _) (inB_vp b1) (ws_A_77 E _ _) dX13_cuts_28 ?_
    refine g_iconst X (v := (1 : Int32)) dX13_cuts_29 (by decide) ?_
    refine g_istore_n X (i0 := 2) (lv' := [(2, .int (1 : Int32)), (0, .ref (E.1 84)), (1, .int x1)]) dX13_cuts_30 rfl (by decide) rfl ?_
    refine g_sub (lv' := [(0, .ref (E.1 84)), (1, .int x1), (2, .int (1 : Int32))]) [1, 2, 0] rfl ?_
    exact h1 _ (Option.some.inj h).symm
set_option maxRecDepth 100000 in
set_option maxHeartbeats 4000000 in
theorem bl_X13_cuts_2 {p : Program} {l : Launch} {e : Env} {s : State} {m : MethodId} {args : Array Value} {below : List Frame} {meth : Method} {c : Code} {G : va_G} {E : EE} {r : RT} (X : CX p s m args meth c cX13_cuts RX13 5 G E) (hr : meth.sig.returnType = none) (x1 : Int32) (x2 : Int32) (D : DD) (o : (Nat × List Int32 × DD) ⊕ RT) (h : b_X13_cuts_2 x1 x2 D = some o) (h1 : ∀ x, o = .inl x → hg_X13_cuts p l e s m args below meth c G E r x.1 x.2.1 x.2.2) (h2 : ∀ x, o = .inr x → x = r) : GW p l e (rmm 0) s m args below meth c G E 5 (MQ below (QR G E s.heap.size r) args s 0 0 (fr E s.heap.size)) 0 0 D 31 [(0, .ref (E.1 84)), (1, .int x1), (2, .int x2)] [] := by
  unfold b_X13_cuts_2 at h
  refine g_iload_n X 2 (i0 := 2) dX13_cuts_31 rfl rfl ?_
  refine g_bipush X (v := (10 : Int32)) dX13_cuts_32 (by decide) ?_
  refine g_icmp_gt X (tgt := 130) dX13_cuts_34 (by decide) (fun c13 => ?_) (fun c13 => ?_)
  · have h := (ite_s h).1 c13
    refine g_iinc X 1 (v := (x1 + (1 : Int32))) (lv' := [(1, .int (x1 + (1 : Int32))), (0, .ref (E.1 84)), (2, .int x2)]) dX13_cuts_130 rfl rfl (by decide) rfl ?_
    refine g_goto X (tgt := 16) dX13_cuts_133 (by decide) ?_
    refine g_sub (lv' := [(0, .ref (E.1 84)), (1, .int (x1 + (1 : Int32)))]) [1, 0] rfl ?_
    exact h1 _ (Option.some.inj h).symm
  · have h := (ite_s h).2 c13
    refine g_iload_n X 2 (i0 := 2) dX13_cuts_37 rfl rfl ?_
    refine g_iload_n X 1 (i0 := 1) dX13_cuts_38 rfl rfl ?_
    refine g_icmp_gt X (tgt := 130) dX13_cuts_39 (by decide) (fun c12 => ?_) (fun c12 => ?_)
    · have h := (ite_s h).1 c12
      refine g_iinc X 1 (v := (x1 + (1 : Int32))) (lv' := [(1, .int (x1 + (1 : Int32))), (0, .ref (E.1 84)), (2, .int x2)]) dX13_cuts_130 rfl rfl (by decide) rfl ?_
      refine g_goto X (tgt := 16) dX13_cuts_133 (by decide) ?_
      refine g_sub (lv' := [(0, .ref (E.1 84)), (1, .int (x1 + (1 : Int32)))]) [1, 0] rfl ?_
      exact h1 _ (Option.some.inj h).symm
    · have h := (ite_s h).2 c12
      refine g_aload_n X 0 (i0 := 0) dX13_cuts_42 rfl rfl ?_
      refine g_get X (D := D) (v := .ref (E.1 85)) (T := TX13) 84 uX13 (wg_84 E _) rfl 5 (by decide) fl_X13_16 rfl rfl dX13_cuts_43 ?_
      refine g_bipush X (v := (52 : Int32)) dX13_cuts_46 (by decide) ?_
      refine g_iload_n X 2 (i0 := 2) dX13_cuts_48 rfl rfl ?_
      refine g_iadd X dX13_cuts_49 ?_
      refine g_iconst X (v := (1 : Int32)) dX13_cuts_50 (by decide) ?_
      refine g_isub X dX13_cuts_51 ?_
      obtain ⟨b3, h⟩ := chk_s h
      refine g_iald X (D := D) (f := (D.2.2.1 70)) (i := (((52 : Int32) + x2) - (1 : Int32))) 85 (wg_85 E _) (inB_vp b3) dX13_cuts_52 ?_
      refine g_aload_n X 0 (i0 := 0) dX13_cuts_53 rfl rfl ?_
      refine g_get X (D := D) (v := .ref (E.1 92)) (T := TX13) 84 uX13 (wg_84 E _) rfl 12 (by decide) fl_X13_38 rfl rfl dX13_cuts_54 ?_
      refine g_iload_n X 1 (i0 := 1) dX13_cuts_57 rfl rfl ?_
      refine g_iload_n X 2 (i0 := 2) dX13_cuts_58 rfl rfl ?_
      refine g_isub X dX13_cuts_59 ?_
      obtain ⟨b4, h⟩ := chk_s h
      refine g_iald X (D := D) (f := (D.2.2.1 77)) (i := (x1 - x2)) 92 (wg_92 E _) (inB_vp b4) dX13_cuts_60 ?_
      refine g_iadd X dX13_cuts_61 ?_
      refine g_istore_n X (i0 := 3) (lv' := [(3, .int (((D.2.2.1 70) (((52 : Int32) + x2) - (1 : Int32)).toNatClampNeg) + ((D.2.2.1 77) (x1 - x2).toNatClampNeg))), (0, .ref (E.1 84)), (1, .int x1), (2, .int x2)]) dX13_cuts_62 rfl (by decide) rfl ?_
      refine g_iconst X (v := (1 : Int32)) dX13_cuts_63 (by decide) ?_
      refine g_aload_n X 1 (i0 := 0) dX13_cuts_64 rfl rfl ?_
      refine g_get X (D := D) (v := .ref (E.1 93)) (T := TX13) 84 uX13 (wg_84 E _) rfl 13 (by decide) fl_X13_41 rfl rfl dX13_cuts_65 ?_
      refine g_iload_n X 2 (i0 := 1) dX13_cuts_68 rfl rfl ?_
      refine g_iload_n X 3 (i0 := 2) dX13_cuts_69 rfl rfl ?_
      refine g_isub X dX13_cuts_70 ?_
      obtain ⟨b5, h⟩ := chk_s h
      refine g_iald X (D := D) (f := (D.2.2.1 78)) (i := (x1 - x2)) 93 (wg_93 E _) (inB_vp b5) dX13_cuts_71 ?_
      refine g_iadd X dX13_cuts_72 ?_
      refine g_istore X (lv' := [(4, .int ((1 : Int32) + ((D.2.2.1 78) (x1 - x2).toNatClampNeg))), (3, .int (((D.2.2.1 70) (((52 : Int32) + x2) - (1 : Int32)).toNatClampNeg) + ((D.2.2.1 77) (x1 - x2).toNatClampNeg))), (0, .ref (E.1 84)), (1, .int x1), (2, .int x2)]) dX13_cuts_73 (by decide) rfl ?_
      refine g_iload_n X 1 (i0 := 3) dX13_cuts_75 rfl rfl ?_
      refine g_aload_n X 2 (i0 := 0) dX13_cuts_76 rfl rfl ?_
      refine g_get X (D := D) (v := .ref (E.1 92)) (T := TX13) 84 uX13 (wg_84 E _) rfl 12 (by decide) fl_X13_38 rfl rfl dX13_cuts_77 ?_
      refine g_iload_n X 3 (i0 := 1) dX13_cuts_80 rfl rfl ?_
      obtain ⟨b6, h⟩ := chk_s h
      refine g_iald X (D := D) (f := (D.2.2.1 77)) (i := x1) 92 (wg_92 E _) (inB_vp b6) dX13_cuts_81 ?_
      refine g_icmp_lt X (tgt := 124) dX13_cuts_82 (by decide) (fun c11 => ?_) (fun c11 => ?_)
      · have h := (ite_s h).1 c11
        refine g_iinc X 4 (v := (x2 + (1 : Int32))) (lv' := [(2, .int (x2 + (1 : Int32))), (4, .int ((1 : Int32) + ((D.2.2.1 78) (x1 - x2).toNatClampNeg))), (3, .int (((D.2.2.1 70) (((52 : Int32) + x2) - (1 : Int32)).toNatClampNeg) + ((D.2.2.1 77) (x1 - x2).toNatClampNeg))), (0, .ref (E.1 84)), (1, .int x1)]) dX13_cuts_124 rfl rfl (by decide) rfl ?_
        refine g_goto X (tgt := 31) dX13_cuts_127 (by decide) ?_
        refine g_sub (lv' := [(0, .ref (E.1 84)), (1, .int x1), (2, .int (x2 + (1 : Int32)))]) [3, 4, 0] rfl ?_
        exact h1 _ (Option.some.inj h).symm
      · have h := (ite_s h).2 c11
        refine g_iload_n X 1 (i0 := 3) dX13_cuts_85 rfl rfl ?_
        refine g_aload_n X 2 (i0 := 0) dX13_cuts_86 rfl rfl ?_
        refine g_get X (D := D) (v := .ref (E.1 92)) (T := TX13) 84 uX13 (wg_84 E _) rfl 12 (by decide) fl_X13_38 rfl rfl dX13_cuts_87 ?_
        refine g_iload_n X 3 (i0 := 1) dX13_cuts_90 rfl rfl ?_
        obtain ⟨b7, h⟩ := chk_s h
        refine g_iald X (D := D) (f := (D.2.2.1 77)) (i := x1) 92 (wg_92 E _) (inB_vp b7) dX13_cuts_91 ?_
        refine g_icmp_ne X (tgt := 109) dX13_cuts_92 (by decide) (fun c10 => ?_) (fun c10 => ?_)
        · have h := (ite_s h).2 c10
          refine g_sub (lv' := [(0, .ref (E.1 84)), (1, .int x1), (2, .int x2), (3, .int (((D.2.2.1 70) (((52 : Int32) + x2) - (1 : Int32)).toNatClampNeg) + ((D.2.2.1 77) (x1 - x2).toNatClampNeg))), (4, .int ((1 : Int32) + ((D.2.2.1 78) (x1 - x2).toNatClampNeg)))]) [2, 3, 4, 1, 0] rfl ?_
          exact h1 _ (Option.some.inj h).symm
        · have h := (ite_s h).1 c10
          refine g_iload X 0 dX13_cuts_95 rfl ?_
          refine g_aload_n X 2 (i0 := 0) dX13_cuts_97 rfl rfl ?_
          refine g_get X (D := D) (v := .ref (E.1 93)) (T := TX13) 84 uX13 (wg_84 E _) rfl 13 (by decide) fl_X13_41 rfl rfl dX13_cuts_98 ?_
          refine g_iload_n X 3 (i0 := 1) dX13_cuts_101 rfl rfl ?_
          obtain ⟨b8, h⟩ := chk_s h
          refine g_iald X (D := D) (f := (D.2.2.1 78)) (i := x1) 93 (wg_93 E _) (inB_vp b8) dX13_cuts_102 ?_
          refine g_icmp_lt X (tgt := 109) dX13_cuts_103 (by decide) (fun c9 => ?_) (fun c9 => ?_)
          · have h := (ite_s h).1 c9
            refine g_sub (lv' := [(0, .ref (E.1 84)), (1, .int x1), (2, .int x2), (3, .int (((D.2.2.1 70) (((52 : Int32) + x2) - (1 : Int32)).toNatClampNeg) + ((D.2.2.1 77) (x1 - x2).toNatClampNeg))), (4, .int ((1 : Int32) + ((D.2.2.1 78) (x1 - x2).toNatClampNeg)))]) [2, 3, 4, 1, 0] rfl ?_
            exact h1 _ (Option.some.inj h).symm
          · have h := (ite_s h).2 c9
            refine g_goto X (tgt := 124) dX13_cuts_106 (by decide) ?_
            refine g_iinc X 4 (v := (x2 + (1 : Int32))) (lv' := [(2, .int (x2 + (1 : Int32))), (4, .int ((1 : Int32) + ((D.2.2.1 78) (x1 - x2).toNatClampNeg))), (3, .int (((D.2.2.1 70) (((52 : Int32) + x2) - (1 : Int32)).toNatClampNeg) + ((D.2.2.1 77) (x1 - x2).toNatClampNeg))), (0, .ref (E.1 84)), (1, .int x1)]) dX13_cuts_124 rfl rfl (by decide) rfl ?_
            refine g_goto X (tgt := 31) dX13_cuts_127 (by decide) ?_
            refine g_sub (lv' := [(0, .ref (E.1 84)), (1, .int x1), (2, .int (x2 + (1 : Int32)))]) [3, 4, 0] rfl ?_
            exact h1 _ (Option.some.inj h).symm
set_option maxRecDepth 100000 in
set_option maxHeartbeats 4000000 in
theorem bl_X13_cuts_3 {p : Program} {l : Launch} {e : Env} {s : State} {m : MethodId} {args : Array Value} {below : List Frame} {meth : Method} {c : Code} {G : va_G} {E : EE} {r : RT} (X : CX p s m args meth c cX13_cuts RX13 5 G E) (hr : meth.sig.returnType = none) (x1 : Int32) (x2 : Int32) (x3 : Int32) (x4 : Int32) (D : DD) (o : (Nat × List Int32 × DD) ⊕ RT) (h : b_X13_cuts_3 x1 x2 x3 x4 D = some o) (h1 : ∀ x, o = .inl x → hg_X13_cuts p l e s m args below meth c G E r x.1 x.2.1 x.2.2) (h2 : ∀ x, o = .inr x → x = r) : GW p l e (rmm 0) s m args below meth c G E 5 (MQ below (QR G E s.heap.size r) args s 0 0 (fr E s.heap.size)) 0 0 D 109 [(0, .ref (E.1 84)), (1, .int x1), (2, .int x2), (3, .int x3), (4, .int x4)] [] := by
  unfold b_X13_cuts_3 at h
  refine g_aload_n X 0 (i0 := 0) dX13_cuts_109 rfl rfl ?_
  refine g_get X (D := D) (v := .ref (E.1 92)) (T := TX13) 84 uX13 (wg_84 E _) rfl 12 (by decide) fl_X13_38 rfl rfl dX13_cuts_110 ?_
  refine g_iload_n X 1 (i0 := 1) dX13_cuts_113 rfl rfl ?_
  refine g_iload_n X 3 (i0 := 3) dX13_cuts_114 rfl rfl ?_
  obtain ⟨b14, h⟩ := chk_s h
  refine g_iast X (D := D) (f := (D.2.2.1 77)) (i := x1) (x := x3) (D' := (setA D 77 (upd (D.2.2.1 77) x1.toNatClampNeg x3))) 92 (wg_92 E _) (inB_vp b14) (ws_A_77 E _ _) dX13_cuts_115 ?_
  refine g_aload_n X 0 (i0 := 0) dX13_cuts_116 rfl rfl ?_
  refine g_get X (D := (setA D 77 (upd (D.2.2.1 77) x1.toNatClampNeg x3))) (v := .ref (E.1 93)) (T := TX13) 84 uX13 (wg_84 E _) rfl 13 (by decide) fl_X13_41 rfl rfl dX13_cuts_117 ?_
  refine g_iload_n X 1 (i0 := 1) dX13_cuts_120 rfl rfl ?_
  refine g_iload X 4 dX13_cuts_121 rfl ?_
  obtain ⟨b15, h⟩ := chk_s h
  refine g_iast X (D := (setA D 77 (upd (D.2.2.1 77) x1.toNatClampNeg x3))) (f := (D.2.2.1 78)) (i := x1) (x := x4) (D' := (setA (setA D 77 (upd (D.2.2.1 77) x1.toNatClampNeg x3)) 78 (upd (D.2.2.1 78) x1.toNatClampNeg x4))) 93 (wg_93 E _) (inB_vp b15) (ws_A_78 E _ _) dX13_cuts_123 ?_
  refine g_iinc X 2 (v := (x2 + (1 : Int32))) (lv' := [(2, .int (x2 + (1 : Int32))), (0, .ref (E.1 84)), (1, .int x1), (3, .int x3), (4, .int x4)]) dX13_cuts_124 rfl rfl (by decide) rfl ?_
  refine g_goto X (tgt := 31) dX13_cuts_127 (by decide) ?_
  refine g_sub (lv' := [(0, .ref (E.1 84)), (1, .int x1), (2, .int (x2 + (1 : Int32)))]) [1, 2, 0] rfl ?_
  exact h1 _ (Option.some.inj h).symm
set_option maxRecDepth 100000 in
set_option maxHeartbeats 4000000 in
theorem c_X13_cuts (l : Launch) (G : va_G) (E : EE)  (D : DD) (r : RT) (h : S_X13_cuts  D = some r) : MM l G E yX13_cuts cX13_cuts 5 none (rmm 0) [.ref (E.1 84)] D r := by
  unfold S_X13_cuts at h
  refine m_of rfl (Nat.le_of_ble_eq_true rfl) ?_
  intro p e s m args below meth c X hr
  exact run_G (T := T_X13_cuts) (HG := hg_X13_cuts p l e s m args below meth c G E r) (by
    intro k ls D o hT h1 h2
    unfold T_X13_cuts at hT
    split at hT
    · exact bl_X13_cuts_0 X hr  D o hT h1 h2
    · exact bl_X13_cuts_1 X hr _ D o hT h1 h2
    · exact bl_X13_cuts_2 X hr _ _ D o hT h1 h2
    · exact bl_X13_cuts_3 X hr _ _ _ _ D o hT h1 h2
    · cases hT) FUEL 0 [] D h
theorem hd_X13_cuts : yX13_cuts.cls ≠ "java/lang/invoke/MethodHandle" ∧ yX13_cuts.cls ≠ "java/lang/invoke/VarHandle" ∧ (parseMethodDescriptor yX13_cuts.desc).map (fun d => d.parameters.length) = some 0 := by decide +kernel
theorem wc_X13_cuts : Cond.code yX13_cuts cX13_cuts 5 none ∈ UT := ut 1680 (by decide +kernel) (by decide +kernel)
theorem we_X13_cuts : Cond.selects RX13 yX13_cuts yX13_cuts ∈ UT := ut 65 (by decide +kernel) (by decide +kernel)
theorem wm_X13_cuts : Cond.instanceMethod yX13_cuts ∈ UT := ut 1679 (by decide +kernel) (by decide +kernel)
theorem kv_X13_192 : GoodIn UT (wsV RX13 192 RX13 yX13_cuts (Cond.code yX13_cuts cX13_cuts 5 none :: UT)) := gu_V (ut 1677 (by decide +kernel) (by decide +kernel)) wm_X13_cuts we_X13_cuts wi_RX13 wc_X13_cuts
def S_X13_isBar (a0 : Int32) (D : DD) : Option RT := (cI (S_X13_isIn a0 (1 : Int32) (30 : Int32) D) (fun r3 D2 => (if r3 = 0 then (cV (S_X13_cuts (setI D2 140 (1 : Int32))) (fun D5 => (if (D5.1 140) = 0 then some (0, some (.int (1 : Int32)), D5) else some (0, some (.int (0 : Int32)), D5)))) else (cV (S_X13_cuts (setI D2 140 (0 : Int32))) (fun D8 => (if (D8.1 140) = 0 then some (0, some (.int (1 : Int32)), D8) else some (0, some (.int (0 : Int32)), D8)))))))
set_option maxRecDepth 100000 in
set_option maxHeartbeats 4000000 in
theorem c_X13_isBar (l : Launch) (G : va_G) (E : EE) (a0 : Int32) (D : DD) (r : RT) (h : S_X13_isBar a0 D = some r) : MM l G E yX13_isBar cX13_isBar 2 (some .boolean) (rmm 1) [.ref (E.1 84), .int a0] D r := by
  refine m_of rfl (Nat.le_of_ble_eq_true rfl) ?_
  intro p e s m args below meth c X hr
  unfold S_X13_isBar at h
  refine g_aload_n X 0 (i0 := 0) dX13_isBar_0 rfl rfl ?_
  refine g_iload_n X 1 (i0 := 1) dX13_isBar_1 rfl rfl ?_
  refine g_iconst X (v := (1 : Int32)) dX13_isBar_2 (by decide) ?_
  refine g_bipush X (v := (30 : Int32)) dX13_isBar_3 (by decide) ?_
  obtain ⟨r3, D2, e1, h⟩ := cI_s h
  refine g_S X (As := [.int a0, .int (1 : Int32), .int (30 : Int32)]) (rest := [.ref (E.1 84)]) (c_X13_isIn l G E a0 (1 : Int32) (30 : Int32) _ _ e1) ks_X13_69 ⟨rfl, rfl⟩ hd_X13_isIn (⟨Nat.le_of_ble_eq_true rfl, Nat.le_of_ble_eq_true rfl⟩) rfl rfl (Nat.le_of_ble_eq_true rfl) dX13_isBar_5 ?_
  refine g_if_eq X (tgt := 15) dX13_isBar_8 (by decide) (fun c10 => ?_) (fun c10 => ?_)
  · have h := (ite_s h).1 c10
    refine g_iconst X (v := (1 : Int32)) dX13_isBar_15 (by decide) ?_
    refine g_put X (D := D2) (v := .int (1 : Int32)) (T := TX13) (D' := (setI D2 140 (1 : Int32))) 84 uX13 tyX13 tyX13_ok nmX13 (wg_84 E _) rfl 0 (by decide) fl_X13_59 rfl rfl rfl rfl (Nat.le_of_ble_eq_true rfl) (ws_I_140 E _ _) dX13_isBar_16 ?_
    refine g_aload_n X 0 (i0 := 0) dX13_isBar_19 rfl rfl ?_
    obtain ⟨D5, e4, h⟩ := cV_s h
    refine g_V X (As := []) (rest := []) (c_X13_cuts l G E  _ _ e4) 84 (wg_84 E _) rfl rfl kv_X13_192 ⟨rfl, rfl⟩ ⟨rfl, hd_X13_cuts⟩ (⟨Nat.le_of_ble_eq_true rfl, Nat.le_of_ble_eq_true rfl⟩) rfl rfl (Nat.le_of_ble_eq_true rfl) dX13_isBar_20 ?_
    refine g_aload_n X 0 (i0 := 0) dX13_isBar_23 rfl rfl ?_
    refine g_get X (D := D5) (v := .int (D5.1 140)) (T := TX13) 84 uX13 (wg_84 E _) rfl 0 (by decide) fl_X13_59 rfl rfl dX13_isBar_24 ?_
    refine g_if_ne X (tgt := 34) dX13_isBar_27 (by decide) (fun c6 => ?_) (fun c6 => ?_)
    · have h := (ite_s h).2 c6
      refine g_iconst X (v := (0 : Int32)) dX13_isBar_34 (by decide) ?_
      exact g_iret X hr rfl dX13_isBar_35 (Option.some.inj h)
    · have h := (ite_s h).1 c6
      refine g_iconst X (v := (1 : Int32)) dX13_isBar_30 (by decide) ?_
      refine g_goto X (tgt := 35) dX13_isBar_31 (by decide) ?_
      exact g_iret X hr rfl dX13_isBar_35 (Option.some.inj h)
  · have h := (ite_s h).2 c10
    refine g_iconst X (v := (0 : Int32)) dX13_isBar_11 (by decide) ?_
    refine g_goto X (tgt := 16) dX13_isBar_12 (by decide) ?_
    refine g_put X (D := D2) (v := .int (0 : Int32)) (T := TX13) (D' := (setI D2 140 (0 : Int32))) 84 uX13 tyX13 tyX13_ok nmX13 (wg_84 E _) rfl 0 (by decide) fl_X13_59 rfl rfl rfl rfl (Nat.le_of_ble_eq_true rfl) (ws_I_140 E _ _) dX13_isBar_16 ?_
    refine g_aload_n X 0 (i0 := 0) dX13_isBar_19 rfl rfl ?_
    obtain ⟨D8, e7, h⟩ := cV_s h
    refine g_V X (As := []) (rest := []) (c_X13_cuts l G E  _ _ e7) 84 (wg_84 E _) rfl rfl kv_X13_192 ⟨rfl, rfl⟩ ⟨rfl, hd_X13_cuts⟩ (⟨Nat.le_of_ble_eq_true rfl, Nat.le_of_ble_eq_true rfl⟩) rfl rfl (Nat.le_of_ble_eq_true rfl) dX13_isBar_20 ?_
    refine g_aload_n X 0 (i0 := 0) dX13_isBar_23 rfl rfl ?_
    refine g_get X (D := D8) (v := .int (D8.1 140)) (T := TX13) 84 uX13 (wg_84 E _) rfl 0 (by decide) fl_X13_59 rfl rfl dX13_isBar_24 ?_
    refine g_if_ne X (tgt := 34) dX13_isBar_27 (by decide) (fun c9 => ?_) (fun c9 => ?_)
    · have h := (ite_s h).2 c9
      refine g_iconst X (v := (0 : Int32)) dX13_isBar_34 (by decide) ?_
      exact g_iret X hr rfl dX13_isBar_35 (Option.some.inj h)
    · have h := (ite_s h).1 c9
      refine g_iconst X (v := (1 : Int32)) dX13_isBar_30 (by decide) ?_
      refine g_goto X (tgt := 35) dX13_isBar_31 (by decide) ?_
      exact g_iret X hr rfl dX13_isBar_35 (Option.some.inj h)
theorem hd_X13_isBar : yX13_isBar.cls ≠ "java/lang/invoke/MethodHandle" ∧ yX13_isBar.cls ≠ "java/lang/invoke/VarHandle" ∧ (parseMethodDescriptor yX13_isBar.desc).map (fun d => d.parameters.length) = some 1 := by decide +kernel
theorem wc_X13_isBar : Cond.code yX13_isBar cX13_isBar 2 (some .boolean) ∈ UT := ut 1676 (by decide +kernel) (by decide +kernel)
theorem we_X13_isBar : Cond.selects RX13 yX13_isBar yX13_isBar ∈ UT := ut 64 (by decide +kernel) (by decide +kernel)
theorem wm_X13_isBar : Cond.instanceMethod yX13_isBar ∈ UT := ut 1675 (by decide +kernel) (by decide +kernel)
theorem kv_X13_195 : GoodIn UT (wsV RX13 195 RX13 yX13_isBar (Cond.code yX13_isBar cX13_isBar 2 (some .boolean) :: UT)) := gu_V (ut 1673 (by decide +kernel) (by decide +kernel)) wm_X13_isBar we_X13_isBar wi_RX13 wc_X13_isBar
def S_X13_bestCut (a0 : Int32) (D : DD) : Option RT := (cI (S_X13_isBar a0 D) (fun r3 D2 => (if r3 = 0 then some (0, some (.int (0 : Int32)), D2) else (if inB a0 31 = true then some (0, some (.int ((D2.2.2.1 77) a0.toNatClampNeg)), D2) else none))))
set_option maxRecDepth 100000 in
set_option maxHeartbeats 4000000 in
theorem c_X13_bestCut (l : Launch) (G : va_G) (E : EE) (a0 : Int32) (D : DD) (r : RT) (h : S_X13_bestCut a0 D = some r) : MM l G E yX13_bestCut cX13_bestCut 2 (some .int) (rmm 2) [.ref (E.1 84), .int a0] D r := by
  refine m_of rfl (Nat.le_of_ble_eq_true rfl) ?_
  intro p e s m args below meth c X hr
  unfold S_X13_bestCut at h
  refine g_aload_n X 0 (i0 := 0) dX13_bestCut_0 rfl rfl ?_
  refine g_iload_n X 1 (i0 := 1) dX13_bestCut_1 rfl rfl ?_
  obtain ⟨r3, D2, e1, h⟩ := cI_s h
  refine g_V X (As := [.int a0]) (rest := []) (c_X13_isBar l G E a0 _ _ e1) 84 (wg_84 E _) rfl rfl kv_X13_195 ⟨rfl, rfl⟩ ⟨rfl, hd_X13_isBar⟩ (⟨Nat.le_of_ble_eq_true rfl, Nat.le_of_ble_eq_true rfl⟩) rfl rfl (Nat.le_of_ble_eq_true rfl) dX13_bestCut_2 ?_
  refine g_if_eq X (tgt := 17) dX13_bestCut_5 (by decide) (fun c5 => ?_) (fun c5 => ?_)
  · have h := (ite_s h).1 c5
    refine g_iconst X (v := (0 : Int32)) dX13_bestCut_17 (by decide) ?_
    exact g_iret X hr rfl dX13_bestCut_18 (Option.some.inj h)
  · have h := (ite_s h).2 c5
    refine g_aload_n X 0 (i0 := 0) dX13_bestCut_8 rfl rfl ?_
    refine g_get X (D := D2) (v := .ref (E.1 92)) (T := TX13) 84 uX13 (wg_84 E _) rfl 12 (by decide) fl_X13_38 rfl rfl dX13_bestCut_9 ?_
    refine g_iload_n X 1 (i0 := 1) dX13_bestCut_12 rfl rfl ?_
    obtain ⟨b4, h⟩ := chk_s h
    refine g_iald X (D := D2) (f := (D2.2.2.1 77)) (i := a0) 92 (wg_92 E _) (inB_vp b4) dX13_bestCut_13 ?_
    refine g_goto X (tgt := 18) dX13_bestCut_14 (by decide) ?_
    exact g_iret X hr rfl dX13_bestCut_18 (Option.some.inj h)
