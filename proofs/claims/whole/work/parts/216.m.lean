def b_X4_commonStart_text_S6_0  (D : DD) : Option ((Nat × List Int32 × DD) ⊕ RT) := some (.inl (1, [(0 : Int32)], D))
def b_X4_commonStart_text_S6_1 (x2 : Int32) (D : DD) : Option ((Nat × List Int32 × DD) ⊕ RT) := (cI (S_J0_length_8abf5_S6 D) (fun r3 D2 => (if r3 ≤ x2 then (cI (S_J0_length_8abf5_S6 D2) (fun r6 D5 => some (.inr (0, some (.int r6), D5)))) else (cI (S_J0_charAt_5068e_S6 x2 D2) (fun r9 D8 => (cI (S_X4_signIs ((D2.1 130) + x2) r9 D8) (fun r12 D11 => (if r12 = 0 then some (.inr (0, some (.int x2), D11)) else some (.inl (1, [(x2 + (1 : Int32))], D11))))))))))
def T_X4_commonStart_text_S6 (k : Nat) (ls : List Int32) (D : DD) : Option ((Nat × List Int32 × DD) ⊕ RT) := match k, ls with
  | 0, [] => b_X4_commonStart_text_S6_0  D
  | 1, [x2] => b_X4_commonStart_text_S6_1 x2 D
  | _, _ => none
def S_X4_commonStart_text_S6  (D : DD) : Option RT := run T_X4_commonStart_text_S6 FUEL 0 [] D
def hg_X4_commonStart_text_S6 (p : Program) (l : Launch) (e : Env) (s : State) (m : MethodId) (args : Array Value) (below : List Frame) (meth : Method) (c : Code) (G : va_G) (E : EE) (r : RT) (k : Nat) (ls : List Int32) (D : DD) : Prop := match k, ls with
  | 0, [] => GW p l e (rmm 5) s m args below meth c G E 3 (MQ below (QR G E s.heap.size r) args s 0 0 (fr E s.heap.size)) 0 0 D 0 [(0, .ref (E.1 80)), (1, .ref (E.1 1016))] []
  | 1, [x2] => GW p l e (rmm 5) s m args below meth c G E 3 (MQ below (QR G E s.heap.size r) args s 0 0 (fr E s.heap.size)) 0 0 D 2 [(0, .ref (E.1 80)), (1, .ref (E.1 1016)), (2, .int x2)] []
  | _, _ => True
set_option maxRecDepth 100000 in
set_option maxHeartbeats 4000000 in
theorem bl_X4_commonStart_text_S6_0 {p : Program} {l : Launch} {e : Env} {s : State} {m : MethodId} {args : Array Value} {below : List Frame} {meth : Method} {c : Code} {G : va_G} {E : EE} {r : RT} (X : CX p s m args meth c cX4_commonStart RX4 3 G E) (hr : meth.sig.returnType = (some .int))  (D : DD) (o : (Nat × List Int32 × DD) ⊕ RT) (h : b_X4_commonStart_text_S6_0  D = some o) (h1 : ∀ x, o = .inl x → hg_X4_commonStart_text_S6 p l e s m args below meth c G E r x.1 x.2.1 x.2.2) (h2 : ∀ x, o = .inr x → x = r) : GW p l e (rmm 5) s m args below meth c G E 3 (MQ below (QR G E s.heap.size r) args s 0 0 (fr E s.heap.size)) 0 0 D 0 [(0, .ref (E.1 80)), (1, .ref (E.1 1016))] [] := by
  unfold b_X4_commonStart_text_S6_0 at h
  refine g_iconst X (v := (0 : Int32)) dX4_commonStart_0 (by decide) ?_
  refine g_istore_n X (i0 := 2) (lv' := [(2, .int (0 : Int32)), (0, .ref (E.1 80)), (1, .ref (E.1 1016))]) dX4_commonStart_1 rfl (by decide) rfl ?_
  refine g_sub (lv' := [(0, .ref (E.1 80)), (1, .ref (E.1 1016)), (2, .int (0 : Int32))]) [1, 2, 0] rfl ?_
  exact h1 _ (Option.some.inj h).symm
set_option maxRecDepth 100000 in
set_option maxHeartbeats 4000000 in
theorem bl_X4_commonStart_text_S6_1 {p : Program} {l : Launch} {e : Env} {s : State} {m : MethodId} {args : Array Value} {below : List Frame} {meth : Method} {c : Code} {G : va_G} {E : EE} {r : RT} (X : CX p s m args meth c cX4_commonStart RX4 3 G E) (hr : meth.sig.returnType = (some .int)) (x2 : Int32) (D : DD) (o : (Nat × List Int32 × DD) ⊕ RT) (h : b_X4_commonStart_text_S6_1 x2 D = some o) (h1 : ∀ x, o = .inl x → hg_X4_commonStart_text_S6 p l e s m args below meth c G E r x.1 x.2.1 x.2.2) (h2 : ∀ x, o = .inr x → x = r) : GW p l e (rmm 5) s m args below meth c G E 3 (MQ below (QR G E s.heap.size r) args s 0 0 (fr E s.heap.size)) 0 0 D 2 [(0, .ref (E.1 80)), (1, .ref (E.1 1016)), (2, .int x2)] [] := by
  unfold b_X4_commonStart_text_S6_1 at h
  refine g_iload_n X 2 (i0 := 2) dX4_commonStart_2 rfl rfl ?_
  refine g_aload_n X 1 (i0 := 1) dX4_commonStart_3 rfl rfl ?_
  obtain ⟨r3, D2, e1, h⟩ := cI_s h
  refine g_VK X (As := []) (rest := [.int x2]) (X.2.2.2.2.2.2.2.2.2.2.2.1 6 (by decide)).1 (c_J0_length_8abf5_S6 l G E  _ _ e1) kv_X4_71 ⟨rfl, rfl⟩ ⟨rfl, hd_J0_length_8abf5⟩ (⟨Nat.le_of_ble_eq_true rfl, Nat.le_of_ble_eq_true rfl⟩) rfl rfl (Nat.le_of_ble_eq_true rfl) dX4_commonStart_4 ?_
  refine g_icmp_ge X (tgt := 36) dX4_commonStart_7 (by decide) (fun c14 => ?_) (fun c14 => ?_)
  · have h := (ite_s h).1 c14
    refine g_aload_n X 1 (i0 := 1) dX4_commonStart_36 rfl rfl ?_
    obtain ⟨r6, D5, e4, h⟩ := cI_s h
    refine g_VK X (As := []) (rest := []) (X.2.2.2.2.2.2.2.2.2.2.2.1 6 (by decide)).1 (c_J0_length_8abf5_S6 l G E  _ _ e4) kv_X4_71 ⟨rfl, rfl⟩ ⟨rfl, hd_J0_length_8abf5⟩ (⟨Nat.le_of_ble_eq_true rfl, Nat.le_of_ble_eq_true rfl⟩) rfl rfl (Nat.le_of_ble_eq_true rfl) dX4_commonStart_37 ?_
    exact g_iret X hr rfl dX4_commonStart_40 (h2 _ (Option.some.inj h).symm)
  · have h := (ite_s h).2 c14
    refine g_aload_n X 0 (i0 := 0) dX4_commonStart_10 rfl rfl ?_
    refine g_aload_n X 0 (i0 := 0) dX4_commonStart_11 rfl rfl ?_
    refine g_get X (D := D2) (v := .int (D2.1 130)) (T := TX4) 80 uX4 (wg_80 E _) rfl 4 (by decide) fl_X4_33 rfl rfl dX4_commonStart_12 ?_
    refine g_iload_n X 2 (i0 := 2) dX4_commonStart_15 rfl rfl ?_
    refine g_iadd X dX4_commonStart_16 ?_
    refine g_aload_n X 1 (i0 := 1) dX4_commonStart_17 rfl rfl ?_
    refine g_iload_n X 2 (i0 := 2) dX4_commonStart_18 rfl rfl ?_
    obtain ⟨r9, D8, e7, h⟩ := cI_s h
    refine g_VK X (As := [.int x2]) (rest := [.int ((D2.1 130) + x2), .ref (E.1 80)]) (X.2.2.2.2.2.2.2.2.2.2.2.1 6 (by decide)).1 (c_J0_charAt_5068e_S6 l G E x2 _ _ e7) kv_X4_82 ⟨rfl, rfl⟩ ⟨rfl, hd_J0_charAt_5068e⟩ (⟨Nat.le_of_ble_eq_true rfl, Nat.le_of_ble_eq_true rfl⟩) rfl rfl (Nat.le_of_ble_eq_true rfl) dX4_commonStart_19 ?_
    obtain ⟨r12, D11, e10, h⟩ := cI_s h
    refine g_V X (As := [.int ((D2.1 130) + x2), .int r9]) (rest := []) (c_X4_signIs l G E ((D2.1 130) + x2) r9 _ _ e10) 80 (wg_80 E _) rfl rfl kv_X4_86 ⟨rfl, rfl⟩ ⟨rfl, hd_X4_signIs⟩ (⟨Nat.le_of_ble_eq_true rfl, Nat.le_of_ble_eq_true rfl⟩) rfl rfl (Nat.le_of_ble_eq_true rfl) dX4_commonStart_22 ?_
    refine g_if_ne X (tgt := 30) dX4_commonStart_25 (by decide) (fun c13 => ?_) (fun c13 => ?_)
    · have h := (ite_s h).2 c13
      refine g_iinc X 2 (v := (x2 + (1 : Int32))) (lv' := [(2, .int (x2 + (1 : Int32))), (0, .ref (E.1 80)), (1, .ref (E.1 1016))]) dX4_commonStart_30 rfl rfl (by decide) rfl ?_
      refine g_goto X (tgt := 2) dX4_commonStart_33 (by decide) ?_
      refine g_sub (lv' := [(0, .ref (E.1 80)), (1, .ref (E.1 1016)), (2, .int (x2 + (1 : Int32)))]) [1, 2, 0] rfl ?_
      exact h1 _ (Option.some.inj h).symm
    · have h := (ite_s h).1 c13
      refine g_iload_n X 2 (i0 := 2) dX4_commonStart_28 rfl rfl ?_
      exact g_iret X hr rfl dX4_commonStart_29 (h2 _ (Option.some.inj h).symm)
set_option maxRecDepth 100000 in
set_option maxHeartbeats 4000000 in
theorem c_X4_commonStart_text_S6 (l : Launch) (G : va_G) (E : EE)  (D : DD) (r : RT) (h : S_X4_commonStart_text_S6  D = some r) : MM l G E yX4_commonStart cX4_commonStart 3 (some .int) (rmm 5) [.ref (E.1 80), .ref (E.1 1016)] D r := by
  unfold S_X4_commonStart_text_S6 at h
  refine m_of rfl (Nat.le_of_ble_eq_true rfl) ?_
  intro p e s m args below meth c X hr
  exact run_G (T := T_X4_commonStart_text_S6) (HG := hg_X4_commonStart_text_S6 p l e s m args below meth c G E r) (by
    intro k ls D o hT h1 h2
    unfold T_X4_commonStart_text_S6 at hT
    split at hT
    · exact bl_X4_commonStart_text_S6_0 X hr  D o hT h1 h2
    · exact bl_X4_commonStart_text_S6_1 X hr _ D o hT h1 h2
    · cases hT) FUEL 0 [] D h
theorem fl_X4_60 : Cond.fieldLink RX4 60 "StoneQuarry$CommandText" "COMMANDS" "[LStoneQuarry$Command;" ∈ UT := ut 1203 (by decide +kernel) (by decide +kernel)
theorem fl_X4_63 : Cond.fieldLink RX4 63 "StoneQuarry$Command" "word" "Ljava/lang/String;" ∈ UT := ut 1821 (by decide +kernel) (by decide +kernel)
theorem hd_X4_commonStart : yX4_commonStart.cls ≠ "java/lang/invoke/MethodHandle" ∧ yX4_commonStart.cls ≠ "java/lang/invoke/VarHandle" ∧ (parseMethodDescriptor yX4_commonStart.desc).map (fun d => d.parameters.length) = some 1 := by decide +kernel
theorem wc_X4_commonStart : Cond.code yX4_commonStart cX4_commonStart 3 (some .int) ∈ UT := ut 1208 (by decide +kernel) (by decide +kernel)
theorem we_X4_commonStart : Cond.selects RX4 yX4_commonStart yX4_commonStart ∈ UT := ut 30 (by decide +kernel) (by decide +kernel)
theorem wm_X4_commonStart : Cond.instanceMethod yX4_commonStart ∈ UT := ut 1207 (by decide +kernel) (by decide +kernel)
theorem kv_X4_67 : GoodIn UT (wsV RX4 67 RX4 yX4_commonStart (Cond.code yX4_commonStart cX4_commonStart 3 (some .int) :: UT)) := gu_V (ut 1205 (by decide +kernel) (by decide +kernel)) wm_X4_commonStart we_X4_commonStart wi_RX4 wc_X4_commonStart
theorem wl_X4_76 : Cond.methodLink RX4 76 Lib.Math.max.name ∈ UT := ut 1261 (by decide +kernel) (by decide +kernel)
def b_X4_readWord_0  (D : DD) : Option ((Nat × List Int32 × DD) ⊕ RT) := some (.inl (1, [(0 : Int32), (7 : Int32), (0 : Int32)], D))
def b_X4_readWord_1 (x1 : Int32) (x3 : Int32) (x4 : Int32) (D : DD) : Option ((Nat × List Int32 × DD) ⊕ RT) := (if x3 ≤ x4 then some (.inr (0, some .null, (setI D 130 ((D.1 130) + x1)))) else (if x4 = (0 : Int32) then (cI (S_X4_commonStart_text_S0 D) (fun r4 D3 => (cI (S_J0_length_8abf5_S0 D3) (fun r7 D6 => (if r4 = r7 then some (.inr (0, some (.ref 1000), (setI D6 130 ((D6.1 130) + r4)))) else some (.inl (1, [(if x1 < r4 then r4 else x1), x3, (x4 + (1 : Int32))], D6))))))) else (if x4 = (1 : Int32) then (cI (S_X4_commonStart_text_S1 D) (fun r12 D11 => (cI (S_J0_length_8abf5_S1 D11) (fun r15 D14 => (if r12 = r15 then some (.inr (0, some (.ref 1001), (setI D14 130 ((D14.1 130) + r12)))) else some (.inl (1, [(if x1 < r12 then r12 else x1), x3, (x4 + (1 : Int32))], D14))))))) else (if x4 = (2 : Int32) then (cI (S_X4_commonStart_text_S2 D) (fun r20 D19 => (cI (S_J0_length_8abf5_S2 D19) (fun r23 D22 => (if r20 = r23 then some (.inr (0, some (.ref 1002), (setI D22 130 ((D22.1 130) + r20)))) else some (.inl (1, [(if x1 < r20 then r20 else x1), x3, (x4 + (1 : Int32))], D22))))))) else (if x4 = (3 : Int32) then (cI (S_X4_commonStart_text_S3 D) (fun r28 D27 => (cI (S_J0_length_8abf5_S3 D27) (fun r31 D30 => (if r28 = r31 then some (.inr (0, some (.ref 1003), (setI D30 130 ((D30.1 130) + r28)))) else some (.inl (1, [(if x1 < r28 then r28 else x1), x3, (x4 + (1 : Int32))], D30))))))) else (if x4 = (4 : Int32) then (cI (S_X4_commonStart_text_S4 D) (fun r36 D35 => (cI (S_J0_length_8abf5_S4 D35) (fun r39 D38 => (if r36 = r39 then some (.inr (0, some (.ref 1004), (setI D38 130 ((D38.1 130) + r36)))) else some (.inl (1, [(if x1 < r36 then r36 else x1), x3, (x4 + (1 : Int32))], D38))))))) else (if x4 = (5 : Int32) then (cI (S_X4_commonStart_text_S5 D) (fun r44 D43 => (cI (S_J0_length_8abf5_S5 D43) (fun r47 D46 => (if r44 = r47 then some (.inr (0, some (.ref 1005), (setI D46 130 ((D46.1 130) + r44)))) else some (.inl (1, [(if x1 < r44 then r44 else x1), x3, (x4 + (1 : Int32))], D46))))))) else (if x4 = (6 : Int32) then (cI (S_X4_commonStart_text_S6 D) (fun r52 D51 => (cI (S_J0_length_8abf5_S6 D51) (fun r55 D54 => (if r52 = r55 then some (.inr (0, some (.ref 1006), (setI D54 130 ((D54.1 130) + r52)))) else some (.inl (1, [(if x1 < r52 then r52 else x1), x3, (x4 + (1 : Int32))], D54))))))) else none))))))))
def T_X4_readWord (k : Nat) (ls : List Int32) (D : DD) : Option ((Nat × List Int32 × DD) ⊕ RT) := match k, ls with
  | 0, [] => b_X4_readWord_0  D
  | 1, [x1, x3, x4] => b_X4_readWord_1 x1 x3 x4 D
  | _, _ => none
def S_X4_readWord  (D : DD) : Option RT := run T_X4_readWord FUEL 0 [] D
def hg_X4_readWord (p : Program) (l : Launch) (e : Env) (s : State) (m : MethodId) (args : Array Value) (below : List Frame) (meth : Method) (c : Code) (G : va_G) (E : EE) (r : RT) (k : Nat) (ls : List Int32) (D : DD) : Prop := match k, ls with
  | 0, [] => GW p l e (rmm 6) s m args below meth c G E 7 (MQ below (QR G E s.heap.size r) args s 0 0 (fr E s.heap.size)) 0 0 D 0 [(0, .ref (E.1 80))] []
  | 1, [x1, x3, x4] => GW p l e (rmm 6) s m args below meth c G E 7 (MQ below (QR G E s.heap.size r) args s 0 0 (fr E s.heap.size)) 0 0 D 12 [(0, .ref (E.1 80)), (1, .int x1), (2, .ref (E.1 1020)), (3, .int x3), (4, .int x4)] []
  | _, _ => True
set_option maxRecDepth 100000 in
set_option maxHeartbeats 4000000 in
theorem bl_X4_readWord_0 {p : Program} {l : Launch} {e : Env} {s : State} {m : MethodId} {args : Array Value} {below : List Frame} {meth : Method} {c : Code} {G : va_G} {E : EE} {r : RT} (X : CX p s m args meth c cX4_readWord RX4 7 G E) (hr : meth.sig.returnType = (some (.object "StoneQuarry$Command")))  (D : DD) (o : (Nat × List Int32 × DD) ⊕ RT) (h : b_X4_readWord_0  D = some o) (h1 : ∀ x, o = .inl x → hg_X4_readWord p l e s m args below meth c G E r x.1 x.2.1 x.2.2) (h2 : ∀ x, o = .inr x → x = r) : GW p l e (rmm 6) s m args below meth c G E 7 (MQ below (QR G E s.heap.size r) args s 0 0 (fr E s.heap.size)) 0 0 D 0 [(0, .ref (E.1 80))] [] := by
  unfold b_X4_readWord_0 at h
  refine g_iconst X (v := (0 : Int32)) dX4_readWord_0 (by decide) ?_
  refine g_istore_n X (i0 := 1) (lv' := [(1, .int (0 : Int32)), (0, .ref (E.1 80))]) dX4_readWord_1 rfl (by decide) rfl ?_
  refine g_gets X (v := .ref (E.1 1020)) X.2.2.2.2.2.2.2.1 fl_X4_60 dX4_readWord_2 ?_
  refine g_astore_n X (i0 := 2) (lv' := [(2, .ref (E.1 1020)), (1, .int (0 : Int32)), (0, .ref (E.1 80))]) dX4_readWord_5 rfl (by decide) rfl ?_
  refine g_aload_n X 0 (i0 := 2) dX4_readWord_6 rfl rfl ?_
  refine g_tlen X X.2.2.2.2.2.2.2.2.1 (v := (7 : Int32)) (by decide) dX4_readWord_7 ?_
  refine g_istore_n X (i0 := 3) (lv' := [(3, .int (7 : Int32)), (2, .ref (E.1 1020)), (1, .int (0 : Int32)), (0, .ref (E.1 80))]) dX4_readWord_8 rfl (by decide) rfl ?_
  refine g_iconst X (v := (0 : Int32)) dX4_readWord_9 (by decide) ?_
  refine g_istore X (lv' := [(4, .int (0 : Int32)), (3, .int (7 : Int32)), (2, .ref (E.1 1020)), (1, .int (0 : Int32)), (0, .ref (E.1 80))]) dX4_readWord_10 (by decide) rfl ?_
  refine g_sub (lv' := [(0, .ref (E.1 80)), (1, .int (0 : Int32)), (2, .ref (E.1 1020)), (3, .int (7 : Int32)), (4, .int (0 : Int32))]) [4, 3, 2, 1, 0] rfl ?_
  exact h1 _ (Option.some.inj h).symm
set_option maxRecDepth 100000 in
set_option maxHeartbeats 4000000 in
theorem bl_X4_readWord_1 {p : Program} {l : Launch} {e : Env} {s : State} {m : MethodId} {args : Array Value} {below : List Frame} {meth : Method} {c : Code} {G : va_G} {E : EE} {r : RT} (X : CX p s m args meth c cX4_readWord RX4 7 G E) (hr : meth.sig.returnType = (some (.object "StoneQuarry$Command"))) (x1 : Int32) (x3 : Int32) (x4 : Int32) (D : DD) (o : (Nat × List Int32 × DD) ⊕ RT) (h : b_X4_readWord_1 x1 x3 x4 D = some o) (h1 : ∀ x, o = .inl x → hg_X4_readWord p l e s m args below meth c G E r x.1 x.2.1 x.2.2) (h2 : ∀ x, o = .inr x → x = r) : GW p l e (rmm 6) s m args below meth c G E 7 (MQ below (QR G E s.heap.size r) args s 0 0 (fr E s.heap.size)) 0 0 D 12 [(0, .ref (E.1 80)), (1, .int x1), (2, .ref (E.1 1020)), (3, .int x3), (4, .int x4)] [] := by
  unfold b_X4_readWord_1 at h
  refine g_iload X 4 dX4_readWord_12 rfl ?_
  refine g_iload_n X 3 (i0 := 3) dX4_readWord_14 rfl rfl ?_
  refine g_icmp_ge X (tgt := 75) dX4_readWord_15 (by decide) (fun c57 => ?_) (fun c57 => ?_)
  · have h := (ite_s h).1 c57
    refine g_aload_n X 0 (i0 := 0) dX4_readWord_75 rfl rfl ?_
    refine g_dup X dX4_readWord_76 rfl ?_
    refine g_get X (D := D) (v := .int (D.1 130)) (T := TX4) 80 uX4 (wg_80 E _) rfl 4 (by decide) fl_X4_33 rfl rfl dX4_readWord_77 ?_
    refine g_iload_n X 1 (i0 := 1) dX4_readWord_80 rfl rfl ?_
    refine g_iadd X dX4_readWord_81 ?_
    refine g_put X (D := D) (v := .int ((D.1 130) + x1)) (T := TX4) (D' := (setI D 130 ((D.1 130) + x1))) 80 uX4 tyX4 tyX4_ok nmX4 (wg_80 E _) rfl 4 (by decide) fl_X4_33 rfl rfl rfl rfl (Nat.le_of_ble_eq_true rfl) (ws_I_130 E _ _) dX4_readWord_82 ?_
    refine g_null X dX4_readWord_85 ?_
    exact g_aretN X hr dX4_readWord_86 (h2 _ (Option.some.inj h).symm)
  · have h := (ite_s h).2 c57
    refine g_aload_n X 2 (i0 := 2) dX4_readWord_18 rfl rfl ?_
    refine g_iload X 4 dX4_readWord_19 rfl ?_
    by_cases w1 : x4 = (0 : Int32)
    · have h := (ite_s h).1 w1
      refine g_tq X X.2.2.2.2.2.2.2.2.1 (i := x4) (v := .ref (E.1 1000)) (by rw [w1]; exact inB_vp (by decide)) (by rw [w1]; rfl) dX4_readWord_21 ?_
      refine g_astore X (lv' := [(5, .ref (E.1 1000)), (0, .ref (E.1 80)), (1, .int x1), (2, .ref (E.1 1020)), (3, .int x3), (4, .int x4)]) dX4_readWord_22 (by decide) rfl ?_
      refine g_aload_n X 1 (i0 := 0) dX4_readWord_24 rfl rfl ?_
      refine g_aload X 0 dX4_readWord_25 rfl ?_
      refine g_getK X (v := .ref (E.1 1010)) (X.2.2.2.2.2.2.1 0 (by decide)).2.2.2.2 fl_X4_63 dX4_readWord_27 ?_
      obtain ⟨r4, D3, e2, h⟩ := cI_s h
      refine g_V X (As := [.ref (E.1 1010)]) (rest := []) (c_X4_commonStart_text_S0 l G E  _ _ e2) 80 (wg_80 E _) rfl rfl kv_X4_67 ⟨rfl, rfl⟩ ⟨rfl, hd_X4_commonStart⟩ (⟨Nat.le_of_ble_eq_true rfl, Nat.le_of_ble_eq_true rfl⟩) rfl rfl (Nat.le_of_ble_eq_true rfl) dX4_readWord_30 ?_
      refine g_istore X (lv' := [(6, .int r4), (5, .ref (E.1 1000)), (0, .ref (E.1 80)), (1, .int x1), (2, .ref (E.1 1020)), (3, .int x3), (4, .int x4)]) dX4_readWord_33 (by decide) rfl ?_
      refine g_iload X 0 dX4_readWord_35 rfl ?_
      refine g_aload X 1 dX4_readWord_37 rfl ?_
      refine g_getK X (v := .ref (E.1 1010)) (X.2.2.2.2.2.2.1 0 (by decide)).2.2.2.2 fl_X4_63 dX4_readWord_39 ?_
      obtain ⟨r7, D6, e5, h⟩ := cI_s h
      refine g_VK X (As := []) (rest := [.int r4]) (X.2.2.2.2.2.2.2.2.2.2.2.1 0 (by decide)).1 (c_J0_length_8abf5_S0 l G E  _ _ e5) kv_X4_71 ⟨rfl, rfl⟩ ⟨rfl, hd_J0_length_8abf5⟩ (⟨Nat.le_of_ble_eq_true rfl, Nat.le_of_ble_eq_true rfl⟩) rfl rfl (Nat.le_of_ble_eq_true rfl) dX4_readWord_42 ?_
      refine g_icmp_ne X (tgt := 62) dX4_readWord_45 (by decide) (fun c8 => ?_) (fun c8 => ?_)
      · have h := (ite_s h).2 c8
        refine g_iload_n X 3 (i0 := 1) dX4_readWord_62 rfl rfl ?_
        refine g_iload X 0 dX4_readWord_63 rfl ?_
        refine g_max X wl_X4_76 wm_max wi_math wc_max (Nat.le_of_ble_eq_true rfl) (Nat.le_of_ble_eq_true rfl) dX4_readWord_65 ?_
        refine g_istore_n X (i0 := 1) (lv' := [(1, .int (if x1 < r4 then r4 else x1)), (6, .int r4), (5, .ref (E.1 1000)), (0, .ref (E.1 80)), (2, .ref (E.1 1020)), (3, .int x3), (4, .int x4)]) dX4_readWord_68 rfl (by decide) rfl ?_
        refine g_iinc X 6 (v := (x4 + (1 : Int32))) (lv' := [(4, .int (x4 + (1 : Int32))), (1, .int (if x1 < r4 then r4 else x1)), (6, .int r4), (5, .ref (E.1 1000)), (0, .ref (E.1 80)), (2, .ref (E.1 1020)), (3, .int x3)]) dX4_readWord_69 rfl rfl (by decide) rfl ?_
        refine g_goto X (tgt := 12) dX4_readWord_72 (by decide) ?_
        refine g_sub (lv' := [(0, .ref (E.1 80)), (1, .int (if x1 < r4 then r4 else x1)), (2, .ref (E.1 1020)), (3, .int x3), (4, .int (x4 + (1 : Int32)))]) [4, 1, 5, 6, 0] rfl ?_
        exact h1 _ (Option.some.inj h).symm
      · have h := (ite_s h).1 c8
        refine g_aload_n X 2 (i0 := 0) dX4_readWord_48 rfl rfl ?_
        refine g_dup X dX4_readWord_49 rfl ?_
        refine g_get X (D := D6) (v := .int (D6.1 130)) (T := TX4) 80 uX4 (wg_80 E _) rfl 4 (by decide) fl_X4_33 rfl rfl dX4_readWord_50 ?_
        refine g_iload X 0 dX4_readWord_53 rfl ?_
        refine g_iadd X dX4_readWord_55 ?_
        refine g_put X (D := D6) (v := .int ((D6.1 130) + r4)) (T := TX4) (D' := (setI D6 130 ((D6.1 130) + r4))) 80 uX4 tyX4 tyX4_ok nmX4 (wg_80 E _) rfl 4 (by decide) fl_X4_33 rfl rfl rfl rfl (Nat.le_of_ble_eq_true rfl) (ws_I_130 E _ _) dX4_readWord_56 ?_
        refine g_aload X 1 dX4_readWord_59 rfl ?_
        exact g_aret X (q := 1000) hr dX4_readWord_61 (h2 _ (Option.some.inj h).symm)
    have h := (ite_s h).2 w1
    by_cases w9 : x4 = (1 : Int32)
    · have h := (ite_s h).1 w9
      refine g_tq X X.2.2.2.2.2.2.2.2.1 (i := x4) (v := .ref (E.1 1001)) (by rw [w9]; exact inB_vp (by decide)) (by rw [w9]; rfl) dX4_readWord_21 ?_
      refine g_astore X (lv' := [(5, .ref (E.1 1001)), (0, .ref (E.1 80)), (1, .int x1), (2, .ref (E.1 1020)), (3, .int x3), (4, .int x4)]) dX4_readWord_22 (by decide) rfl ?_
      refine g_aload_n X 1 (i0 := 0) dX4_readWord_24 rfl rfl ?_
      refine g_aload X 0 dX4_readWord_25 rfl ?_
      refine g_getK X (v := .ref (E.1 1011)) (X.2.2.2.2.2.2.1 1 (by decide)).2.2.2.2 fl_X4_63 dX4_readWord_27 ?_
      obtain ⟨r12, D11, e10, h⟩ := cI_s h
      refine g_V X (As := [.ref (E.1 1011)]) (rest := []) (c_X4_commonStart_text_S1 l G E  _ _ e10) 80 (wg_80 E _) rfl rfl kv_X4_67 ⟨rfl, rfl⟩ ⟨rfl, hd_X4_commonStart⟩ (⟨Nat.le_of_ble_eq_true rfl, Nat.le_of_ble_eq_true rfl⟩) rfl rfl (Nat.le_of_ble_eq_true rfl) dX4_readWord_30 ?_
      refine g_istore X (lv' := [(6, .int r12), (5, .ref (E.1 1001)), (0, .ref (E.1 80)), (1, .int x1), (2, .ref (E.1 1020)), (3, .int x3), (4, .int x4)]) dX4_readWord_33 (by decide) rfl ?_
      refine g_iload X 0 dX4_readWord_35 rfl ?_
      refine g_aload X 1 dX4_readWord_37 rfl ?_
      refine g_getK X (v := .ref (E.1 1011)) (X.2.2.2.2.2.2.1 1 (by decide)).2.2.2.2 fl_X4_63 dX4_readWord_39 ?_
      obtain ⟨r15, D14, e13, h⟩ := cI_s h
      refine g_VK X (As := []) (rest := [.int r12]) (X.2.2.2.2.2.2.2.2.2.2.2.1 1 (by decide)).1 (c_J0_length_8abf5_S1 l G E  _ _ e13) kv_X4_71 ⟨rfl, rfl⟩ ⟨rfl, hd_J0_length_8abf5⟩ (⟨Nat.le_of_ble_eq_true rfl, Nat.le_of_ble_eq_true rfl⟩) rfl rfl (Nat.le_of_ble_eq_true rfl) dX4_readWord_42 ?_
      refine g_icmp_ne X (tgt := 62) dX4_readWord_45 (by decide) (fun c16 => ?_) (fun c16 => ?_)
      · have h := (ite_s h).2 c16
        refine g_iload_n X 3 (i0 := 1) dX4_readWord_62 rfl rfl ?_
        refine g_iload X 0 dX4_readWord_63 rfl ?_
        refine g_max X wl_X4_76 wm_max wi_math wc_max (Nat.le_of_ble_eq_true rfl) (Nat.le_of_ble_eq_true rfl) dX4_readWord_65 ?_
        refine g_istore_n X (i0 := 1) (lv' := [(1, .int (if x1 < r12 then r12 else x1)), (6, .int r12), (5, .ref (E.1 1001)), (0, .ref (E.1 80)), (2, .ref (E.1 1020)), (3, .int x3), (4, .int x4)]) dX4_readWord_68 rfl (by decide) rfl ?_
        refine g_iinc X 6 (v := (x4 + (1 : Int32))) (lv' := [(4, .int (x4 + (1 : Int32))), (1, .int (if x1 < r12 then r12 else x1)), (6, .int r12), (5, .ref (E.1 1001)), (0, .ref (E.1 80)), (2, .ref (E.1 1020)), (3, .int x3)]) dX4_readWord_69 rfl rfl (by decide) rfl ?_
        refine g_goto X (tgt := 12) dX4_readWord_72 (by decide) ?_
        refine g_sub (lv' := [(0, .ref (E.1 80)), (1, .int (if x1 < r12 then r12 else x1)), (2, .ref (E.1 1020)), (3, .int x3), (4, .int (x4 + (1 : Int32)))]) [4, 1, 5, 6, 0] rfl ?_
        exact h1 _ (Option.some.inj h).symm
      · have h := (ite_s h).1 c16
        refine g_aload_n X 2 (i0 := 0) dX4_readWord_48 rfl rfl ?_
        refine g_dup X dX4_readWord_49 rfl ?_
        refine g_get X (D := D14) (v := .int (D14.1 130)) (T := TX4) 80 uX4 (wg_80 E _) rfl 4 (by decide) fl_X4_33 rfl rfl dX4_readWord_50 ?_
        refine g_iload X 0 dX4_readWord_53 rfl ?_
        refine g_iadd X dX4_readWord_55 ?_
        refine g_put X (D := D14) (v := .int ((D14.1 130) + r12)) (T := TX4) (D' := (setI D14 130 ((D14.1 130) + r12))) 80 uX4 tyX4 tyX4_ok nmX4 (wg_80 E _) rfl 4 (by decide) fl_X4_33 rfl rfl rfl rfl (Nat.le_of_ble_eq_true rfl) (ws_I_130 E _ _) dX4_readWord_56 ?_
        refine g_aload X 1 dX4_readWord_59 rfl ?_
        exact g_aret X (q := 1001) hr dX4_readWord_61 (h2 _ (Option.some.inj h).symm)
    have h := (ite_s h).2 w9
    by_cases w17 : x4 = (2 : Int32)
    · have h := (ite_s h).1 w17
      refine g_tq X X.2.2.2.2.2.2.2.2.1 (i := x4) (v := .ref (E.1 1002)) (by rw [w17]; exact inB_vp (by decide)) (by rw [w17]; rfl) dX4_readWord_21 ?_
      refine g_astore X (lv' := [(5, .ref (E.1 1002)), (0, .ref (E.1 80)), (1, .int x1), (2, .ref (E.1 1020)), (3, .int x3), (4, .int x4)]) dX4_readWord_22 (by decide) rfl ?_
      refine g_aload_n X 1 (i0 := 0) dX4_readWord_24 rfl rfl ?_
      refine g_aload X 0 dX4_readWord_25 rfl ?_
      refine g_getK X (v := .ref (E.1 1012)) (X.2.2.2.2.2.2.1 2 (by decide)).2.2.2.2 fl_X4_63 dX4_readWord_27 ?_
      obtain ⟨r20, D19, e18, h⟩ := cI_s h
      refine g_V X (As := [.ref (E.1 1012)]) (rest := []) (c_X4_commonStart_text_S2 l G E  _ _ e18) 80 (wg_80 E _) rfl rfl kv_X4_67 ⟨rfl, rfl⟩ ⟨rfl, hd_X4_commonStart⟩ (⟨Nat.le_of_ble_eq_true rfl, Nat.le_of_ble_eq_true rfl⟩) rfl rfl (Nat.le_of_ble_eq_true rfl) dX4_readWord_30 ?_
      refine g_istore X (lv' := [(6, .int r20), (5, .ref (E.1 1002)), (0, .ref (E.1 80)), (1, .int x1), (2, .ref (E.1 1020)), (3, .int x3), (4, .int x4)]) dX4_readWord_33 (by decide) rfl ?_
      refine g_iload X 0 dX4_readWord_35 rfl ?_
      refine g_aload X 1 dX4_readWord_37 rfl ?_
      refine g_getK X (v := .ref (E.1 1012)) (X.2.2.2.2.2.2.1 2 (by decide)).2.2.2.2 fl_X4_63 dX4_readWord_39 ?_
      obtain ⟨r23, D22, e21, h⟩ := cI_s h
      refine g_VK X (As := []) (rest := [.int r20]) (X.2.2.2.2.2.2.2.2.2.2.2.1 2 (by decide)).1 (c_J0_length_8abf5_S2 l G E  _ _ e21) kv_X4_71 ⟨rfl, rfl⟩ ⟨rfl, hd_J0_length_8abf5⟩ (⟨Nat.le_of_ble_eq_true rfl, Nat.le_of_ble_eq_true rfl⟩) rfl rfl (Nat.le_of_ble_eq_true rfl) dX4_readWord_42 ?_
      refine g_icmp_ne X (tgt := 62) dX4_readWord_45 (by decide) (fun c24 => ?_) (fun c24 => ?_)
      · have h := (ite_s h).2 c24
        refine g_iload_n X 3 (i0 := 1) dX4_readWord_62 rfl rfl ?_
        refine g_iload X 0 dX4_readWord_63 rfl ?_
        refine g_max X wl_X4_76 wm_max wi_math wc_max (Nat.le_of_ble_eq_true rfl) (Nat.le_of_ble_eq_true rfl) dX4_readWord_65 ?_
        refine g_istore_n X (i0 := 1) (lv' := [(1, .int (if x1 < r20 then r20 else x1)), (6, .int r20), (5, .ref (E.1 1002)), (0, .ref (E.1 80)), (2, .ref (E.1 1020)), (3, .int x3), (4, .int x4)]) dX4_readWord_68 rfl (by decide) rfl ?_
        refine g_iinc X 6 (v := (x4 + (1 : Int32))) (lv' := [(4, .int (x4 + (1 : Int32))), (1, .int (if x1 < r20 then r20 else x1)), (6, .int r20), (5, .ref (E.1 1002)), (0, .ref (E.1 80)), (2, .ref (E.1 1020)), (3, .int x3)]) dX4_readWord_69 rfl rfl (by decide) rfl ?_
        refine g_goto X (tgt := 12) dX4_readWord_72 (by decide) ?_
        refine g_sub (lv' := [(0, .ref (E.1 80)), (1, .int (if x1 < r20 then r20 else x1)), (2, .ref (E.1 1020)), (3, .int x3), (4, .int (x4 + (1 : Int32)))]) [4, 1, 5, 6, 0] rfl ?_
        exact h1 _ (Option.some.inj h).symm
      · have h := (ite_s h).1 c24
        refine g_aload_n X 2 (i0 := 0) dX4_readWord_48 rfl rfl ?_
        refine g_dup X dX4_readWord_49 rfl ?_
        refine g_get X (D := D22) (v := .int (D22.1 130)) (T := TX4) 80 uX4 (wg_80 E _) rfl 4 (by decide) fl_X4_33 rfl rfl dX4_readWord_50 ?_
        refine g_iload X 0 dX4_readWord_53 rfl ?_
        refine g_iadd X dX4_readWord_55 ?_
        refine g_put X (D := D22) (v := .int ((D22.1 130) + r20)) (T := TX4) (D' := (setI D22 130 ((D22.1 130) + r20))) 80 uX4 tyX4 tyX4_ok nmX4 (wg_80 E _) rfl 4 (by decide) fl_X4_33 rfl rfl rfl rfl (Nat.le_of_ble_eq_true rfl) (ws_I_130 E _ _) dX4_readWord_56 ?_
        refine g_aload X 1 dX4_readWord_59 rfl ?_
        exact g_aret X (q := 1002) hr dX4_readWord_61 (h2 _ (Option.some.inj h).symm)
    have h := (ite_s h).2 w17
    by_cases w25 : x4 = (3 : Int32)
    · have h := (ite_s h).1 w25
      refine g_tq X X.2.2.2.2.2.2.2.2.1 (i := x4) (v := .ref (E.1 1003)) (by rw [w25]; exact inB_vp (by decide)) (by rw [w25]; rfl) dX4_readWord_21 ?_
      refine g_astore X (lv' := [(5, .ref (E.1 1003)), (0, .ref (E.1 80)), (1, .int x1), (2, .ref (E.1 1020)), (3, .int x3), (4, .int x4)]) dX4_readWord_22 (by decide) rfl ?_
      refine g_aload_n X 1 (i0 := 0) dX4_readWord_24 rfl rfl ?_
      refine g_aload X 0 dX4_readWord_25 rfl ?_
      refine g_getK X (v := .ref (E.1 1013)) (X.2.2.2.2.2.2.1 3 (by decide)).2.2.2.2 fl_X4_63 dX4_readWord_27 ?_
      obtain ⟨r28, D27, e26, h⟩ := cI_s h
      refine g_V X (As := [.ref (E.1 1013)]) (rest := []) (c_X4_commonStart_text_S3 l G E  _ _ e26) 80 (wg_80 E _) rfl rfl kv_X4_67 ⟨rfl, rfl⟩ ⟨rfl, hd_X4_commonStart⟩ (⟨Nat.le_of_ble_eq_true rfl, Nat.le_of_ble_eq_true rfl⟩) rfl rfl (Nat.le_of_ble_eq_true rfl) dX4_readWord_30 ?_
      refine g_istore X (lv' := [(6, .int r28), (5, .ref (E.1 1003)), (0, .ref (E.1 80)), (1, .int x1), (2, .ref (E.1 1020)), (3, .int x3), (4, .int x4)]) dX4_readWord_33 (by decide) rfl ?_
      refine g_iload X 0 dX4_readWord_35 rfl ?_
      refine g_aload X 1 dX4_readWord_37 rfl ?_
      refine g_getK X (v := .ref (E.1 1013)) (X.2.2.2.2.2.2.1 3 (by decide)).2.2.2.2 fl_X4_63 dX4_readWord_39 ?_
      obtain ⟨r31, D30, e29, h⟩ := cI_s h
      refine g_VK X (As := []) (rest := [.int r28]) (X.2.2.2.2.2.2.2.2.2.2.2.1 3 (by decide)).1 (c_J0_length_8abf5_S3 l G E  _ _ e29) kv_X4_71 ⟨rfl, rfl⟩ ⟨rfl, hd_J0_length_8abf5⟩ (⟨Nat.le_of_ble_eq_true rfl, Nat.le_of_ble_eq_true rfl⟩) rfl rfl (Nat.le_of_ble_eq_true rfl) dX4_readWord_42 ?_
      refine g_icmp_ne X (tgt := 62) dX4_readWord_45 (by decide) (fun c32 => ?_) (fun c32 => ?_)
      · have h := (ite_s h).2 c32
        refine g_iload_n X 3 (i0 := 1) dX4_readWord_62 rfl rfl ?_
        refine g_iload X 0 dX4_readWord_63 rfl ?_
        refine g_max X wl_X4_76 wm_max wi_math wc_max (Nat.le_of_ble_eq_true rfl) (Nat.le_of_ble_eq_true rfl) dX4_readWord_65 ?_
        refine g_istore_n X (i0 := 1) (lv' := [(1, .int (if x1 < r28 then r28 else x1)), (6, .int r28), (5, .ref (E.1 1003)), (0, .ref (E.1 80)), (2, .ref (E.1 1020)), (3, .int x3), (4, .int x4)]) dX4_readWord_68 rfl (by decide) rfl ?_
        refine g_iinc X 6 (v := (x4 + (1 : Int32))) (lv' := [(4, .int (x4 + (1 : Int32))), (1, .int (if x1 < r28 then r28 else x1)), (6, .int r28), (5, .ref (E.1 1003)), (0, .ref (E.1 80)), (2, .ref (E.1 1020)), (3, .int x3)]) dX4_readWord_69 rfl rfl (by decide) rfl ?_
        refine g_goto X (tgt := 12) dX4_readWord_72 (by decide) ?_
        refine g_sub (lv' := [(0, .ref (E.1 80)), (1, .int (if x1 < r28 then r28 else x1)), (2, .ref (E.1 1020)), (3, .int x3), (4, .int (x4 + (1 : Int32)))]) [4, 1, 5, 6, 0] rfl ?_
        exact h1 _ (Option.some.inj h).symm
      · have h := (ite_s h).1 c32
        refine g_aload_n X 2 (i0 := 0) dX4_readWord_48 rfl rfl ?_
        refine g_dup X dX4_readWord_49 rfl ?_
        refine g_get X (D := D30) (v := .int (D30.1 130)) (T := TX4) 80 uX4 (wg_80 E _) rfl 4 (by decide) fl_X4_33 rfl rfl dX4_readWord_50 ?_
        refine g_iload X 0 dX4_readWord_53 rfl ?_
        refine g_iadd X dX4_readWord_55 ?_
        refine g_put X (D := D30) (v := .int ((D30.1 130) + r28)) (T := TX4) (D' := (setI D30 130 ((D30.1 130) + r28))) 80 uX4 tyX4 tyX4_ok nmX4 (wg_80 E _) rfl 4 (by decide) fl_X4_33 rfl rfl rfl rfl (Nat.le_of_ble_eq_true rfl) (ws_I_130 E _ _) dX4_readWord_56 ?_
        refine g_aload X 1 dX4_readWord_59 rfl ?_
        exact g_aret X (q := 1003) hr dX4_readWord_61 (h2 _ (Option.some.inj h).symm)
    have h := (ite_s h).2 w25
    by_cases w33 : x4 = (4 : Int32)
    · have h := (ite_s h).1 w33
      refine g_tq X X.2.2.2.2.2.2.2.2.1 (i := x4) (v := .ref (E.1 1004)) (by rw [w33]; exact inB_vp (by decide)) (by rw [w33]; rfl) dX4_readWord_21 ?_
      refine g_astore X (lv' := [(5, .ref (E.1 1004)), (0, .ref (E.1 80)), (1, .int x1), (2, .ref (E.1 1020)), (3, .int x3), (4, .int x4)]) dX4_readWord_22 (by decide) rfl ?_
      refine g_aload_n X 1 (i0 := 0) dX4_readWord_24 rfl rfl ?_
      refine g_aload X 0 dX4_readWord_25 rfl ?_
      refine g_getK X (v := .ref (E.1 1014)) (X.2.2.2.2.2.2.1 4 (by decide)).2.2.2.2 fl_X4_63 dX4_readWord_27 ?_
      obtain ⟨r36, D35, e34, h⟩ := cI_s h
      refine g_V X (As := [.ref (E.1 1014)]) (rest := []) (c_X4_commonStart_text_S4 l G E  _ _ e34) 80 (wg_80 E _) rfl rfl kv_X4_67 ⟨rfl, rfl⟩ ⟨rfl, hd_X4_commonStart⟩ (⟨Nat.le_of_ble_eq_true rfl, Nat.le_of_ble_eq_true rfl⟩) rfl rfl (Nat.le_of_ble_eq_true rfl) dX4_readWord_30 ?_
      refine g_istore X (lv' := [(6, .int r36), (5, .ref (E.1 1004)), (0, .ref (E.1 80)), (1, .int x1), (2, .ref (E.1 1020)), (3, .int x3), (4, .int x4)]) dX4_readWord_33 (by decide) rfl ?_
      refine g_iload X 0 dX4_readWord_35 rfl ?_
      refine g_aload X 1 dX4_readWord_37 rfl ?_
      refine g_getK X (v := .ref (E.1 1014)) (X.2.2.2.2.2.2.1 4 (by decide)).2.2.2.2 fl_X4_63 dX4_readWord_39 ?_
      obtain ⟨r39, D38, e37, h⟩ := cI_s h
      refine g_VK X (As := []) (rest := [.int r36]) (X.2.2.2.2.2.2.2.2.2.2.2.1 4 (by decide)).1 (c_J0_length_8abf5_S4 l G E  _ _ e37) kv_X4_71 ⟨rfl, rfl⟩ ⟨rfl, hd_J0_length_8abf5⟩ (⟨Nat.le_of_ble_eq_true rfl, Nat.le_of_ble_eq_true rfl⟩) rfl rfl (Nat.le_of_ble_eq_true rfl) dX4_readWord_42 ?_
      refine g_icmp_ne X (tgt := 62) dX4_readWord_45 (by decide) (fun c40 => ?_) (fun c40 => ?_)
      · have h := (ite_s h).2 c40
        refine g_iload_n X 3 (i0 := 1) dX4_readWord_62 rfl rfl ?_
        refine g_iload X 0 dX4_readWord_63 rfl ?_
        refine g_max X wl_X4_76 wm_max wi_math wc_max (Nat.le_of_ble_eq_true rfl) (Nat.le_of_ble_eq_true rfl) dX4_readWord_65 ?_
        refine g_istore_n X (i0 := 1) (lv' := [(1, .int (if x1 < r36 then r36 else x1)), (6, .int r36), (5, .ref (E.1 1004)), (0, .ref (E.1 80)), (2, .ref (E.1 1020)), (3, .int x3), (4, .int x4)]) dX4_readWord_68 rfl (by decide) rfl ?_
        refine g_iinc X 6 (v := (x4 + (1 : Int32))) (lv' := [(4, .int (x4 + (1 : Int32))), (1, .int (if x1 < r36 then r36 else x1)), (6, .int r36), (5, .ref (E.1 1004)), (0, .ref (E.1 80)), (2, .ref (E.1 1020)), (3, .int x3)]) dX4_readWord_69 rfl rfl (by decide) rfl ?_
        refine g_goto X (tgt := 12) dX4_readWord_72 (by decide) ?_
        refine g_sub (lv' := [(0, .ref (E.1 80)), (1, .int (if x1 < r36 then r36 else x1)), (2, .ref (E.1 1020)), (3, .int x3), (4, .int (x4 + (1 : Int32)))]) [4, 1, 5, 6, 0] rfl ?_
        exact h1 _ (Option.some.inj h).symm
      · have h := (ite_s h).1 c40
        refine g_aload_n X 2 (i0 := 0) dX4_readWord_48 rfl rfl ?_
        refine g_dup X dX4_readWord_49 rfl ?_
        refine g_get X (D := D38) (v := .int (D38.1 130)) (T := TX4) 80 uX4 (wg_80 E _) rfl 4 (by decide) fl_X4_33 rfl rfl dX4_readWord_50 ?_
        refine g_iload X 0 dX4_readWord_53 rfl ?_
        refine g_iadd X dX4_readWord_55 ?_
        refine g_put X (D := D38) (v := .int ((D38.1 130) + r36)) (T := TX4) (D' := (setI D38 130 ((D38.1 130) + r36))) 80 uX4 tyX4 tyX4_ok nmX4 (wg_80 E _) rfl 4 (by decide) fl_X4_33 rfl rfl rfl rfl (Nat.le_of_ble_eq_true rfl) (ws_I_130 E _ _) dX4_readWord_56 ?_
        refine g_aload X 1 dX4_readWord_59 rfl ?_
        exact g_aret X (q := 1004) hr dX4_readWord_61 (h2 _ (Option.some.inj h).symm)
    have h := (ite_s h).2 w33
    by_cases w41 : x4 = (5 : Int32)
    · have h := (ite_s h).1 w41
      refine g_tq X X.2.2.2.2.2.2.2.2.1 (i := x4) (v := .ref (E.1 1005)) (by rw [w41]; exact inB_vp (by decide)) (by rw [w41]; rfl) dX4_readWord_21 ?_
      refine g_astore X (lv' := [(5, .ref (E.1 1005)), (0, .ref (E.1 80)), (1, .int x1), (2, .ref (E.1 1020)), (3, .int x3), (4, .int x4)]) dX4_readWord_22 (by decide) rfl ?_
      refine g_aload_n X 1 (i0 := 0) dX4_readWord_24 rfl rfl ?_
      refine g_aload X 0 dX4_readWord_25 rfl ?_
      refine g_getK X (v := .ref (E.1 1015)) (X.2.2.2.2.2.2.1 5 (by decide)).2.2.2.2 fl_X4_63 dX4_readWord_27 ?_
      obtain ⟨r44, D43, e42, h⟩ := cI_s h
      refine g_V X (As := [.ref (E.1 1015)]) (rest := []) (c_X4_commonStart_text_S5 l G E  _ _ e42) 80 (wg_80 E _) rfl rfl kv_X4_67 ⟨rfl, rfl⟩ ⟨rfl, hd_X4_commonStart⟩ (⟨Nat.le_of_ble_eq_true rfl, Nat.le_of_ble_eq_true rfl⟩) rfl rfl (Nat.le_of_ble_eq_true rfl) dX4_readWord_30 ?_
      refine g_istore X (lv' := [(6, .int r44), (5, .ref (E.1 1005)), (0, .ref (E.1 80)), (1, .int x1), (2, .ref (E.1 1020)), (3, .int x3), (4, .int x4)]) dX4_readWord_33 (by decide) rfl ?_
      refine g_iload X 0 dX4_readWord_35 rfl ?_
      refine g_aload X 1 dX4_readWord_37 rfl ?_
      refine g_getK X (v := .ref (E.1 1015)) (X.2.2.2.2.2.2.1 5 (by decide)).2.2.2.2 fl_X4_63 dX4_readWord_39 ?_
      obtain ⟨r47, D46, e45, h⟩ := cI_s h
      refine g_VK X (As := []) (rest := [.int r44]) (X.2.2.2.2.2.2.2.2.2.2.2.1 5 (by decide)).1 (c_J0_length_8abf5_S5 l G E  _ _ e45) kv_X4_71 ⟨rfl, rfl⟩ ⟨rfl, hd_J0_length_8abf5⟩ (⟨Nat.le_of_ble_eq_true rfl, Nat.le_of_ble_eq_true rfl⟩) rfl rfl (Nat.le_of_ble_eq_true rfl) dX4_readWord_42 ?_
      refine g_icmp_ne X (tgt := 62) dX4_readWord_45 (by decide) (fun c48 => ?_) (fun c48 => ?_)
      · have h := (ite_s h).2 c48
        refine g_iload_n X 3 (i0 := 1) dX4_readWord_62 rfl rfl ?_
        refine g_iload X 0 dX4_readWord_63 rfl ?_
        refine g_max X wl_X4_76 wm_max wi_math wc_max (Nat.le_of_ble_eq_true rfl) (Nat.le_of_ble_eq_true rfl) dX4_readWord_65 ?_
        refine g_istore_n X (i0 := 1) (lv' := [(1, .int (if x1 < r44 then r44 else x1)), (6, .int r44), (5, .ref (E.1 1005)), (0, .ref (E.1 80)), (2, .ref (E.1 1020)), (3, .int x3), (4, .int x4)]) dX4_readWord_68 rfl (by decide) rfl ?_
        refine g_iinc X 6 (v := (x4 + (1 : Int32))) (lv' := [(4, .int (x4 + (1 : Int32))), (1, .int (if x1 < r44 then r44 else x1)), (6, .int r44), (5, .ref (E.1 1005)), (0, .ref (E.1 80)), (2, .ref (E.1 1020)), (3, .int x3)]) dX4_readWord_69 rfl rfl (by decide) rfl ?_
        refine g_goto X (tgt := 12) dX4_readWord_72 (by decide) ?_
        refine g_sub (lv' := [(0, .ref (E.1 80)), (1, .int (if x1 < r44 then r44 else x1)), (2, .ref (E.1 1020)), (3, .int x3), (4, .int (x4 + (1 : Int32)))]) [4, 1, 5, 6, 0] rfl ?_
        exact h1 _ (Option.some.inj h).symm
      · have h := (ite_s h).1 c48
        refine g_aload_n X 2 (i0 := 0) dX4_readWord_48 rfl rfl ?_
        refine g_dup X dX4_readWord_49 rfl ?_
        refine g_get X (D := D46) (v := .int (D46.1 130)) (T := TX4) 80 uX4 (wg_80 E _) rfl 4 (by decide) fl_X4_33 rfl rfl dX4_readWord_50 ?_
        refine g_iload X 0 dX4_readWord_53 rfl ?_
        refine g_iadd X dX4_readWord_55 ?_
        refine g_put X (D := D46) (v := .int ((D46.1 130) + r44)) (T := TX4) (D' := (setI D46 130 ((D46.1 130) + r44))) 80 uX4 tyX4 tyX4_ok nmX4 (wg_80 E _) rfl 4 (by decide) fl_X4_33 rfl rfl rfl rfl (Nat.le_of_ble_eq_true rfl) (ws_I_130 E _ _) dX4_readWord_56 ?_
        refine g_aload X 1 dX4_readWord_59 rfl ?_
        exact g_aret X (q := 1005) hr dX4_readWord_61 (h2 _ (Option.some.inj h).symm)
    have h := (ite_s h).2 w41
    by_cases w49 : x4 = (6 : Int32)
    · have h := (ite_s h).1 w49
      refine g_tq X X.2.2.2.2.2.2.2.2.1 (i := x4) (v := .ref (E.1 1006)) (by rw [w49]; exact inB_vp (by decide)) (by rw [w49]; rfl) dX4_readWord_21 ?_
      refine g_astore X (lv' := [(5, .ref (E.1 1006)), (0, .ref (E.1 80)), (1, .int x1), (2, .ref (E.1 1020)), (3, .int x3), (4, .int x4)]) dX4_readWord_22 (by decide) rfl ?_
      refine g_aload_n X 1 (i0 := 0) dX4_readWord_24 rfl rfl ?_
      refine g_aload X 0 dX4_readWord_25 rfl ?_
      refine g_getK X (v := .ref (E.1 1016)) (X.2.2.2.2.2.2.1 6 (by decide)).2.2.2.2 fl_X4_63 dX4_readWord_27 ?_
      obtain ⟨r52, D51, e50, h⟩ := cI_s h
      refine g_V X (As := [.ref (E.1 1016)]) (rest := []) (c_X4_commonStart_text_S6 l G E  _ _ e50) 80 (wg_80 E _) rfl rfl kv_X4_67 ⟨rfl, rfl⟩ ⟨rfl, hd_X4_commonStart⟩ (⟨Nat.le_of_ble_eq_true rfl, Nat.le_of_ble_eq_true rfl⟩) rfl rfl (Nat.le_of_ble_eq_true rfl) dX4_readWord_30 ?_
      refine g_istore X (lv' := [(6, .int r52), (5, .ref (E.1 1006)), (0, .ref (E.1 80)), (1, .int x1), (2, .ref (E.1 1020)), (3, .int x3), (4, .int x4)]) dX4_readWord_33 (by decide) rfl ?_
      refine g_iload X 0 dX4_readWord_35 rfl ?_
      refine g_aload X 1 dX4_readWord_37 rfl ?_
      refine g_getK X (v := .ref (E.1 1016)) (X.2.2.2.2.2.2.1 6 (by decide)).2.2.2.2 fl_X4_63 dX4_readWord_39 ?_
      obtain ⟨r55, D54, e53, h⟩ := cI_s h
      refine g_VK X (As := []) (rest := [.int r52]) (X.2.2.2.2.2.2.2.2.2.2.2.1 6 (by decide)).1 (c_J0_length_8abf5_S6 l G E  _ _ e53) kv_X4_71 ⟨rfl, rfl⟩ ⟨rfl, hd_J0_length_8abf5⟩ (⟨Nat.le_of_ble_eq_true rfl, Nat.le_of_ble_eq_true rfl⟩) rfl rfl (Nat.le_of_ble_eq_true rfl) dX4_readWord_42 ?_
      refine g_icmp_ne X (tgt := 62) dX4_readWord_45 (by decide) (fun c56 => ?_) (fun c56 => ?_)
      · have h := (ite_s h).2 c56
        refine g_iload_n X 3 (i0 := 1) dX4_readWord_62 rfl rfl ?_
        refine g_iload X 0 dX4_readWord_63 rfl ?_
        refine g_max X wl_X4_76 wm_max wi_math wc_max (Nat.le_of_ble_eq_true rfl) (Nat.le_of_ble_eq_true rfl) dX4_readWord_65 ?_
        refine g_istore_n X (i0 := 1) (lv' := [(1, .int (if x1 < r52 then r52 else x1)), (6, .int r52), (5, .ref (E.1 1006)), (0, .ref (E.1 80)), (2, .ref (E.1 1020)), (3, .int x3), (4, .int x4)]) dX4_readWord_68 rfl (by decide) rfl ?_
        refine g_iinc X 6 (v := (x4 + (1 : Int32))) (lv' := [(4, .int (x4 + (1 : Int32))), (1, .int (if x1 < r52 then r52 else x1)), (6, .int r52), (5, .ref (E.1 1006)), (0, .ref (E.1 80)), (2, .ref (E.1 1020)), (3, .int x3)]) dX4_readWord_69 rfl rfl (by decide) rfl ?_
        refine g_goto X (tgt := 12) dX4_readWord_72 (by decide) ?_
        refine g_sub (lv' := [(0, .ref (E.1 80)), (1, .int (if x1 < r52 then r52 else x1)), (2, .ref (E.1 1020)), (3, .int x3), (4, .int (x4 + (1 : Int32)))]) [4, 1, 5, 6, 0] rfl ?_
        exact h1 _ (Option.some.inj h).symm
      · have h := (ite_s h).1 c56
        refine g_aload_n X 2 (i0 := 0) dX4_readWord_48 rfl rfl ?_
        refine g_dup X dX4_readWord_49 rfl ?_
        refine g_get X (D := D54) (v := .int (D54.1 130)) (T := TX4) 80 uX4 (wg_80 E _) rfl 4 (by decide) fl_X4_33 rfl rfl dX4_readWord_50 ?_
        refine g_iload X 0 dX4_readWord_53 rfl ?_
        refine g_iadd X dX4_readWord_55 ?_
        refine g_put X (D := D54) (v := .int ((D54.1 130) + r52)) (T := TX4) (D' := (setI D54 130 ((D54.1 130) + r52))) 80 uX4 tyX4 tyX4_ok nmX4 (wg_80 E _) rfl 4 (by decide) fl_X4_33 rfl rfl rfl rfl (Nat.le_of_ble_eq_true rfl) (ws_I_130 E _ _) dX4_readWord_56 ?_
        refine g_aload X 1 dX4_readWord_59 rfl ?_
        exact g_aret X (q := 1006) hr dX4_readWord_61 (h2 _ (Option.some.inj h).symm)
    have h := (ite_s h).2 w49
    cases h
set_option maxRecDepth 100000 in
set_option maxHeartbeats 4000000 in
theorem c_X4_readWord (l : Launch) (G : va_G) (E : EE)  (D : DD) (r : RT) (h : S_X4_readWord  D = some r) : MM l G E yX4_readWord cX4_readWord 7 (some (.object "StoneQuarry$Command")) (rmm 6) [.ref (E.1 80)] D r := by
  unfold S_X4_readWord at h
  refine m_of rfl (Nat.le_of_ble_eq_true rfl) ?_
  intro p e s m args below meth c X hr
  exact run_G (T := T_X4_readWord) (HG := hg_X4_readWord p l e s m args below meth c G E r) (by
    intro k ls D o hT h1 h2
    unfold T_X4_readWord at hT
    split at hT
    · exact bl_X4_readWord_0 X hr  D o hT h1 h2
    · exact bl_X4_readWord_1 X hr _ _ _ D o hT h1 h2
    · cases hT) FUEL 0 [] D h
theorem fl_X4_51 : Cond.fieldLink RX4 51 "StoneQuarry$Command" "parameters" "I" ∈ UT := ut 1824 (by decide +kernel) (by decide +kernel)
theorem fl_X4_53 : Cond.fieldLink RX4 53 "StoneQuarry$Command" "digits" "I" ∈ UT := ut 1825 (by decide +kernel) (by decide +kernel)
theorem hd_X4_readNumber : yX4_readNumber.cls ≠ "java/lang/invoke/MethodHandle" ∧ yX4_readNumber.cls ≠ "java/lang/invoke/VarHandle" ∧ (parseMethodDescriptor yX4_readNumber.desc).map (fun d => d.parameters.length) = some 1 := by decide +kernel
theorem hd_X4_readWord : yX4_readWord.cls ≠ "java/lang/invoke/MethodHandle" ∧ yX4_readWord.cls ≠ "java/lang/invoke/VarHandle" ∧ (parseMethodDescriptor yX4_readWord.desc).map (fun d => d.parameters.length) = some 0 := by decide +kernel
theorem wc_X4_readWord : Cond.code yX4_readWord cX4_readWord 7 (some (.object "StoneQuarry$Command")) ∈ UT := ut 1202 (by decide +kernel) (by decide +kernel)
theorem we_X4_readWord : Cond.selects RX4 yX4_readWord yX4_readWord ∈ UT := ut 29 (by decide +kernel) (by decide +kernel)
theorem wm_X4_readWord : Cond.instanceMethod yX4_readWord ∈ UT := ut 1201 (by decide +kernel) (by decide +kernel)
theorem kv_X4_47 : GoodIn UT (wsV RX4 47 RX4 yX4_readWord (Cond.code yX4_readWord cX4_readWord 7 (some (.object "StoneQuarry$Command")) :: UT)) := gu_V (ut 1199 (by decide +kernel) (by decide +kernel)) wm_X4_readWord we_X4_readWord wi_RX4 wc_X4_readWord
theorem wc_X4_readNumber : Cond.code yX4_readNumber cX4_readNumber 4 (some .int) ∈ UT := ut 1265 (by decide +kernel) (by decide +kernel)
theorem we_X4_readNumber : Cond.selects RX4 yX4_readNumber yX4_readNumber ∈ UT := ut 32 (by decide +kernel) (by decide +kernel)
theorem wm_X4_readNumber : Cond.instanceMethod yX4_readNumber ∈ UT := ut 1264 (by decide +kernel) (by decide +kernel)
theorem kv_X4_56 : GoodIn UT (wsV RX4 56 RX4 yX4_readNumber (Cond.code yX4_readNumber cX4_readNumber 4 (some .int) :: UT)) := gu_V (ut 1262 (by decide +kernel) (by decide +kernel)) wm_X4_readNumber we_X4_readNumber wi_RX4 wc_X4_readNumber
theorem ws_A_66 (E : EE) (D : DD) (f : Nat → Int32) : (wd E D).set 83 (E.1 83, .inl (E.2 0, 30, .inl f)) = wd E (setA D 66 f) := rfl
def b_X4_readCommand_0 (a0 : Int32) (D : DD) : Option ((Nat × List Int32 × DD) ⊕ RT) := (cR (S_X4_readWord D) (fun q3 D2 => (if q3 = 1000 then (cI (S_X12_inRange a0 (0 : Int32) (9 : Int32) D2) (fun r7 D6 => (if r7 = 0 then some (.inr (0, some (.int (0 : Int32)), D6)) else (if inB a0 10 = true then some (.inl (1, [a0, (0 : Int32)], (setC D6 (va_up D6.2.2.2.2.2 a0.toNatClampNeg (some 1000))))) else none)))) else (if q3 = 1001 then (cI (S_X12_inRange a0 (0 : Int32) (9 : Int32) D2) (fun r13 D12 => (if r13 = 0 then some (.inr (0, some (.int (0 : Int32)), D12)) else (if inB a0 10 = true then some (.inl (2, [a0, (0 : Int32)], (setC D12 (va_up D12.2.2.2.2.2 a0.toNatClampNeg (some 1001))))) else none)))) else (if q3 = 1002 then (cI (S_X12_inRange a0 (0 : Int32) (9 : Int32) D2) (fun r19 D18 => (if r19 = 0 then some (.inr (0, some (.int (0 : Int32)), D18)) else (if inB a0 10 = true then some (.inl (3, [a0, (0 : Int32)], (setC D18 (va_up D18.2.2.2.2.2 a0.toNatClampNeg (some 1002))))) else none)))) else (if q3 = 1003 then (cI (S_X12_inRange a0 (0 : Int32) (9 : Int32) D2) (fun r25 D24 => (if r25 = 0 then some (.inr (0, some (.int (0 : Int32)), D24)) else (if inB a0 10 = true then some (.inl (4, [a0, (0 : Int32)], (setC D24 (va_up D24.2.2.2.2.2 a0.toNatClampNeg (some 1003))))) else none)))) else (if q3 = 1004 then (cI (S_X12_inRange a0 (0 : Int32) (9 : Int32) D2) (fun r31 D30 => (if r31 = 0 then some (.inr (0, some (.int (0 : Int32)), D30)) else (if inB a0 10 = true then some (.inl (5, [a0, (0 : Int32)], (setC D30 (va_up D30.2.2.2.2.2 a0.toNatClampNeg (some 1004))))) else none)))) else (if q3 = 1005 then (cI (S_X12_inRange a0 (0 : Int32) (9 : Int32) D2) (fun r37 D36 => (if r37 = 0 then some (.inr (0, some (.int (0 : Int32)), D36)) else (if inB a0 10 = true then some (.inl (6, [a0, (0 : Int32)], (setC D36 (va_up D36.2.2.2.2.2 a0.toNatClampNeg (some 1005))))) else none)))) else (if q3 = 1006 then (cI (S_X12_inRange a0 (0 : Int32) (9 : Int32) D2) (fun r43 D42 => (if r43 = 0 then some (.inr (0, some (.int (0 : Int32)), D42)) else (if inB a0 10 = true then some (.inl (7, [a0, (0 : Int32)], (setC D42 (va_up D42.2.2.2.2.2 a0.toNatClampNeg (some 1006))))) else none)))) else none)))))))) (fun D2 => some (.inr (0, some (.int (0 : Int32)), D2))))
def b_X4_readCommand_1 (x1 : Int32) (x3 : Int32) (D : DD) : Option ((Nat × List Int32 × DD) ⊕ RT) := (if (3 : Int32) ≤ x3 then some (.inr (0, some (.int (1 : Int32)), D)) else (cI (S_X4_readNumber (1 : Int32) D) (fun r48 D47 => (if r48 = (-1 : Int32) then some (.inr (0, some (.int (0 : Int32)), D47)) else (cI (S_X12_inRange ((x1 * (3 : Int32)) + x3) (0 : Int32) ((30 : Int32) - (1 : Int32)) D47) (fun r51 D50 => (if r51 = 0 then some (.inr (0, some (.int (0 : Int32)), D50)) else (if inB ((x1 * (3 : Int32)) + x3) 30 = true then some (.inl (1, [x1, (x3 + (1 : Int32))], (setA D50 66 (upd (D50.2.2.1 66) ((x1 * (3 : Int32)) + x3).toNatClampNeg r48)))) else none))))))))
def b_X4_readCommand_2 (x1 : Int32) (x3 : Int32) (D : DD) : Option ((Nat × List Int32 × DD) ⊕ RT) := (if (3 : Int32) ≤ x3 then some (.inr (0, some (.int (1 : Int32)), D)) else (cI (S_X4_readNumber (1 : Int32) D) (fun r58 D57 => (if r58 = (-1 : Int32) then some (.inr (0, some (.int (0 : Int32)), D57)) else (cI (S_X12_inRange ((x1 * (3 : Int32)) + x3) (0 : Int32) ((30 : Int32) - (1 : Int32)) D57) (fun r61 D60 => (if r61 = 0 then some (.inr (0, some (.int (0 : Int32)), D60)) else (if inB ((x1 * (3 : Int32)) + x3) 30 = true then some (.inl (2, [x1, (x3 + (1 : Int32))], (setA D60 66 (upd (D60.2.2.1 66) ((x1 * (3 : Int32)) + x3).toNatClampNeg r58)))) else none))))))))
def b_X4_readCommand_3 (x1 : Int32) (x3 : Int32) (D : DD) : Option ((Nat × List Int32 × DD) ⊕ RT) := (if (1 : Int32) ≤ x3 then some (.inr (0, some (.int (1 : Int32)), D)) else (cI (S_X4_readNumber (1 : Int32) D) (fun r68 D67 => (if r68 = (-1 : Int32) then some (.inr (0, some (.int (0 : Int32)), D67)) else (cI (S_X12_inRange ((x1 * (3 : Int32)) + x3) (0 : Int32) ((30 : Int32) - (1 : Int32)) D67) (fun r71 D70 => (if r71 = 0 then some (.inr (0, some (.int (0 : Int32)), D70)) else (if inB ((x1 * (3 : Int32)) + x3) 30 = true then some (.inl (3, [x1, (x3 + (1 : Int32))], (setA D70 66 (upd (D70.2.2.1 66) ((x1 * (3 : Int32)) + x3).toNatClampNeg r68)))) else none))))))))
def b_X4_readCommand_4 (x1 : Int32) (x3 : Int32) (D : DD) : Option ((Nat × List Int32 × DD) ⊕ RT) := (if (1 : Int32) ≤ x3 then some (.inr (0, some (.int (1 : Int32)), D)) else (cI (S_X4_readNumber (1 : Int32) D) (fun r78 D77 => (if r78 = (-1 : Int32) then some (.inr (0, some (.int (0 : Int32)), D77)) else (cI (S_X12_inRange ((x1 * (3 : Int32)) + x3) (0 : Int32) ((30 : Int32) - (1 : Int32)) D77) (fun r81 D80 => (if r81 = 0 then some (.inr (0, some (.int (0 : Int32)), D80)) else (if inB ((x1 * (3 : Int32)) + x3) 30 = true then some (.inl (4, [x1, (x3 + (1 : Int32))], (setA D80 66 (upd (D80.2.2.1 66) ((x1 * (3 : Int32)) + x3).toNatClampNeg r78)))) else none))))))))
def b_X4_readCommand_5 (x1 : Int32) (x3 : Int32) (D : DD) : Option ((Nat × List Int32 × DD) ⊕ RT) := (if (2 : Int32) ≤ x3 then some (.inr (0, some (.int (1 : Int32)), D)) else (cI (S_X4_readNumber (1 : Int32) D) (fun r88 D87 => (if r88 = (-1 : Int32) then some (.inr (0, some (.int (0 : Int32)), D87)) else (cI (S_X12_inRange ((x1 * (3 : Int32)) + x3) (0 : Int32) ((30 : Int32) - (1 : Int32)) D87) (fun r91 D90 => (if r91 = 0 then some (.inr (0, some (.int (0 : Int32)), D90)) else (if inB ((x1 * (3 : Int32)) + x3) 30 = true then some (.inl (5, [x1, (x3 + (1 : Int32))], (setA D90 66 (upd (D90.2.2.1 66) ((x1 * (3 : Int32)) + x3).toNatClampNeg r88)))) else none))))))))
def b_X4_readCommand_6 (x1 : Int32) (x3 : Int32) (D : DD) : Option ((Nat × List Int32 × DD) ⊕ RT) := (if (2 : Int32) ≤ x3 then some (.inr (0, some (.int (1 : Int32)), D)) else (cI (S_X4_readNumber (2 : Int32) D) (fun r98 D97 => (if r98 = (-1 : Int32) then some (.inr (0, some (.int (0 : Int32)), D97)) else (cI (S_X12_inRange ((x1 * (3 : Int32)) + x3) (0 : Int32) ((30 : Int32) - (1 : Int32)) D97) (fun r101 D100 => (if r101 = 0 then some (.inr (0, some (.int (0 : Int32)), D100)) else (if inB ((x1 * (3 : Int32)) + x3) 30 = true then some (.inl (6, [x1, (x3 + (1 : Int32))], (setA D100 66 (upd (D100.2.2.1 66) ((x1 * (3 : Int32)) + x3).toNatClampNeg r98)))) else none))))))))
def b_X4_readCommand_7 (x1 : Int32) (x3 : Int32) (D : DD) : Option ((Nat × List Int32 × DD) ⊕ RT) := (if (1 : Int32) ≤ x3 then some (.inr (0, some (.int (1 : Int32)), D)) else (cI (S_X4_readNumber (2 : Int32) D) (fun r108 D107 => (if r108 = (-1 : Int32) then some (.inr (0, some (.int (0 : Int32)), D107)) else (cI (S_X12_inRange ((x1 * (3 : Int32)) + x3) (0 : Int32) ((30 : Int32) - (1 : Int32)) D107) (fun r111 D110 => (if r111 = 0 then some (.inr (0, some (.int (0 : Int32)), D110)) else (if inB ((x1 * (3 : Int32)) + x3) 30 = true then some (.inl (7, [x1, (x3 + (1 : Int32))], (setA D110 66 (upd (D110.2.2.1 66) ((x1 * (3 : Int32)) + x3).toNatClampNeg r108)))) else none))))))))
def T_X4_readCommand (k : Nat) (ls : List Int32) (D : DD) : Option ((Nat × List Int32 × DD) ⊕ RT) := match k, ls with
  | 0, [a0] => b_X4_readCommand_0 a0 D
  | 1, [x1, x3] => b_X4_readCommand_1 x1 x3 D
  | 2, [x1, x3] => b_X4_readCommand_2 x1 x3 D
  | 3, [x1, x3] => b_X4_readCommand_3 x1 x3 D
  | 4, [x1, x3] => b_X4_readCommand_4 x1 x3 D
  | 5, [x1, x3] => b_X4_readCommand_5 x1 x3 D
  | 6, [x1, x3] => b_X4_readCommand_6 x1 x3 D
  | 7, [x1, x3] => b_X4_readCommand_7 x1 x3 D
  | _, _ => none
def S_X4_readCommand (a0 : Int32) (D : DD) : Option RT := run T_X4_readCommand FUEL 0 [a0] D
def hg_X4_readCommand (p : Program) (l : Launch) (e : Env) (s : State) (m : MethodId) (args : Array Value) (below : List Frame) (meth : Method) (c : Code) (G : va_G) (E : EE) (r : RT) (k : Nat) (ls : List Int32) (D : DD) : Prop := match k, ls with
  | 0, [a0] => GW p l e (rmm 7) s m args below meth c G E 6 (MQ below (QR G E s.heap.size r) args s 0 0 (fr E s.heap.size)) 0 0 D 0 [(0, .ref (E.1 80)), (1, .int a0)] []
  | 1, [x1, x3] => GW p l e (rmm 7) s m args below meth c G E 6 (MQ below (QR G E s.heap.size r) args s 0 0 (fr E s.heap.size)) 0 0 D 30 [(0, .ref (E.1 80)), (1, .int x1), (2, .ref (E.1 1000)), (3, .int x3)] []
  | 2, [x1, x3] => GW p l e (rmm 7) s m args below meth c G E 6 (MQ below (QR G E s.heap.size r) args s 0 0 (fr E s.heap.size)) 0 0 D 30 [(0, .ref (E.1 80)), (1, .int x1), (2, .ref (E.1 1001)), (3, .int x3)] []
  | 3, [x1, x3] => GW p l e (rmm 7) s m args below meth c G E 6 (MQ below (QR G E s.heap.size r) args s 0 0 (fr E s.heap.size)) 0 0 D 30 [(0, .ref (E.1 80)), (1, .int x1), (2, .ref (E.1 1002)), (3, .int x3)] []
  | 4, [x1, x3] => GW p l e (rmm 7) s m args below meth c G E 6 (MQ below (QR G E s.heap.size r) args s 0 0 (fr E s.heap.size)) 0 0 D 30 [(0, .ref (E.1 80)), (1, .int x1), (2, .ref (E.1 1003)), (3, .int x3)] []
  | 5, [x1, x3] => GW p l e (rmm 7) s m args below meth c G E 6 (MQ below (QR G E s.heap.size r) args s 0 0 (fr E s.heap.size)) 0 0 D 30 [(0, .ref (E.1 80)), (1, .int x1), (2, .ref (E.1 1004)), (3, .int x3)] []
  | 6, [x1, x3] => GW p l e (rmm 7) s m args below meth c G E 6 (MQ below (QR G E s.heap.size r) args s 0 0 (fr E s.heap.size)) 0 0 D 30 [(0, .ref (E.1 80)), (1, .int x1), (2, .ref (E.1 1005)), (3, .int x3)] []
  | 7, [x1, x3] => GW p l e (rmm 7) s m args below meth c G E 6 (MQ below (QR G E s.heap.size r) args s 0 0 (fr E s.heap.size)) 0 0 D 30 [(0, .ref (E.1 80)), (1, .int x1), (2, .ref (E.1 1006)), (3, .int x3)] []
  | _, _ => True
set_option maxRecDepth 100000 in
set_option maxHeartbeats 4000000 in
theorem bl_X4_readCommand_0 {p : Program} {l : Launch} {e : Env} {s : State} {m : MethodId} {args : Array Value} {below : List Frame} {meth : Method} {c : Code} {G : va_G} {E : EE} {r : RT} (X : CX p s m args meth c cX4_readCommand RX4 6 G E) (hr : meth.sig.returnType = (some .boolean)) (a0 : Int32) (D : DD) (o : (Nat × List Int32 × DD) ⊕ RT) (h : b_X4_readCommand_0 a0 D = some o) (h1 : ∀ x, o = .inl x → hg_X4_readCommand p l e s m args below meth c G E r x.1 x.2.1 x.2.2) (h2 : ∀ x, o = .inr x → x = r) : GW p l e (rmm 7) s m args below meth c G E 6 (MQ below (QR G E s.heap.size r) args s 0 0 (fr E s.heap.size)) 0 0 D 0 [(0, .ref (E.1 80)), (1, .int a0)] [] := by
  unfold b_X4_readCommand_0 at h
  refine g_aload_n X 0 (i0 := 0) dX4_readCommand_0 rfl rfl ?_
  rcases cR_s h with ⟨q3, D2, e1, h⟩ | ⟨D2, e1, h⟩
  · by_cases u4 : q3 = 1000
    · have hh := (ite_s h).1 u4
      clear h
      subst u4
      have h := hh
      clear hh
      refine g_V X (As := []) (rest := []) (c_X4_readWord l G E  _ _ e1) 80 (wg_80 E _) rfl rfl kv_X4_47 ⟨rfl, rfl⟩ ⟨rfl, hd_X4_readWord⟩ (⟨Nat.le_of_ble_eq_true rfl, Nat.le_of_ble_eq_true rfl⟩) rfl rfl (Nat.le_of_ble_eq_true rfl) dX4_readCommand_1 ?_
      refine g_astore_n X (i0 := 2) (lv' := [(2, .ref (E.1 1000)), (0, .ref (E.1 80)), (1, .int a0)]) dX4_readCommand_4 rfl (by decide) rfl ?_
      refine g_aload_n X 0 (i0 := 2) dX4_readCommand_5 rfl rfl ?_
      refine g_ifnull X dX4_readCommand_6 ?_
      refine g_iload_n X 2 (i0 := 1) dX4_readCommand_9 rfl rfl ?_
      refine g_iconst X (v := (0 : Int32)) dX4_readCommand_10 (by decide) ?_
      refine g_bipush X (v := (9 : Int32)) dX4_readCommand_11 (by decide) ?_
      obtain ⟨r7, D6, e5, h⟩ := cI_s h
      refine g_SN X (As := [.int a0, .int (0 : Int32), .int (9 : Int32)]) (rest := []) (c_X12_inRange l G E a0 (0 : Int32) (9 : Int32) _ _ e5) wc_X12_inRange kn_X4_29 wi_RX12 wt_X12_inRange ⟨rfl, rfl⟩ hd_X12_inRange (⟨Nat.le_of_ble_eq_true rfl, Nat.le_of_ble_eq_true rfl⟩) rfl rfl (Nat.le_of_ble_eq_true rfl) dX4_readCommand_13 ?_
      refine g_if_ne X (tgt := 21) dX4_readCommand_16 (by decide) (fun c9 => ?_) (fun c9 => ?_)
      · have h := (ite_s h).2 c9
        refine g_aload_n X 1 (i0 := 0) dX4_readCommand_21 rfl rfl ?_
        refine g_get X (D := D6) (v := .ref (E.1 82)) (T := TX4) 80 uX4 (wg_80 E _) rfl 1 (by decide) fl_X4_17 rfl rfl dX4_readCommand_22 ?_
        refine g_iload_n X 2 (i0 := 1) dX4_readCommand_25 rfl rfl ?_
        refine g_aload_n X 0 (i0 := 2) dX4_readCommand_26 rfl rfl ?_
        obtain ⟨b8, h⟩ := chk_s h
        refine g_cmdst X (D := D6) 1000 (X.2.2.2.2.2.2.1 0 (by decide)).1 (i := a0) (inB_vp b8) dX4_readCommand_27 ?_
        refine g_iconst X (v := (0 : Int32)) dX4_readCommand_28 (by decide) ?_
        refine g_istore_n X (i0 := 3) (lv' := [(3, .int (0 : Int32)), (2, .ref (E.1 1000)), (0, .ref (E.1 80)), (1, .int a0)]) dX4_readCommand_29 rfl (by decide) rfl ?_
        refine g_sub (lv' := [(0, .ref (E.1 80)), (1, .int a0), (2, .ref (E.1 1000)), (3, .int (0 : Int32))]) [2, 3, 1, 0] rfl ?_
        exact h1 _ (Option.some.inj h).symm
      · have h := (ite_s h).1 c9
        refine g_iconst X (v := (0 : Int32)) dX4_readCommand_19 (by decide) ?_
        exact g_iret X hr rfl dX4_readCommand_20 (h2 _ (Option.some.inj h).symm)
    have h := (ite_s h).2 u4
    by_cases u10 : q3 = 1001
    · have hh := (ite_s h).1 u10
      clear h
      subst u10
      have h := hh
      clear hh
      refine g_V X (As := []) (rest := []) (c_X4_readWord l G E  _ _ e1) 80 (wg_80 E _) rfl rfl kv_X4_47 ⟨rfl, rfl⟩ ⟨rfl, hd_X4_readWord⟩ (⟨Nat.le_of_ble_eq_true rfl, Nat.le_of_ble_eq_true rfl⟩) rfl rfl (Nat.le_of_ble_eq_true rfl) dX4_readCommand_1 ?_
      refine g_astore_n X (i0 := 2) (lv' := [(2, .ref (E.1 1001)), (0, .ref (E.1 80)), (1, .int a0)]) dX4_readCommand_4 rfl (by decide) rfl ?_
      refine g_aload_n X 0 (i0 := 2) dX4_readCommand_5 rfl rfl ?_
      refine g_ifnull X dX4_readCommand_6 ?_
      refine g_iload_n X 2 (i0 := 1) dX4_readCommand_9 rfl rfl ?_
      refine g_iconst X (v := (0 : Int32)) dX4_readCommand_10 (by decide) ?_
      refine g_bipush X (v := (9 : Int32)) dX4_readCommand_11 (by decide) ?_
      obtain ⟨r13, D12, e11, h⟩ := cI_s h
      refine g_SN X (As := [.int a0, .int (0 : Int32), .int (9 : Int32)]) (rest := []) (c_X12_inRange l G E a0 (0 : Int32) (9 : Int32) _ _ e11) wc_X12_inRange kn_X4_29 wi_RX12 wt_X12_inRange ⟨rfl, rfl⟩ hd_X12_inRange (⟨Nat.le_of_ble_eq_true rfl, Nat.le_of_ble_eq_true rfl⟩) rfl rfl (Nat.le_of_ble_eq_true rfl) dX4_readCommand_13 ?_
      refine g_if_ne X (tgt := 21) dX4_readCommand_16 (by decide) (fun c15 => ?_) (fun c15 => ?_)
      · have h := (ite_s h).2 c15
        refine g_aload_n X 1 (i0 := 0) dX4_readCommand_21 rfl rfl ?_
        refine g_get X (D := D12) (v := .ref (E.1 82)) (T := TX4) 80 uX4 (wg_80 E _) rfl 1 (by decide) fl_X4_17 rfl rfl dX4_readCommand_22 ?_
        refine g_iload_n X 2 (i0 := 1) dX4_readCommand_25 rfl rfl ?_
        refine g_aload_n X 0 (i0 := 2) dX4_readCommand_26 rfl rfl ?_
        obtain ⟨b14, h⟩ := chk_s h
        refine g_cmdst X (D := D12) 1001 (X.2.2.2.2.2.2.1 1 (by decide)).1 (i := a0) (inB_vp b14) dX4_readCommand_27 ?_
        refine g_iconst X (v := (0 : Int32)) dX4_readCommand_28 (by decide) ?_
        refine g_istore_n X (i0 := 3) (lv' := [(3, .int (0 : Int32)), (2, .ref (E.1 1001)), (0, .ref (E.1 80)), (1, .int a0)]) dX4_readCommand_29 rfl (by decide) rfl ?_
        refine g_sub (lv' := [(0, .ref (E.1 80)), (1, .int a0), (2, .ref (E.1 1001)), (3, .int (0 : Int32))]) [2, 3, 1, 0] rfl ?_
        exact h1 _ (Option.some.inj h).symm
      · have h := (ite_s h).1 c15
        refine g_iconst X (v := (0 : Int32)) dX4_readCommand_19 (by decide) ?_
        exact g_iret X hr rfl dX4_readCommand_20 (h2 _ (Option.some.inj h).symm)
    have h := (ite_s h).2 u10
    by_cases u16 : q3 = 1002
    · have hh := (ite_s h).1 u16
      clear h
      subst u16
      have h := hh
      clear hh
      refine g_V X (As := []) (rest := []) (c_X4_readWord l G E  _ _ e1) 80 (wg_80 E _) rfl rfl kv_X4_47 ⟨rfl, rfl⟩ ⟨rfl, hd_X4_readWord⟩ (⟨Nat.le_of_ble_eq_true rfl, Nat.le_of_ble_eq_true rfl⟩) rfl rfl (Nat.le_of_ble_eq_true rfl) dX4_readCommand_1 ?_
      refine g_astore_n X (i0 := 2) (lv' := [(2, .ref (E.1 1002)), (0, .ref (E.1 80)), (1, .int a0)]) dX4_readCommand_4 rfl (by decide) rfl ?_
      refine g_aload_n X 0 (i0 := 2) dX4_readCommand_5 rfl rfl ?_
      refine g_ifnull X dX4_readCommand_6 ?_
      refine g_iload_n X 2 (i0 := 1) dX4_readCommand_9 rfl rfl ?_
      refine g_iconst X (v := (0 : Int32)) dX4_readCommand_10 (by decide) ?_
      refine g_bipush X (v := (9 : Int32)) dX4_readCommand_11 (by decide) ?_
      obtain ⟨r19, D18, e17, h⟩ := cI_s h
      refine g_SN X (As := [.int a0, .int (0 : Int32), .int (9 : Int32)]) (rest := []) (c_X12_inRange l G E a0 (0 : Int32) (9 : Int32) _ _ e17) wc_X12_inRange kn_X4_29 wi_RX12 wt_X12_inRange ⟨rfl, rfl⟩ hd_X12_inRange (⟨Nat.le_of_ble_eq_true rfl, Nat.le_of_ble_eq_true rfl⟩) rfl rfl (Nat.le_of_ble_eq_true rfl) dX4_readCommand_13 ?_
      refine g_if_ne X (tgt := 21) dX4_readCommand_16 (by decide) (fun c21 => ?_) (fun c21 => ?_)
      · have h := (ite_s h).2 c21
        refine g_aload_n X 1 (i0 := 0) dX4_readCommand_21 rfl rfl ?_
        refine g_get X (D := D18) (v := .ref (E.1 82)) (T := TX4) 80 uX4 (wg_80 E _) rfl 1 (by decide) fl_X4_17 rfl rfl dX4_readCommand_22 ?_
        refine g_iload_n X 2 (i0 := 1) dX4_readCommand_25 rfl rfl ?_
        refine g_aload_n X 0 (i0 := 2) dX4_readCommand_26 rfl rfl ?_
        obtain ⟨b20, h⟩ := chk_s h
        refine g_cmdst X (D := D18) 1002 (X.2.2.2.2.2.2.1 2 (by decide)).1 (i := a0) (inB_vp b20) dX4_readCommand_27 ?_
        refine g_iconst X (v := (0 : Int32)) dX4_readCommand_28 (by decide) ?_
        refine g_istore_n X (i0 := 3) (lv' := [(3, .int (0 : Int32)), (2, .ref (E.1 1002)), (0, .ref (E.1 80)), (1, .int a0)]) dX4_readCommand_29 rfl (by decide) rfl ?_
        refine g_sub (lv' := [(0, .ref (E.1 80)), (1, .int a0), (2, .ref (E.1 1002)), (3, .int (0 : Int32))]) [2, 3, 1, 0] rfl ?_
        exact h1 _ (Option.some.inj h).symm
      · have h := (ite_s h).1 c21
        refine g_iconst X (v := (0 : Int32)) dX4_readCommand_19 (by decide) ?_
        exact g_iret X hr rfl dX4_readCommand_20 (h2 _ (Option.some.inj h).symm)
    have h := (ite_s h).2 u16
    by_cases u22 : q3 = 1003
    · have hh := (ite_s h).1 u22
      clear h
      subst u22
      have h := hh
      clear hh
      refine g_V X (As := []) (rest := []) (c_X4_readWord l G E  _ _ e1) 80 (wg_80 E _) rfl rfl kv_X4_47 ⟨rfl, rfl⟩ ⟨rfl, hd_X4_readWord⟩ (⟨Nat.le_of_ble_eq_true rfl, Nat.le_of_ble_eq_true rfl⟩) rfl rfl (Nat.le_of_ble_eq_true rfl) dX4_readCommand_1 ?_
      refine g_astore_n X (i0 := 2) (lv' := [(2, .ref (E.1 1003)), (0, .ref (E.1 80)), (1, .int a0)]) dX4_readCommand_4 rfl (by decide) rfl ?_
      refine g_aload_n X 0 (i0 := 2) dX4_readCommand_5 rfl rfl ?_
      refine g_ifnull X dX4_readCommand_6 ?_
      refine g_iload_n X 2 (i0 := 1) dX4_readCommand_9 rfl rfl ?_
      refine g_iconst X (v := (0 : Int32)) dX4_readCommand_10 (by decide) ?_
      refine g_bipush X (v := (9 : Int32)) dX4_readCommand_11 (by decide) ?_
      obtain ⟨r25, D24, e23, h⟩ := cI_s h
      refine g_SN X (As := [.int a0, .int (0 : Int32), .int (9 : Int32)]) (rest := []) (c_X12_inRange l G E a0 (0 : Int32) (9 : Int32) _ _ e23) wc_X12_inRange kn_X4_29 wi_RX12 wt_X12_inRange ⟨rfl, rfl⟩ hd_X12_inRange (⟨Nat.le_of_ble_eq_true rfl, Nat.le_of_ble_eq_true rfl⟩) rfl rfl (Nat.le_of_ble_eq_true rfl) dX4_readCommand_13 ?_
      refine g_if_ne X (tgt := 21) dX4_readCommand_16 (by decide) (fun c27 => ?_) (fun c27 => ?_)
      · have h := (ite_s h).2 c27
        refine g_aload_n X 1 (i0 := 0) dX4_readCommand_21 rfl rfl ?_
        refine g_get X (D := D24) (v := .ref (E.1 82)) (T := TX4) 80 uX4 (wg_80 E _) rfl 1 (by decide) fl_X4_17 rfl rfl dX4_readCommand_22 ?_
        refine g_iload_n X 2 (i0 := 1) dX4_readCommand_25 rfl rfl ?_
        refine g_aload_n X 0 (i0 := 2) dX4_readCommand_26 rfl rfl ?_
        obtain ⟨b26, h⟩ := chk_s h
        refine g_cmdst X (D := D24) 1003 (X.2.2.2.2.2.2.1 3 (by decide)).1 (i := a0) (inB_vp b26) dX4_readCommand_27 ?_
        refine g_iconst X (v := (0 : Int32)) dX4_readCommand_28 (by decide) ?_
        refine g_istore_n X (i0 := 3) (lv' := [(3, .int (0 : Int32)), (2, .ref (E.1 1003)), (0, .ref (E.1 80)), (1, .int a0)]) dX4_readCommand_29 rfl (by decide) rfl ?_
        refine g_sub (lv' := [(0, .ref (E.1 80)), (1, .int a0), (2, .ref (E.1 1003)), (3, .int (0 : Int32))]) [2, 3, 1, 0] rfl ?_
        exact h1 _ (Option.some.inj h).symm
      · have h := (ite_s h).1 c27
        refine g_iconst X (v := (0 : Int32)) dX4_readCommand_19 (by decide) ?_
        exact g_iret X hr rfl dX4_readCommand_20 (h2 _ (Option.some.inj h).symm)
    have h := (ite_s h).2 u22
    by_cases u28 : q3 = 1004
    · have hh := (ite_s h).1 u28
      clear h
      subst u28
      have h := hh
      clear hh
      refine g_V X (As := []) (rest := []) (c_X4_readWord l G E  _ _ e1) 80 (wg_80 E _) rfl rfl kv_X4_47 ⟨rfl, rfl⟩ ⟨rfl, hd_X4_readWord⟩ (⟨Nat.le_of_ble_eq_true rfl, Nat.le_of_ble_eq_true rfl⟩) rfl rfl (Nat.le_of_ble_eq_true rfl) dX4_readCommand_1 ?_
      refine g_astore_n X (i0 := 2) (lv' := [(2, .ref (E.1 1004)), (0, .ref (E.1 80)), (1, .int a0)]) dX4_readCommand_4 rfl (by decide) rfl ?_
      refine g_aload_n X 0 (i0 := 2) dX4_readCommand_5 rfl rfl ?_
      refine g_ifnull X dX4_readCommand_6 ?_
      refine g_iload_n X 2 (i0 := 1) dX4_readCommand_9 rfl rfl ?_
      refine g_iconst X (v := (0 : Int32)) dX4_readCommand_10 (by decide) ?_
      refine g_bipush X (v := (9 : Int32)) dX4_readCommand_11 (by decide) ?_
      obtain ⟨r31, D30, e29, h⟩ := cI_s h
      refine g_SN X (As := [.int a0, .int (0 : Int32), .int (9 : Int32)]) (rest := []) (c_X12_inRange l G E a0 (0 : Int32) (9 : Int32) _ _ e29) wc_X12_inRange kn_X4_29 wi_RX12 wt_X12_inRange ⟨rfl, rfl⟩ hd_X12_inRange (⟨Nat.le_of_ble_eq_true rfl, Nat.le_of_ble_eq_true rfl⟩) rfl rfl (Nat.le_of_ble_eq_true rfl) dX4_readCommand_13 ?_
      refine g_if_ne X (tgt := 21) dX4_readCommand_16 (by decide) (fun c33 => ?_) (fun c33 => ?_)
      · have h := (ite_s h).2 c33
        refine g_aload_n X 1 (i0 := 0) dX4_readCommand_21 rfl rfl ?_
        refine g_get X (D := D30) (v := .ref (E.1 82)) (T := TX4) 80 uX4 (wg_80 E _) rfl 1 (by decide) fl_X4_17 rfl rfl dX4_readCommand_22 ?_
        refine g_iload_n X 2 (i0 := 1) dX4_readCommand_25 rfl rfl ?_
        refine g_aload_n X 0 (i0 := 2) dX4_readCommand_26 rfl rfl ?_
        obtain ⟨b32, h⟩ := chk_s h
        refine g_cmdst X (D := D30) 1004 (X.2.2.2.2.2.2.1 4 (by decide)).1 (i := a0) (inB_vp b32) dX4_readCommand_27 ?_
        refine g_iconst X (v := (0 : Int32)) dX4_readCommand_28 (by decide) ?_
        refine g_istore_n X (i0 := 3) (lv' := [(3, .int (0 : Int32)), (2, .ref (E.1 1004)), (0, .ref (E.1 80)), (1, .int a0)]) dX4_readCommand_29 rfl (by decide) rfl ?_
        refine g_sub (lv' := [(0, .ref (E.1 80)), (1, .int a0), (2, .ref (E.1 1004)), (3, .int (0 : Int32))]) [2, 3, 1, 0] rfl ?_
        exact h1 _ (Option.some.inj h).symm
      · have h := (ite_s h).1 c33
        refine g_iconst X (v := (0 : Int32)) dX4_readCommand_19 (by decide) ?_
        exact g_iret X hr rfl dX4_readCommand_20 (h2 _ (Option.some.inj h).symm)
    have h := (ite_s h).2 u28
    by_cases u34 : q3 = 1005
    · have hh := (ite_s h).1 u34
      clear h
      subst u34
      have h := hh
      clear hh
      refine g_V X (As := []) (rest := []) (c_X4_readWord l G E  _ _ e1) 80 (wg_80 E _) rfl rfl kv_X4_47 ⟨rfl, rfl⟩ ⟨rfl, hd_X4_readWord⟩ (⟨Nat.le_of_ble_eq_true rfl, Nat.le_of_ble_eq_true rfl⟩) rfl rfl (Nat.le_of_ble_eq_true rfl) dX4_readCommand_1 ?_
      refine g_astore_n X (i0 := 2) (lv' := [(2, .ref (E.1 1005)), (0, .ref (E.1 80)), (1, .int a0)]) dX4_readCommand_4 rfl (by decide) rfl ?_
      refine g_aload_n X 0 (i0 := 2) dX4_readCommand_5 rfl rfl ?_
      refine g_ifnull X dX4_readCommand_6 ?_
      refine g_iload_n X 2 (i0 := 1) dX4_readCommand_9 rfl rfl ?_
      refine g_iconst X (v := (0 : Int32)) dX4_readCommand_10 (by decide) ?_
      refine g_bipush X (v := (9 : Int32)) dX4_readCommand_11 (by decide) ?_
      obtain ⟨r37, D36, e35, h⟩ := cI_s h
      refine g_SN X (As := [.int a0, .int (0 : Int32), .int (9 : Int32)]) (rest := []) (c_X12_inRange l G E a0 (0 : Int32) (9 : Int32) _ _ e35) wc_X12_inRange kn_X4_29 wi_RX12 wt_X12_inRange ⟨rfl, rfl⟩ hd_X12_inRange (⟨Nat.le_of_ble_eq_true rfl, Nat.le_of_ble_eq_true rfl⟩) rfl rfl (Nat.le_of_ble_eq_true rfl) dX4_readCommand_13 ?_
      refine g_if_ne X (tgt := 21) dX4_readCommand_16 (by decide) (fun c39 => ?_) (fun c39 => ?_)
      · have h := (ite_s h).2 c39
        refine g_aload_n X 1 (i0 := 0) dX4_readCommand_21 rfl rfl ?_
        refine g_get X (D := D36) (v := .ref (E.1 82)) (T := TX4) 80 uX4 (wg_80 E _) rfl 1 (by decide) fl_X4_17 rfl rfl dX4_readCommand_22 ?_
        refine g_iload_n X 2 (i0 := 1) dX4_readCommand_25 rfl rfl ?_
        refine g_aload_n X 0 (i0 := 2) dX4_readCommand_26 rfl rfl ?_
        obtain ⟨b38, h⟩ := chk_s h
        refine g_cmdst X (D := D36) 1005 (X.2.2.2.2.2.2.1 5 (by decide)).1 (i := a0) (inB_vp b38) dX4_readCommand_27 ?_
        refine g_iconst X (v := (0 : Int32)) dX4_readCommand_28 (by decide) ?_
        refine g_istore_n X (i0 := 3) (lv' := [(3, .int (0 : Int32)), (2, .ref (E.1 1005)), (0, .ref (E.1 80)), (1, .int a0)]) dX4_readCommand_29 rfl (by decide) rfl ?_
        refine g_sub (lv' := [(0, .ref (E.1 80)), (1, .int a0), (2, .ref (E.1 1005)), (3, .int (0 : Int32))]) [2, 3, 1, 0] rfl ?_
        exact h1 _ (Option.some.inj h).symm
      · have h := (ite_s h).1 c39
        refine g_iconst X (v := (0 : Int32)) dX4_readCommand_19 (by decide) ?_
        exact g_iret X hr rfl dX4_readCommand_20 (h2 _ (Option.some.inj h).symm)
    have h := (ite_s h).2 u34
    by_cases u40 : q3 = 1006
    · have hh := (ite_s h).1 u40
      clear h
      subst u40
      have h := hh
      clear hh
      refine g_V X (As := []) (rest := []) (c_X4_readWord l G E  _ _ e1) 80 (wg_80 E _) rfl rfl kv_X4_47 ⟨rfl, rfl⟩ ⟨rfl, hd_X4_readWord⟩ (⟨Nat.le_of_ble_eq_true rfl, Nat.le_of_ble_eq_true rfl⟩) rfl rfl (Nat.le_of_ble_eq_true rfl) dX4_readCommand_1 ?_
      refine g_astore_n X (i0 := 2) (lv' := [(2, .ref (E.1 1006)), (0, .ref (E.1 80)), (1, .int a0)]) dX4_readCommand_4 rfl (by decide) rfl ?_
      refine g_aload_n X 0 (i0 := 2) dX4_readCommand_5 rfl rfl ?_
      refine g_ifnull X dX4_readCommand_6 ?_
      refine g_iload_n X 2 (i0 := 1) dX4_readCommand_9 rfl rfl ?_
      refine g_iconst X (v := (0 : Int32)) dX4_readCommand_10 (by decide) ?_
      refine g_bipush X (v := (9 : Int32)) dX4_readCommand_11 (by decide) ?_
      obtain ⟨r43, D42, e41, h⟩ := cI_s h
      refine g_SN X (As := [.int a0, .int (0 : Int32), .int (9 : Int32)]) (rest := []) (c_X12_inRange l G E a0 (0 : Int32) (9 : Int32) _ _ e41) wc_X12_inRange kn_X4_29 wi_RX12 wt_X12_inRange ⟨rfl, rfl⟩ hd_X12_inRange (⟨Nat.le_of_ble_eq_true rfl, Nat.le_of_ble_eq_true rfl⟩) rfl rfl (Nat.le_of_ble_eq_true rfl) dX4_readCommand_13 ?_
      refine g_if_ne X (tgt := 21) dX4_readCommand_16 (by decide) (fun c45 => ?_) (fun c45 => ?_)
      · have h := (ite_s h).2 c45
        refine g_aload_n X 1 (i0 := 0) dX4_readCommand_21 rfl rfl ?_
        refine g_get X (D := D42) (v := .ref (E.1 82)) (T := TX4) 80 uX4 (wg_80 E _) rfl 1 (by decide) fl_X4_17 rfl rfl dX4_readCommand_22 ?_
        refine g_iload_n X 2 (i0 := 1) dX4_readCommand_25 rfl rfl ?_
        refine g_aload_n X 0 (i0 := 2) dX4_readCommand_26 rfl rfl ?_
        obtain ⟨b44, h⟩ := chk_s h
        refine g_cmdst X (D := D42) 1006 (X.2.2.2.2.2.2.1 6 (by decide)).1 (i := a0) (inB_vp b44) dX4_readCommand_27 ?_
        refine g_iconst X (v := (0 : Int32)) dX4_readCommand_28 (by decide) ?_
        refine g_istore_n X (i0 := 3) (lv' := [(3, .int (0 : Int32)), (2, .ref (E.1 1006)), (0, .ref (E.1 80)), (1, .int a0)]) dX4_readCommand_29 rfl (by decide) rfl ?_
        refine g_sub (lv' := [(0, .ref (E.1 80)), (1, .int a0), (2, .ref (E.1 1006)), (3, .int (0 : Int32))]) [2, 3, 1, 0] rfl ?_
        exact h1 _ (Option.some.inj h).symm
      · have h := (ite_s h).1 c45
        refine g_iconst X (v := (0 : Int32)) dX4_readCommand_19 (by decide) ?_
        exact g_iret X hr rfl dX4_readCommand_20 (h2 _ (Option.some.inj h).symm)
    have h := (ite_s h).2 u40
    cases h
  · refine g_V X (As := []) (rest := []) (c_X4_readWord l G E  _ _ e1) 80 (wg_80 E _) rfl rfl kv_X4_47 ⟨rfl, rfl⟩ ⟨rfl, hd_X4_readWord⟩ (⟨Nat.le_of_ble_eq_true rfl, Nat.le_of_ble_eq_true rfl⟩) rfl rfl (Nat.le_of_ble_eq_true rfl) dX4_readCommand_1 ?_
    refine g_astore_nN X (i0 := 2) (lv' := [(2, .null), (0, .ref (E.1 80)), (1, .int a0)]) dX4_readCommand_4 rfl (by decide) rfl ?_
    refine g_aload_nN X 0 (i0 := 2) dX4_readCommand_5 rfl rfl ?_
    refine g_ifnullN X (tgt := 19) dX4_readCommand_6 (by decide) ?_
    refine g_iconst X (v := (0 : Int32)) dX4_readCommand_19 (by decide) ?_
    exact g_iret X hr rfl dX4_readCommand_20 (h2 _ (Option.some.inj h).symm)
set_option maxRecDepth 100000 in
set_option maxHeartbeats 4000000 in
theorem bl_X4_readCommand_1 {p : Program} {l : Launch} {e : Env} {s : State} {m : MethodId} {args : Array Value} {below : List Frame} {meth : Method} {c : Code} {G : va_G} {E : EE} {r : RT} (X : CX p s m args meth c cX4_readCommand RX4 6 G E) (hr : meth.sig.returnType = (some .boolean)) (x1 : Int32) (x3 : Int32) (D : DD) (o : (Nat × List Int32 × DD) ⊕ RT) (h : b_X4_readCommand_1 x1 x3 D = some o) (h1 : ∀ x, o = .inl x → hg_X4_readCommand p l e s m args below meth c G E r x.1 x.2.1 x.2.2) (h2 : ∀ x, o = .inr x → x = r) : GW p l e (rmm 7) s m args below meth c G E 6 (MQ below (QR G E s.heap.size r) args s 0 0 (fr E s.heap.size)) 0 0 D 30 [(0, .ref (E.1 80)), (1, .int x1), (2, .ref (E.1 1000)), (3, .int x3)] [] := by
  unfold b_X4_readCommand_1 at h
  refine g_iload_n X 3 (i0 := 3) dX4_readCommand_30 rfl rfl ?_
  refine g_aload_n X 2 (i0 := 2) dX4_readCommand_31 rfl rfl ?_
  refine g_getK X (v := .int (3 : Int32)) (X.2.2.2.2.2.2.1 0 (by decide)).2.2.1 fl_X4_51 dX4_readCommand_32 ?_
  refine g_icmp_ge X (tgt := 94) dX4_readCommand_35 (by decide) (fun c55 => ?_) (fun c55 => ?_)
  · have h := (ite_s h).1 c55
    refine g_iconst X (v := (1 : Int32)) dX4_readCommand_94 (by decide) ?_
    exact g_iret X hr rfl dX4_readCommand_95 (h2 _ (Option.some.inj h).symm)
  · have h := (ite_s h).2 c55
    refine g_aload_n X 0 (i0 := 0) dX4_readCommand_38 rfl rfl ?_
    refine g_aload_n X 2 (i0 := 2) dX4_readCommand_39 rfl rfl ?_
    refine g_getK X (v := .int (1 : Int32)) (X.2.2.2.2.2.2.1 0 (by decide)).2.2.2.1 fl_X4_53 dX4_readCommand_40 ?_
    obtain ⟨r48, D47, e46, h⟩ := cI_s h
    refine g_V X (As := [.int (1 : Int32)]) (rest := []) (c_X4_readNumber l G E (1 : Int32) _ _ e46) 80 (wg_80 E _) rfl rfl kv_X4_56 ⟨rfl, rfl⟩ ⟨rfl, hd_X4_readNumber⟩ (⟨Nat.le_of_ble_eq_true rfl, Nat.le_of_ble_eq_true rfl⟩) rfl rfl (Nat.le_of_ble_eq_true rfl) dX4_readCommand_43 ?_
    refine g_istore X (lv' := [(4, .int r48), (0, .ref (E.1 80)), (1, .int x1), (2, .ref (E.1 1000)), (3, .int x3)]) dX4_readCommand_46 (by decide) rfl ?_
    refine g_iload_n X 2 (i0 := 1) dX4_readCommand_48 rfl rfl ?_
    refine g_iconst X (v := (3 : Int32)) dX4_readCommand_49 (by decide) ?_
    refine g_imul X dX4_readCommand_50 ?_
    refine g_iload_n X 4 (i0 := 3) dX4_readCommand_51 rfl rfl ?_
    refine g_iadd X dX4_readCommand_52 ?_
    refine g_istore X (lv' := [(5, .int ((x1 * (3 : Int32)) + x3)), (4, .int r48), (0, .ref (E.1 80)), (1, .int x1), (2, .ref (E.1 1000)), (3, .int x3)]) dX4_readCommand_53 (by decide) rfl ?_
    refine g_iload X 1 dX4_readCommand_55 rfl ?_
    refine g_iconst X (v := (-1 : Int32)) dX4_readCommand_57 (by decide) ?_
    refine g_icmp_eq X (tgt := 77) dX4_readCommand_58 (by decide) (fun c54 => ?_) (fun c54 => ?_)
    · have h := (ite_s h).1 c54
      refine g_iconst X (v := (0 : Int32)) dX4_readCommand_77 (by decide) ?_
      exact g_iret X hr rfl dX4_readCommand_78 (h2 _ (Option.some.inj h).symm)
    · have h := (ite_s h).2 c54
      refine g_iload X 0 dX4_readCommand_61 rfl ?_
      refine g_iconst X (v := (0 : Int32)) dX4_readCommand_63 (by decide) ?_
      refine g_aload_n X 2 (i0 := 0) dX4_readCommand_64 rfl rfl ?_
      refine g_get X (D := D47) (v := .ref (E.1 83)) (T := TX4) 80 uX4 (wg_80 E _) rfl 2 (by decide) fl_X4_21 rfl rfl dX4_readCommand_65 ?_
      refine g_alen X (D := D47) (v := (30 : Int32)) (t0 := 0) 83 (wg_83 E _) rfl rfl dX4_readCommand_68 ?_
      refine g_iconst X (v := (1 : Int32)) dX4_readCommand_69 (by decide) ?_
      refine g_isub X dX4_readCommand_70 ?_
      obtain ⟨r51, D50, e49, h⟩ := cI_s h
      refine g_SN X (As := [.int ((x1 * (3 : Int32)) + x3), .int (0 : Int32), .int ((30 : Int32) - (1 : Int32))]) (rest := []) (c_X12_inRange l G E ((x1 * (3 : Int32)) + x3) (0 : Int32) ((30 : Int32) - (1 : Int32)) _ _ e49) wc_X12_inRange kn_X4_29 wi_RX12 wt_X12_inRange ⟨rfl, rfl⟩ hd_X12_inRange (⟨Nat.le_of_ble_eq_true rfl, Nat.le_of_ble_eq_true rfl⟩) rfl rfl (Nat.le_of_ble_eq_true rfl) dX4_readCommand_71 ?_
      refine g_if_ne X (tgt := 79) dX4_readCommand_74 (by decide) (fun c53 => ?_) (fun c53 => ?_)
      · have h := (ite_s h).2 c53
        refine g_aload_n X 2 (i0 := 0) dX4_readCommand_79 rfl rfl ?_
        refine g_get X (D := D50) (v := .ref (E.1 83)) (T := TX4) 80 uX4 (wg_80 E _) rfl 2 (by decide) fl_X4_21 rfl rfl dX4_readCommand_80 ?_
        refine g_iload X 0 dX4_readCommand_83 rfl ?_
        refine g_iload X 1 dX4_readCommand_85 rfl ?_
        obtain ⟨b52, h⟩ := chk_s h
        refine g_iast X (D := D50) (f := (D50.2.2.1 66)) (i := ((x1 * (3 : Int32)) + x3)) (x := r48) (D' := (setA D50 66 (upd (D50.2.2.1 66) ((x1 * (3 : Int32)) + x3).toNatClampNeg r48))) 83 (wg_83 E _) (inB_vp b52) (ws_A_66 E _ _) dX4_readCommand_87 ?_
        refine g_iinc X 5 (v := (x3 + (1 : Int32))) (lv' := [(3, .int (x3 + (1 : Int32))), (5, .int ((x1 * (3 : Int32)) + x3)), (4, .int r48), (0, .ref (E.1 80)), (1, .int x1), (2, .ref (E.1 1000))]) dX4_readCommand_88 rfl rfl (by decide) rfl ?_
        refine g_goto X (tgt := 30) dX4_readCommand_91 (by decide) ?_
        refine g_sub (lv' := [(0, .ref (E.1 80)), (1, .int x1), (2, .ref (E.1 1000)), (3, .int (x3 + (1 : Int32)))]) [3, 4, 5, 0] rfl ?_
        exact h1 _ (Option.some.inj h).symm
      · have h := (ite_s h).1 c53
        refine g_iconst X (v := (0 : Int32)) dX4_readCommand_77 (by decide) ?_
        exact g_iret X hr rfl dX4_readCommand_78 (h2 _ (Option.some.inj h).symm)
set_option maxRecDepth 100000 in
set_option maxHeartbeats 4000000 in
theorem bl_X4_readCommand_2 {p : Program} {l : Launch} {e : Env} {s : State} {m : MethodId} {args : Array Value} {below : List Frame} {meth : Method} {c : Code} {G : va_G} {E : EE} {r : RT} (X : CX p s m args meth c cX4_readCommand RX4 6 G E) (hr : meth.sig.returnType = (some .boolean)) (x1 : Int32) (x3 : Int32) (D : DD) (o : (Nat × List Int32 × DD) ⊕ RT) (h : b_X4_readCommand_2 x1 x3 D = some o) (h1 : ∀ x, o = .inl x → hg_X4_readCommand p l e s m args below meth c G E r x.1 x.2.1 x.2.2) (h2 : ∀ x, o = .inr x → x = r) : GW p l e (rmm 7) s m args below meth c G E 6 (MQ below (QR G E s.heap.size r) args s 0 0 (fr E s.heap.size)) 0 0 D 30 [(0, .ref (E.1 80)), (1, .int x1), (2, .ref (E.1 1001)), (3, .int x3)] [] := by
  unfold b_X4_readCommand_2 at h
  refine g_iload_n X 3 (i0 := 3) dX4_readCommand_30 rfl rfl ?_
  refine g_aload_n X 2 (i0 := 2) dX4_readCommand_31 rfl rfl ?_
  refine g_getK X (v := .int (3 : Int32)) (X.2.2.2.2.2.2.1 1 (by decide)).2.2.1 fl_X4_51 dX4_readCommand_32 ?_
  refine g_icmp_ge X (tgt := 94) dX4_readCommand_35 (by decide) (fun c65 => ?_) (fun c65 => ?_)
  · have h := (ite_s h).1 c65
    refine g_iconst X (v := (1 : Int32)) dX4_readCommand_94 (by decide) ?_
    exact g_iret X hr rfl dX4_readCommand_95 (h2 _ (Option.some.inj h).symm)
  · have h := (ite_s h).2 c65
    refine g_aload_n X 0 (i0 := 0) dX4_readCommand_38 rfl rfl ?_
    refine g_aload_n X 2 (i0 := 2) dX4_readCommand_39 rfl rfl ?_
    refine g_getK X (v := .int (1 : Int32)) (X.2.2.2.2.2.2.1 1 (by decide)).2.2.2.1 fl_X4_53 dX4_readCommand_40 ?_
    obtain ⟨r58, D57, e56, h⟩ := cI_s h
    refine g_V X (As := [.int (1 : Int32)]) (rest := []) (c_X4_readNumber l G E (1 : Int32) _ _ e56) 80 (wg_80 E _) rfl rfl kv_X4_56 ⟨rfl, rfl⟩ ⟨rfl, hd_X4_readNumber⟩ (⟨Nat.le_of_ble_eq_true rfl, Nat.le_of_ble_eq_true rfl⟩) rfl rfl (Nat.le_of_ble_eq_true rfl) dX4_readCommand_43 ?_
    refine g_istore X (lv' := [(4, .int r58), (0, .ref (E.1 80)), (1, .int x1), (2, .ref (E.1 1001)), (3, .int x3)]) dX4_readCommand_46 (by decide) rfl ?_
    refine g_iload_n X 2 (i0 := 1) dX4_readCommand_48 rfl rfl ?_
    refine g_iconst X (v := (3 : Int32)) dX4_readCommand_49 (by decide) ?_
    refine g_imul X dX4_readCommand_50 ?_
    refine g_iload_n X 4 (i0 := 3) dX4_readCommand_51 rfl rfl ?_
    refine g_iadd X dX4_readCommand_52 ?_
    refine g_istore X (lv' := [(5, .int ((x1 * (3 : Int32)) + x3)), (4, .int r58), (0, .ref (E.1 80)), (1, .int x1), (2, .ref (E.1 1001)), (3, .int x3)]) dX4_readCommand_53 (by decide) rfl ?_
    refine g_iload X 1 dX4_readCommand_55 rfl ?_
    refine g_iconst X (v := (-1 : Int32)) dX4_readCommand_57 (by decide) ?_
    refine g_icmp_eq X (tgt := 77) dX4_readCommand_58 (by decide) (fun c64 => ?_) (fun c64 => ?_)
    · have h := (ite_s h).1 c64
      refine g_iconst X (v := (0 : Int32)) dX4_readCommand_77 (by decide) ?_
      exact g_iret X hr rfl dX4_readCommand_78 (h2 _ (Option.some.inj h).symm)
    · have h := (ite_s h).2 c64
      refine g_iload X 0 dX4_readCommand_61 rfl ?_
      refine g_iconst X (v := (0 : Int32)) dX4_readCommand_63 (by decide) ?_
      refine g_aload_n X 2 (i0 := 0) dX4_readCommand_64 rfl rfl ?_
      refine g_get X (D := D57) (v := .ref (E.1 83)) (T := TX4) 80 uX4 (wg_80 E _) rfl 2 (by decide) fl_X4_21 rfl rfl dX4_readCommand_65 ?_
      refine g_alen X (D := D57) (v := (30 : Int32)) (t0 := 0) 83 (wg_83 E _) rfl rfl dX4_readCommand_68 ?_
      refine g_iconst X (v := (1 : Int32)) dX4_readCommand_69 (by decide) ?_
      refine g_isub X dX4_readCommand_70 ?_
      obtain ⟨r61, D60, e59, h⟩ := cI_s h
      refine g_SN X (As := [.int ((x1 * (3 : Int32)) + x3), .int (0 : Int32), .int ((30 : Int32) - (1 : Int32))]) (rest := []) (c_X12_inRange l G E ((x1 * (3 : Int32)) + x3) (0 : Int32) ((30 : Int32) - (1 : Int32)) _ _ e59) wc_X12_inRange kn_X4_29 wi_RX12 wt_X12_inRange ⟨rfl, rfl⟩ hd_X12_inRange (⟨Nat.le_of_ble_eq_true rfl, Nat.le_of_ble_eq_true rfl⟩) rfl rfl (Nat.le_of_ble_eq_true rfl) dX4_readCommand_71 ?_
      refine g_if_ne X (tgt := 79) dX4_readCommand_74 (by decide) (fun c63 => ?_) (fun c63 => ?_)
      · have h := (ite_s h).2 c63
        refine g_aload_n X 2 (i0 := 0) dX4_readCommand_79 rfl rfl ?_
        refine g_get X (D := D60) (v := .ref (E.1 83)) (T := TX4) 80 uX4 (wg_80 E _) rfl 2 (by decide) fl_X4_21 rfl rfl dX4_readCommand_80 ?_
        refine g_iload X 0 dX4_readCommand_83 rfl ?_
        refine g_iload X 1 dX4_readCommand_85 rfl ?_
        obtain ⟨b62, h⟩ := chk_s h
        refine g_iast X (D := D60) (f := (D60.2.2.1 66)) (i := ((x1 * (3 : Int32)) + x3)) (x := r58) (D' := (setA D60 66 (upd (D60.2.2.1 66) ((x1 * (3 : Int32)) + x3).toNatClampNeg r58))) 83 (wg_83 E _) (inB_vp b62) (ws_A_66 E _ _) dX4_readCommand_87 ?_
        refine g_iinc X 5 (v := (x3 + (1 : Int32))) (lv' := [(3, .int (x3 + (1 : Int32))), (5, .int ((x1 * (3 : Int32)) + x3)), (4, .int r58), (0, .ref (E.1 80)), (1, .int x1), (2, .ref (E.1 1001))]) dX4_readCommand_88 rfl rfl (by decide) rfl ?_
        refine g_goto X (tgt := 30) dX4_readCommand_91 (by decide) ?_
        refine g_sub (lv' := [(0, .ref (E.1 80)), (1, .int x1), (2, .ref (E.1 1001)), (3, .int (x3 + (1 : Int32)))]) [3, 4, 5, 0] rfl ?_
        exact h1 _ (Option.some.inj h).symm
      · have h := (ite_s h).1 c63
        refine g_iconst X (v := (0 : Int32)) dX4_readCommand_77 (by decide) ?_
        exact g_iret X hr rfl dX4_readCommand_78 (h2 _ (Option.some.inj h).symm)
set_option maxRecDepth 100000 in
set_option maxHeartbeats 4000000 in
theorem bl_X4_readCommand_3 {p : Program} {l : Launch} {e : Env} {s : State} {m : MethodId} {args : Array Value} {below : List Frame} {meth : Method} {c : Code} {G : va_G} {E : EE} {r : RT} (X : CX p s m args meth c cX4_readCommand RX4 6 G E) (hr : meth.sig.returnType = (some .boolean)) (x1 : Int32) (x3 : Int32) (D : DD) (o : (Nat × List Int32 × DD) ⊕ RT) (h : b_X4_readCommand_3 x1 x3 D = some o) (h1 : ∀ x, o = .inl x → hg_X4_readCommand p l e s m args below meth c G E r x.1 x.2.1 x.2.2) (h2 : ∀ x, o = .inr x → x = r) : GW p l e (rmm 7) s m args below meth c G E 6 (MQ below (QR G E s.heap.size r) args s 0 0 (fr E s.heap.size)) 0 0 D 30 [(0, .ref (E.1 80)), (1, .int x1), (2, .ref (E.1 1002)), (3, .int x3)] [] := by
  unfold b_X4_readCommand_3 at h
  refine g_iload_n X 3 (i0 := 3) dX4_readCommand_30 rfl rfl ?_
  refine g_aload_n X 2 (i0 := 2) dX4_readCommand_31 rfl rfl ?_
  refine g_getK X (v := .int (1 : Int32)) (X.2.2.2.2.2.2.1 2 (by decide)).2.2.1 fl_X4_51 dX4_readCommand_32 ?_
  refine g_icmp_ge X (tgt := 94) dX4_readCommand_35 (by decide) (fun c75 => ?_) (fun c75 => ?_)
  · have h := (ite_s h).1 c75
    refine g_iconst X (v := (1 : Int32)) dX4_readCommand_94 (by decide) ?_
    exact g_iret X hr rfl dX4_readCommand_95 (h2 _ (Option.some.inj h).symm)
  · have h := (ite_s h).2 c75
    refine g_aload_n X 0 (i0 := 0) dX4_readCommand_38 rfl rfl ?_
    refine g_aload_n X 2 (i0 := 2) dX4_readCommand_39 rfl rfl ?_
    refine g_getK X (v := .int (1 : Int32)) (X.2.2.2.2.2.2.1 2 (by decide)).2.2.2.1 fl_X4_53 dX4_readCommand_40 ?_
    obtain ⟨r68, D67, e66, h⟩ := cI_s h
    refine g_V X (As := [.int (1 : Int32)]) (rest := []) (c_X4_readNumber l G E (1 : Int32) _ _ e66) 80 (wg_80 E _) rfl rfl kv_X4_56 ⟨rfl, rfl⟩ ⟨rfl, hd_X4_readNumber⟩ (⟨Nat.le_of_ble_eq_true rfl, Nat.le_of_ble_eq_true rfl⟩) rfl rfl (Nat.le_of_ble_eq_true rfl) dX4_readCommand_43 ?_
    refine g_istore X (lv' := [(4, .int r68), (0, .ref (E.1 80)), (1, .int x1), (2, .ref (E.1 1002)), (3, .int x3)]) dX4_readCommand_46 (by decide) rfl ?_
    refine g_iload_n X 2 (i0 := 1) dX4_readCommand_48 rfl rfl ?_
    refine g_iconst X (v := (3 : Int32)) dX4_readCommand_49 (by decide) ?_
    refine g_imul X dX4_readCommand_50 ?_
    refine g_iload_n X 4 (i0 := 3) dX4_readCommand_51 rfl rfl ?_
    refine g_iadd X dX4_readCommand_52 ?_
    refine g_istore X (lv' := [(5, .int ((x1 * (3 : Int32)) + x3)), (4, .int r68), (0, .ref (E.1 80)), (1, .int x1), (2, .ref (E.1 1002)), (3, .int x3)]) dX4_readCommand_53 (by decide) rfl ?_
    refine g_iload X 1 dX4_readCommand_55 rfl ?_
    refine g_iconst X (v := (-1 : Int32)) dX4_readCommand_57 (by decide) ?_
    refine g_icmp_eq X (tgt := 77) dX4_readCommand_58 (by decide) (fun c74 => ?_) (fun c74 => ?_)
    · have h := (ite_s h).1 c74
      refine g_iconst X (v := (0 : Int32)) dX4_readCommand_77 (by decide) ?_
      exact g_iret X hr rfl dX4_readCommand_78 (h2 _ (Option.some.inj h).symm)
    · have h := (ite_s h).2 c74
      refine g_iload X 0 dX4_readCommand_61 rfl ?_
      refine g_iconst X (v := (0 : Int32)) dX4_readCommand_63 (by decide) ?_
      refine g_aload_n X 2 (i0 := 0) dX4_readCommand_64 rfl rfl ?_
      refine g_get X (D := D67) (v := .ref (E.1 83)) (T := TX4) 80 uX4 (wg_80 E _) rfl 2 (by decide) fl_X4_21 rfl rfl dX4_readCommand_65 ?_
      refine g_alen X (D := D67) (v := (30 : Int32)) (t0 := 0) 83 (wg_83 E _) rfl rfl dX4_readCommand_68 ?_
      refine g_iconst X (v := (1 : Int32)) dX4_readCommand_69 (by decide) ?_
      refine g_isub X dX4_readCommand_70 ?_
      obtain ⟨r71, D70, e69, h⟩ := cI_s h
      refine g_SN X (As := [.int ((x1 * (3 : Int32)) + x3), .int (0 : Int32), .int ((30 : Int32) - (1 : Int32))]) (rest := []) (c_X12_inRange l G E ((x1 * (3 : Int32)) + x3) (0 : Int32) ((30 : Int32) - (1 : Int32)) _ _ e69) wc_X12_inRange kn_X4_29 wi_RX12 wt_X12_inRange ⟨rfl, rfl⟩ hd_X12_inRange (⟨Nat.le_of_ble_eq_true rfl, Nat.le_of_ble_eq_true rfl⟩) rfl rfl (Nat.le_of_ble_eq_true rfl) dX4_readCommand_71 ?_
      refine g_if_ne X (tgt := 79) dX4_readCommand_74 (by decide) (fun c73 => ?_) (fun c73 => ?_)
      · have h := (ite_s h).2 c73
        refine g_aload_n X 2 (i0 := 0) dX4_readCommand_79 rfl rfl ?_
        refine g_get X (D := D70) (v := .ref (E.1 83)) (T := TX4) 80 uX4 (wg_80 E _) rfl 2 (by decide) fl_X4_21 rfl rfl dX4_readCommand_80 ?_
        refine g_iload X 0 dX4_readCommand_83 rfl ?_
        refine g_iload X 1 dX4_readCommand_85 rfl ?_
        obtain ⟨b72, h⟩ := chk_s h
        refine g_iast X (D := D70) (f := (D70.2.2.1 66)) (i := ((x1 * (3 : Int32)) + x3)) (x := r68) (D' := (setA D70 66 (upd (D70.2.2.1 66) ((x1 * (3 : Int32)) + x3).toNatClampNeg r68))) 83 (wg_83 E _) (inB_vp b72) (ws_A_66 E _ _) dX4_readCommand_87 ?_
        refine g_iinc X 5 (v := (x3 + (1 : Int32))) (lv' := [(3, .int (x3 + (1 : Int32))), (5, .int ((x1 * (3 : Int32)) + x3)), (4, .int r68), (0, .ref (E.1 80)), (1, .int x1), (2, .ref (E.1 1002))]) dX4_readCommand_88 rfl rfl (by decide) rfl ?_
        refine g_goto X (tgt := 30) dX4_readCommand_91 (by decide) ?_
        refine g_sub (lv' := [(0, .ref (E.1 80)), (1, .int x1), (2, .ref (E.1 1002)), (3, .int (x3 + (1 : Int32)))]) [3, 4, 5, 0] rfl ?_
        exact h1 _ (Option.some.inj h).symm
      · have h := (ite_s h).1 c73
        refine g_iconst X (v := (0 : Int32)) dX4_readCommand_77 (by decide) ?_
        exact g_iret X hr rfl dX4_readCommand_78 (h2 _ (Option.some.inj h).symm)
set_option maxRecDepth 100000 in
set_option maxHeartbeats 4000000 in
theorem bl_X4_readCommand_4 {p : Program} {l : Launch} {e : Env} {s : State} {m : MethodId} {args : Array Value} {below : List Frame} {meth : Method} {c : Code} {G : va_G} {E : EE} {r : RT} (X : CX p s m args meth c cX4_readCommand RX4 6 G E) (hr : meth.sig.returnType = (some .boolean)) (x1 : Int32) (x3 : Int32) (D : DD) (o : (Nat × List Int32 × DD) ⊕ RT) (h : b_X4_readCommand_4 x1 x3 D = some o) (h1 : ∀ x, o = .inl x → hg_X4_readCommand p l e s m args below meth c G E r x.1 x.2.1 x.2.2) (h2 : ∀ x, o = .inr x → x = r) : GW p l e (rmm 7) s m args below meth c G E 6 (MQ below (QR G E s.heap.size r) args s 0 0 (fr E s.heap.size)) 0 0 D 30 [(0, .ref (E.1 80)), (1, .int x1), (2, .ref (E.1 1003)), (3, .int x3)] [] := by
  unfold b_X4_readCommand_4 at h
  refine g_iload_n X 3 (i0 := 3) dX4_readCommand_30 rfl rfl ?_
  refine g_aload_n X 2 (i0 := 2) dX4_readCommand_31 rfl rfl ?_
  refine g_getK X (v := .int (1 : Int32)) (X.2.2.2.2.2.2.1 3 (by decide)).2.2.1 fl_X4_51 dX4_readCommand_32 ?_
  refine g_icmp_ge X (tgt := 94) dX4_readCommand_35 (by decide) (fun c85 => ?_) (fun c85 => ?_)
  · have h := (ite_s h).1 c85
    refine g_iconst X (v := (1 : Int32)) dX4_readCommand_94 (by decide) ?_
    exact g_iret X hr rfl dX4_readCommand_95 (h2 _ (Option.some.inj h).symm)
  · have h := (ite_s h).2 c85
    refine g_aload_n X 0 (i0 := 0) dX4_readCommand_38 rfl rfl ?_
    refine g_aload_n X 2 (i0 := 2) dX4_readCommand_39 rfl rfl ?_
    refine g_getK X (v := .int (1 : Int32)) (X.2.2.2.2.2.2.1 3 (by decide)).2.2.2.1 fl_X4_53 dX4_readCommand_40 ?_
    obtain ⟨r78, D77, e76, h⟩ := cI_s h
    refine g_V X (As := [.int (1 : Int32)]) (rest := []) (c_X4_readNumber l G E (1 : Int32) _ _ e76) 80 (wg_80 E _) rfl rfl kv_X4_56 ⟨rfl, rfl⟩ ⟨rfl, hd_X4_readNumber⟩ (⟨Nat.le_of_ble_eq_true rfl, Nat.le_of_ble_eq_true rfl⟩) rfl rfl (Nat.le_of_ble_eq_true rfl) dX4_readCommand_43 ?_
    refine g_istore X (lv' := [(4, .int r78), (0, .ref (E.1 80)), (1, .int x1), (2, .ref (E.1 1003)), (3, .int x3)]) dX4_readCommand_46 (by decide) rfl ?_
    refine g_iload_n X 2 (i0 := 1) dX4_readCommand_48 rfl rfl ?_
    refine g_iconst X (v := (3 : Int32)) dX4_readCommand_49 (by decide) ?_
    refine g_imul X dX4_readCommand_50 ?_
    refine g_iload_n X 4 (i0 := 3) dX4_readCommand_51 rfl rfl ?_
    refine g_iadd X dX4_readCommand_52 ?_
    refine g_istore X (lv' := [(5, .int ((x1 * (3 : Int32)) + x3)), (4, .int r78), (0, .ref (E.1 80)), (1, .int x1), (2, .ref (E.1 1003)), (3, .int x3)]) dX4_readCommand_53 (by decide) rfl ?_
    refine g_iload X 1 dX4_readCommand_55 rfl ?_
    refine g_iconst X (v := (-1 : Int32)) dX4_readCommand_57 (by decide) ?_
    refine g_icmp_eq X (tgt := 77) dX4_readCommand_58 (by decide) (fun c84 => ?_) (fun c84 => ?_)
    · have h := (ite_s h).1 c84
      refine g_iconst X (v := (0 : Int32)) dX4_readCommand_77 (by decide) ?_
      exact g_iret X hr rfl dX4_readCommand_78 (h2 _ (Option.some.inj h).symm)
    · have h := (ite_s h).2 c84
      refine g_iload X 0 dX4_readCommand_61 rfl ?_
      refine g_iconst X (v := (0 : Int32)) dX4_readCommand_63 (by decide) ?_
      refine g_aload_n X 2 (i0 := 0) dX4_readCommand_64 rfl rfl ?_
      refine g_get X (D := D77) (v := .ref (E.1 83)) (T := TX4) 80 uX4 (wg_80 E _) rfl 2 (by decide) fl_X4_21 rfl rfl dX4_readCommand_65 ?_
      refine g_alen X (D := D77) (v := (30 : Int32)) (t0 := 0) 83 (wg_83 E _) rfl rfl dX4_readCommand_68 ?_
      refine g_iconst X (v := (1 : Int32)) dX4_readCommand_69 (by decide) ?_
      refine g_isub X dX4_readCommand_70 ?_
      obtain ⟨r81, D80, e79, h⟩ := cI_s h
      refine g_SN X (As := [.int ((x1 * (3 : Int32)) + x3), .int (0 : Int32), .int ((30 : Int32) - (1 : Int32))]) (rest := []) (c_X12_inRange l G E ((x1 * (3 : Int32)) + x3) (0 : Int32) ((30 : Int32) - (1 : Int32)) _ _ e79) wc_X12_inRange kn_X4_29 wi_RX12 wt_X12_inRange ⟨rfl, rfl⟩ hd_X12_inRange (⟨Nat.le_of_ble_eq_true rfl, Nat.le_of_ble_eq_true rfl⟩) rfl rfl (Nat.le_of_ble_eq_true rfl) dX4_readCommand_71 ?_
      refine g_if_ne X (tgt := 79) dX4_readCommand_74 (by decide) (fun c83 => ?_) (fun c83 => ?_)
      · have h := (ite_s h).2 c83
        refine g_aload_n X 2 (i0 := 0) dX4_readCommand_79 rfl rfl ?_
        refine g_get X (D := D80) (v := .ref (E.1 83)) (T := TX4) 80 uX4 (wg_80 E _) rfl 2 (by decide) fl_X4_21 rfl rfl dX4_readCommand_80 ?_
        refine g_iload X 0 dX4_readCommand_83 rfl ?_
        refine g_iload X 1 dX4_readCommand_85 rfl ?_
        obtain ⟨b82, h⟩ := chk_s h
        refine g_iast X (D := D80) (f := (D80.2.2.1 66)) (i := ((x1 * (3 : Int32)) + x3)) (x := r78) (D' := (setA D80 66 (upd (D80.2.2.1 66) ((x1 * (3 : Int32)) + x3).toNatClampNeg r78))) 83 (wg_83 E _) (inB_vp b82) (ws_A_66 E _ _) dX4_readCommand_87 ?_
        refine g_iinc X 5 (v := (x3 + (1 : Int32))) (lv' := [(3, .int (x3 + (1 : Int32))), (5, .int ((x1 * (3 : Int32)) + x3)), (4, .int r78), (0, .ref (E.1 80)), (1, .int x1), (2, .ref (E.1 1003))]) dX4_readCommand_88 rfl rfl (by decide) rfl ?_
        refine g_goto X (tgt := 30) dX4_readCommand_91 (by decide) ?_
        refine g_sub (lv' := [(0, .ref (E.1 80)), (1, .int x1), (2, .ref (E.1 1003)), (3, .int (x3 + (1 : Int32)))]) [3, 4, 5, 0] rfl ?_
        exact h1 _ (Option.some.inj h).symm
      · have h := (ite_s h).1 c83
        refine g_iconst X (v := (0 : Int32)) dX4_readCommand_77 (by decide) ?_
        exact g_iret X hr rfl dX4_readCommand_78 (h2 _ (Option.some.inj h).symm)
set_option maxRecDepth 100000 in
set_option maxHeartbeats 4000000 in
theorem bl_X4_readCommand_5 {p : Program} {l : Launch} {e : Env} {s : State} {m : MethodId} {args : Array Value} {below : List Frame} {meth : Method} {c : Code} {G : va_G} {E : EE} {r : RT} (X : CX p s m args meth c cX4_readCommand RX4 6 G E) (hr : meth.sig.returnType = (some .boolean)) (x1 : Int32) (x3 : Int32) (D : DD) (o : (Nat × List Int32 × DD) ⊕ RT) (h : b_X4_readCommand_5 x1 x3 D = some o) (h1 : ∀ x, o = .inl x → hg_X4_readCommand p l e s m args below meth c G E r x.1 x.2.1 x.2.2) (h2 : ∀ x, o = .inr x → x = r) : GW p l e (rmm 7) s m args below meth c G E 6 (MQ below (QR G E s.heap.size r) args s 0 0 (fr E s.heap.size)) 0 0 D 30 [(0, .ref (E.1 80)), (1, .int x1), (2, .ref (E.1 1004)), (3, .int x3)] [] := by
  unfold b_X4_readCommand_5 at h
  refine g_iload_n X 3 (i0 := 3) dX4_readCommand_30 rfl rfl ?_
  refine g_aload_n X 2 (i0 := 2) dX4_readCommand_31 rfl rfl ?_
  refine g_getK X (v := .int (2 : Int32)) (X.2.2.2.2.2.2.1 4 (by decide)).2.2.1 fl_X4_51 dX4_readCommand_32 ?_
  refine g_icmp_ge X (tgt := 94) dX4_readCommand_35 (by decide) (fun c95 => ?_) (fun c95 => ?_)
  · have h := (ite_s h).1 c95
    refine g_iconst X (v := (1 : Int32)) dX4_readCommand_94 (by decide) ?_
    exact g_iret X hr rfl dX4_readCommand_95 (h2 _ (Option.some.inj h).symm)
  · have h := (ite_s h).2 c95
    refine g_aload_n X 0 (i0 := 0) dX4_readCommand_38 rfl rfl ?_
    refine g_aload_n X 2 (i0 := 2) dX4_readCommand_39 rfl rfl ?_
    refine g_getK X (v := .int (1 : Int32)) (X.2.2.2.2.2.2.1 4 (by decide)).2.2.2.1 fl_X4_53 dX4_readCommand_40 ?_
    obtain ⟨r88, D87, e86, h⟩ := cI_s h
    refine g_V X (As := [.int (1 : Int32)]) (rest := []) (c_X4_readNumber l G E (1 : Int32) _ _ e86) 80 (wg_80 E _) rfl rfl kv_X4_56 ⟨rfl, rfl⟩ ⟨rfl, hd_X4_readNumber⟩ (⟨Nat.le_of_ble_eq_true rfl, Nat.le_of_ble_eq_true rfl⟩) rfl rfl (Nat.le_of_ble_eq_true rfl) dX4_readCommand_43 ?_
    refine g_istore X (lv' := [(4, .int r88), (0, .ref (E.1 80)), (1, .int x1), (2, .ref (E.1 1004)), (3, .int x3)]) dX4_readCommand_46 (by decide) rfl ?_
    refine g_iload_n X 2 (i0 := 1) dX4_readCommand_48 rfl rfl ?_
    refine g_iconst X (v := (3 : Int32)) dX4_readCommand_49 (by decide) ?_
    refine g_imul X dX4_readCommand_50 ?_
    refine g_iload_n X 4 (i0 := 3) dX4_readCommand_51 rfl rfl ?_
    refine g_iadd X dX4_readCommand_52 ?_
    refine g_istore X (lv' := [(5, .int ((x1 * (3 : Int32)) + x3)), (4, .int r88), (0, .ref (E.1 80)), (1, .int x1), (2, .ref (E.1 1004)), (3, .int x3)]) dX4_readCommand_53 (by decide) rfl ?_
    refine g_iload X 1 dX4_readCommand_55 rfl ?_
    refine g_iconst X (v := (-1 : Int32)) dX4_readCommand_57 (by decide) ?_
    refine g_icmp_eq X (tgt := 77) dX4_readCommand_58 (by decide) (fun c94 => ?_) (fun c94 => ?_)
    · have h := (ite_s h).1 c94
      refine g_iconst X (v := (0 : Int32)) dX4_readCommand_77 (by decide) ?_
      exact g_iret X hr rfl dX4_readCommand_78 (h2 _ (Option.some.inj h).symm)
    · have h := (ite_s h).2 c94
      refine g_iload X 0 dX4_readCommand_61 rfl ?_
      refine g_iconst X (v := (0 : Int32)) dX4_readCommand_63 (by decide) ?_
      refine g_aload_n X 2 (i0 := 0) dX4_readCommand_64 rfl rfl ?_
      refine g_get X (D := D87) (v := .ref (E.1 83)) (T := TX4) 80 uX4 (wg_80 E _) rfl 2 (by decide) fl_X4_21 rfl rfl dX4_readCommand_65 ?_
      refine g_alen X (D := D87) (v := (30 : Int32)) (t0 := 0) 83 (wg_83 E _) rfl rfl dX4_readCommand_68 ?_
      refine g_iconst X (v := (1 : Int32)) dX4_readCommand_69 (by decide) ?_
      refine g_isub X dX4_readCommand_70 ?_
      obtain ⟨r91, D90, e89, h⟩ := cI_s h
      refine g_SN X (As := [.int ((x1 * (3 : Int32)) + x3), .int (0 : Int32), .int ((30 : Int32) - (1 : Int32))]) (rest := []) (c_X12_inRange l G E ((x1 * (3 : Int32)) + x3) (0 : Int32) ((30 : Int32) - (1 : Int32)) _ _ e89) wc_X12_inRange kn_X4_29 wi_RX12 wt_X12_inRange ⟨rfl, rfl⟩ hd_X12_inRange (⟨Nat.le_of_ble_eq_true rfl, Nat.le_of_ble_eq_true rfl⟩) rfl rfl (Nat.le_of_ble_eq_true rfl) dX4_readCommand_71 ?_
      refine g_if_ne X (tgt := 79) dX4_readCommand_74 (by decide) (fun c93 => ?_) (fun c93 => ?_)
      · have h := (ite_s h).2 c93
        refine g_aload_n X 2 (i0 := 0) dX4_readCommand_79 rfl rfl ?_
        refine g_get X (D := D90) (v := .ref (E.1 83)) (T := TX4) 80 uX4 (wg_80 E _) rfl 2 (by decide) fl_X4_21 rfl rfl dX4_readCommand_80 ?_
        refine g_iload X 0 dX4_readCommand_83 rfl ?_
        refine g_iload X 1 dX4_readCommand_85 rfl ?_
        obtain ⟨b92, h⟩ := chk_s h
        refine g_iast X (D := D90) (f := (D90.2.2.1 66)) (i := ((x1 * (3 : Int32)) + x3)) (x := r88) (D' := (setA D90 66 (upd (D90.2.2.1 66) ((x1 * (3 : Int32)) + x3).toNatClampNeg r88))) 83 (wg_83 E _) (inB_vp b92) (ws_A_66 E _ _) dX4_readCommand_87 ?_
        refine g_iinc X 5 (v := (x3 + (1 : Int32))) (lv' := [(3, .int (x3 + (1 : Int32))), (5, .int ((x1 * (3 : Int32)) + x3)), (4, .int r88), (0, .ref (E.1 80)), (1, .int x1), (2, .ref (E.1 1004))]) dX4_readCommand_88 rfl rfl (by decide) rfl ?_
        refine g_goto X (tgt := 30) dX4_readCommand_91 (by decide) ?_
        refine g_sub (lv' := [(0, .ref (E.1 80)), (1, .int x1), (2, .ref (E.1 1004)), (3, .int (x3 + (1 : Int32)))]) [3, 4, 5, 0] rfl ?_
        exact h1 _ (Option.some.inj h).symm
      · have h := (ite_s h).1 c93
        refine g_iconst X (v := (0 : Int32)) dX4_readCommand_77 (by decide) ?_
        exact g_iret X hr rfl dX4_readCommand_78 (h2 _ (Option.some.inj h).symm)
set_option maxRecDepth 100000 in
set_option maxHeartbeats 4000000 in
theorem bl_X4_readCommand_6 {p : Program} {l : Launch} {e : Env} {s : State} {m : MethodId} {args : Array Value} {below : List Frame} {meth : Method} {c : Code} {G : va_G} {E : EE} {r : RT} (X : CX p s m args meth c cX4_readCommand RX4 6 G E) (hr : meth.sig.returnType = (some .boolean)) (x1 : Int32) (x3 : Int32) (D : DD) (o : (Nat × List Int32 × DD) ⊕ RT) (h : b_X4_readCommand_6 x1 x3 D = some o) (h1 : ∀ x, o = .inl x → hg_X4_readCommand p l e s m args below meth c G E r x.1 x.2.1 x.2.2) (h2 : ∀ x, o = .inr x → x = r) : GW p l e (rmm 7) s m args below meth c G E 6 (MQ below (QR G E s.heap.size r) args s 0 0 (fr E s.heap.size)) 0 0 D 30 [(0, .ref (E.1 80)), (1, .int x1), (2, .ref (E.1 1005)), (3, .int x3)] [] := by
  unfold b_X4_readCommand_6 at h
  refine g_iload_n X 3 (i0 := 3) dX4_readCommand_30 rfl rfl ?_
  refine g_aload_n X 2 (i0 := 2) dX4_readCommand_31 rfl rfl ?_
  refine g_getK X (v := .int (2 : Int32)) (X.2.2.2.2.2.2.1 5 (by decide)).2.2.1 fl_X4_51 dX4_readCommand_32 ?_
  refine g_icmp_ge X (tgt := 94) dX4_readCommand_35 (by decide) (fun c105 => ?_) (fun c105 => ?_)
  · have h := (ite_s h).1 c105
    refine g_iconst X (v := (1 : Int32)) dX4_readCommand_94 (by decide) ?_
    exact g_iret X hr rfl dX4_readCommand_95 (h2 _ (Option.some.inj h).symm)
  · have h := (ite_s h).2 c105
    refine g_aload_n X 0 (i0 := 0) dX4_readCommand_38 rfl rfl ?_
    refine g_aload_n X 2 (i0 := 2) dX4_readCommand_39 rfl rfl ?_
    refine g_getK X (v := .int (2 : Int32)) (X.2.2.2.2.2.2.1 5 (by decide)).2.2.2.1 fl_X4_53 dX4_readCommand_40 ?_
    obtain ⟨r98, D97, e96, h⟩ := cI_s h
    refine g_V X (As := [.int (2 : Int32)]) (rest := []) (c_X4_readNumber l G E (2 : Int32) _ _ e96) 80 (wg_80 E _) rfl rfl kv_X4_56 ⟨rfl, rfl⟩ ⟨rfl, hd_X4_readNumber⟩ (⟨Nat.le_of_ble_eq_true rfl, Nat.le_of_ble_eq_true rfl⟩) rfl rfl (Nat.le_of_ble_eq_true rfl) dX4_readCommand_43 ?_
    refine g_istore X (lv' := [(4, .int r98), (0, .ref (E.1 80)), (1, .int x1), (2, .ref (E.1 1005)), (3, .int x3)]) dX4_readCommand_46 (by decide) rfl ?_
    refine g_iload_n X 2 (i0 := 1) dX4_readCommand_48 rfl rfl ?_
    refine g_iconst X (v := (3 : Int32)) dX4_readCommand_49 (by decide) ?_
    refine g_imul X dX4_readCommand_50 ?_
    refine g_iload_n X 4 (i0 := 3) dX4_readCommand_51 rfl rfl ?_
    refine g_iadd X dX4_readCommand_52 ?_
    refine g_istore X (lv' := [(5, .int ((x1 * (3 : Int32)) + x3)), (4, .int r98), (0, .ref (E.1 80)), (1, .int x1), (2, .ref (E.1 1005)), (3, .int x3)]) dX4_readCommand_53 (by decide) rfl ?_
    refine g_iload X 1 dX4_readCommand_55 rfl ?_
    refine g_iconst X (v := (-1 : Int32)) dX4_readCommand_57 (by decide) ?_
    refine g_icmp_eq X (tgt := 77) dX4_readCommand_58 (by decide) (fun c104 => ?_) (fun c104 => ?_)
    · have h := (ite_s h).1 c104
      refine g_iconst X (v := (0 : Int32)) dX4_readCommand_77 (by decide) ?_
      exact g_iret X hr rfl dX4_readCommand_78 (h2 _ (Option.some.inj h).symm)
    · have h := (ite_s h).2 c104
      refine g_iload X 0 dX4_readCommand_61 rfl ?_
      refine g_iconst X (v := (0 : Int32)) dX4_readCommand_63 (by decide) ?_
      refine g_aload_n X 2 (i0 := 0) dX4_readCommand_64 rfl rfl ?_
      refine g_get X (D := D97) (v := .ref (E.1 83)) (T := TX4) 80 uX4 (wg_80 E _) rfl 2 (by decide) fl_X4_21 rfl rfl dX4_readCommand_65 ?_
      refine g_alen X (D := D97) (v := (30 : Int32)) (t0 := 0) 83 (wg_83 E _) rfl rfl dX4_readCommand_68 ?_
      refine g_iconst X (v := (1 : Int32)) dX4_readCommand_69 (by decide) ?_
      refine g_isub X dX4_readCommand_70 ?_
      obtain ⟨r101, D100, e99, h⟩ := cI_s h
      refine g_SN X (As := [.int ((x1 * (3 : Int32)) + x3), .int (0 : Int32), .int ((30 : Int32) - (1 : Int32))]) (rest := []) (c_X12_inRange l G E ((x1 * (3 : Int32)) + x3) (0 : Int32) ((30 : Int32) - (1 : Int32)) _ _ e99) wc_X12_inRange kn_X4_29 wi_RX12 wt_X12_inRange ⟨rfl, rfl⟩ hd_X12_inRange (⟨Nat.le_of_ble_eq_true rfl, Nat.le_of_ble_eq_true rfl⟩) rfl rfl (Nat.le_of_ble_eq_true rfl) dX4_readCommand_71 ?_
      refine g_if_ne X (tgt := 79) dX4_readCommand_74 (by decide) (fun c103 => ?_) (fun c103 => ?_)
      · have h := (ite_s h).2 c103
        refine g_aload_n X 2 (i0 := 0) dX4_readCommand_79 rfl rfl ?_
        refine g_get X (D := D100) (v := .ref (E.1 83)) (T := TX4) 80 uX4 (wg_80 E _) rfl 2 (by decide) fl_X4_21 rfl rfl dX4_readCommand_80 ?_
        refine g_iload X 0 dX4_readCommand_83 rfl ?_
        refine g_iload X 1 dX4_readCommand_85 rfl ?_
        obtain ⟨b102, h⟩ := chk_s h
        refine g_iast X (D := D100) (f := (D100.2.2.1 66)) (i := ((x1 * (3 : Int32)) + x3)) (x := r98) (D' := (setA D100 66 (upd (D100.2.2.1 66) ((x1 * (3 : Int32)) + x3).toNatClampNeg r98))) 83 (wg_83 E _) (inB_vp b102) (ws_A_66 E _ _) dX4_readCommand_87 ?_
        refine g_iinc X 5 (v := (x3 + (1 : Int32))) (lv' := [(3, .int (x3 + (1 : Int32))), (5, .int ((x1 * (3 : Int32)) + x3)), (4, .int r98), (0, .ref (E.1 80)), (1, .int x1), (2, .ref (E.1 1005))]) dX4_readCommand_88 rfl rfl (by decide) rfl ?_
        refine g_goto X (tgt := 30) dX4_readCommand_91 (by decide) ?_
        refine g_sub (lv' := [(0, .ref (E.1 80)), (1, .int x1), (2, .ref (E.1 1005)), (3, .int (x3 + (1 : Int32)))]) [3, 4, 5, 0] rfl ?_
        exact h1 _ (Option.some.inj h).symm
      · have h := (ite_s h).1 c103
        refine g_iconst X (v := (0 : Int32)) dX4_readCommand_77 (by decide) ?_
        exact g_iret X hr rfl dX4_readCommand_78 (h2 _ (Option.some.inj h).symm)
set_option maxRecDepth 100000 in
set_option maxHeartbeats 4000000 in
theorem bl_X4_readCommand_7 {p : Program} {l : Launch} {e : Env} {s : State} {m : MethodId} {args : Array Value} {below : List Frame} {meth : Method} {c : Code} {G : va_G} {E : EE} {r : RT} (X : CX p s m args meth c cX4_readCommand RX4 6 G E) (hr : meth.sig.returnType = (some .boolean)) (x1 : Int32) (x3 : Int32) (D : DD) (o : (Nat × List Int32 × DD) ⊕ RT) (h : b_X4_readCommand_7 x1 x3 D = some o) (h1 : ∀ x, o = .inl x → hg_X4_readCommand p l e s m args below meth c G E r x.1 x.2.1 x.2.2) (h2 : ∀ x, o = .inr x → x = r) : GW p l e (rmm 7) s m args below meth c G E 6 (MQ below (QR G E s.heap.size r) args s 0 0 (fr E s.heap.size)) 0 0 D 30 [(0, .ref (E.1 80)), (1, .int x1), (2, .ref (E.1 1006)), (3, .int x3)] [] := by
  unfold b_X4_readCommand_7 at h
  refine g_iload_n X 3 (i0 := 3) dX4_readCommand_30 rfl rfl ?_
  refine g_aload_n X 2 (i0 := 2) dX4_readCommand_31 rfl rfl ?_
  refine g_getK X (v := .int (1 : Int32)) (X.2.2.2.2.2.2.1 6 (by decide)).2.2.1 fl_X4_51 dX4_readCommand_32 ?_
  refine g_icmp_ge X (tgt := 94) dX4_readCommand_35 (by decide) (fun c115 => ?_) (fun c115 => ?_)
  · have h := (ite_s h).1 c115
    refine g_iconst X (v := (1 : Int32)) dX4_readCommand_94 (by decide) ?_
    exact g_iret X hr rfl dX4_readCommand_95 (h2 _ (Option.some.inj h).symm)
  · have h := (ite_s h).2 c115
    refine g_aload_n X 0 (i0 := 0) dX4_readCommand_38 rfl rfl ?_
    refine g_aload_n X 2 (i0 := 2) dX4_readCommand_39 rfl rfl ?_
    refine g_getK X (v := .int (2 : Int32)) (X.2.2.2.2.2.2.1 6 (by decide)).2.2.2.1 fl_X4_53 dX4_readCommand_40 ?_
    obtain ⟨r108, D107, e106, h⟩ := cI_s h
    refine g_V X (As := [.int (2 : Int32)]) (rest := []) (c_X4_readNumber l G E (2 : Int32) _ _ e106) 80 (wg_80 E _) rfl rfl kv_X4_56 ⟨rfl, rfl⟩ ⟨rfl, hd_X4_readNumber⟩ (⟨Nat.le_of_ble_eq_true rfl, Nat.le_of_ble_eq_true rfl⟩) rfl rfl (Nat.le_of_ble_eq_true rfl) dX4_readCommand_43 ?_
    refine g_istore X (lv' := [(4, .int r108), (0, .ref (E.1 80)), (1, .int x1), (2, .ref (E.1 1006)), (3, .int x3)]) dX4_readCommand_46 (by decide) rfl ?_
    refine g_iload_n X 2 (i0 := 1) dX4_readCommand_48 rfl rfl ?_
    refine g_iconst X (v := (3 : Int32)) dX4_readCommand_49 (by decide) ?_
    refine g_imul X dX4_readCommand_50 ?_
    refine g_iload_n X 4 (i0 := 3) dX4_readCommand_51 rfl rfl ?_
    refine g_iadd X dX4_readCommand_52 ?_
    refine g_istore X (lv' := [(5, .int ((x1 * (3 : Int32)) + x3)), (4, .int r108), (0, .ref (E.1 80)), (1, .int x1), (2, .ref (E.1 1006)), (3, .int x3)]) dX4_readCommand_53 (by decide) rfl ?_
    refine g_iload X 1 dX4_readCommand_55 rfl ?_
    refine g_iconst X (v := (-1 : Int32)) dX4_readCommand_57 (by decide) ?_
    refine g_icmp_eq X (tgt := 77) dX4_readCommand_58 (by decide) (fun c114 => ?_) (fun c114 => ?_)
    · have h := (ite_s h).1 c114
      refine g_iconst X (v := (0 : Int32)) dX4_readCommand_77 (by decide) ?_
      exact g_iret X hr rfl dX4_readCommand_78 (h2 _ (Option.some.inj h).symm)
    · have h := (ite_s h).2 c114
      refine g_iload X 0 dX4_readCommand_61 rfl ?_
      refine g_iconst X (v := (0 : Int32)) dX4_readCommand_63 (by decide) ?_
      refine g_aload_n X 2 (i0 := 0) dX4_readCommand_64 rfl rfl ?_
      refine g_get X (D := D107) (v := .ref (E.1 83)) (T := TX4) 80 uX4 (wg_80 E _) rfl 2 (by decide) fl_X4_21 rfl rfl dX4_readCommand_65 ?_
      refine g_alen X (D := D107) (v := (30 : Int32)) (t0 := 0) 83 (wg_83 E _) rfl rfl dX4_readCommand_68 ?_
      refine g_iconst X (v := (1 : Int32)) dX4_readCommand_69 (by decide) ?_
      refine g_isub X dX4_readCommand_70 ?_
      obtain ⟨r111, D110, e109, h⟩ := cI_s h
      refine g_SN X (As := [.int ((x1 * (3 : Int32)) + x3), .int (0 : Int32), .int ((30 : Int32) - (1 : Int32))]) (rest := []) (c_X12_inRange l G E ((x1 * (3 : Int32)) + x3) (0 : Int32) ((30 : Int32) - (1 : Int32)) _ _ e109) wc_X12_inRange kn_X4_29 wi_RX12 wt_X12_inRange ⟨rfl, rfl⟩ hd_X12_inRange (⟨Nat.le_of_ble_eq_true rfl, Nat.le_of_ble_eq_true rfl⟩) rfl rfl (Nat.le_of_ble_eq_true rfl) dX4_readCommand_71 ?_
      refine g_if_ne X (tgt := 79) dX4_readCommand_74 (by decide) (fun c113 => ?_) (fun c113 => ?_)
      · have h := (ite_s h).2 c113
        refine g_aload_n X 2 (i0 := 0) dX4_readCommand_79 rfl rfl ?_
        refine g_get X (D := D110) (v := .ref (E.1 83)) (T := TX4) 80 uX4 (wg_80 E _) rfl 2 (by decide) fl_X4_21 rfl rfl dX4_readCommand_80 ?_
        refine g_iload X 0 dX4_readCommand_83 rfl ?_
        refine g_iload X 1 dX4_readCommand_85 rfl ?_
        obtain ⟨b112, h⟩ := chk_s h
        refine g_iast X (D := D110) (f := (D110.2.2.1 66)) (i := ((x1 * (3 : Int32)) + x3)) (x := r108) (D' := (setA D110 66 (upd (D110.2.2.1 66) ((x1 * (3 : Int32)) + x3).toNatClampNeg r108))) 83 (wg_83 E _) (inB_vp b112) (ws_A_66 E _ _) dX4_readCommand_87 ?_
        refine g_iinc X 5 (v := (x3 + (1 : Int32))) (lv' := [(3, .int (x3 + (1 : Int32))), (5, .int ((x1 * (3 : Int32)) + x3)), (4, .int r108), (0, .ref (E.1 80)), (1, .int x1), (2, .ref (E.1 1006))]) dX4_readCommand_88 rfl rfl (by decide) rfl ?_
        refine g_goto X (tgt := 30) dX4_readCommand_91 (by decide) ?_
        refine g_sub (lv' := [(0, .ref (E.1 80)), (1, .int x1), (2, .ref (E.1 1006)), (3, .int (x3 + (1 : Int32)))]) [3, 4, 5, 0] rfl ?_
        exact h1 _ (Option.some.inj h).symm
      · have h := (ite_s h).1 c113
        refine g_iconst X (v := (0 : Int32)) dX4_readCommand_77 (by decide) ?_
        exact g_iret X hr rfl dX4_readCommand_78 (h2 _ (Option.some.inj h).symm)
set_option maxRecDepth 100000 in
set_option maxHeartbeats 4000000 in
theorem c_X4_readCommand (l : Launch) (G : va_G) (E : EE) (a0 : Int32) (D : DD) (r : RT) (h : S_X4_readCommand a0 D = some r) : MM l G E yX4_readCommand cX4_readCommand 6 (some .boolean) (rmm 7) [.ref (E.1 80), .int a0] D r := by
  unfold S_X4_readCommand at h
  refine m_of rfl (Nat.le_of_ble_eq_true rfl) ?_
  intro p e s m args below meth c X hr
  exact run_G (T := T_X4_readCommand) (HG := hg_X4_readCommand p l e s m args below meth c G E r) (by
    intro k ls D o hT h1 h2
    unfold T_X4_readCommand at hT
    split at hT
    · exact bl_X4_readCommand_0 X hr _ D o hT h1 h2
    · exact bl_X4_readCommand_1 X hr _ _ D o hT h1 h2
    · exact bl_X4_readCommand_2 X hr _ _ D o hT h1 h2
    · exact bl_X4_readCommand_3 X hr _ _ D o hT h1 h2
    · exact bl_X4_readCommand_4 X hr _ _ D o hT h1 h2
    · exact bl_X4_readCommand_5 X hr _ _ D o hT h1 h2
    · exact bl_X4_readCommand_6 X hr _ _ D o hT h1 h2
    · exact bl_X4_readCommand_7 X hr _ _ D o hT h1 h2
    · cases hT) FUEL 0 [a0] D h
theorem fl_X4_36 : Cond.fieldLink RX4 36 "StoneQuarry$CommandText" "commandCount" "I" ∈ UT := ut 300 (by decide +kernel) (by decide +kernel)
theorem hd_X4_readCommand : yX4_readCommand.cls ≠ "java/lang/invoke/MethodHandle" ∧ yX4_readCommand.cls ≠ "java/lang/invoke/VarHandle" ∧ (parseMethodDescriptor yX4_readCommand.desc).map (fun d => d.parameters.length) = some 1 := by decide +kernel
theorem wc_X4_readCommand : Cond.code yX4_readCommand cX4_readCommand 6 (some .boolean) ∈ UT := ut 1198 (by decide +kernel) (by decide +kernel)
theorem we_X4_readCommand : Cond.selects RX4 yX4_readCommand yX4_readCommand ∈ UT := ut 28 (by decide +kernel) (by decide +kernel)
theorem wm_X4_readCommand : Cond.instanceMethod yX4_readCommand ∈ UT := ut 1197 (by decide +kernel) (by decide +kernel)
theorem kv_X4_39 : GoodIn UT (wsV RX4 39 RX4 yX4_readCommand (Cond.code yX4_readCommand cX4_readCommand 6 (some .boolean) :: UT)) := gu_V (ut 1195 (by decide +kernel) (by decide +kernel)) wm_X4_readCommand we_X4_readCommand wi_RX4 wc_X4_readCommand
theorem ws_I_131 (E : EE) (D : DD) (v : Int32) : (wd E D).set 80 (E.1 80, .inr (4, [.ref (E.1 81), .ref (E.1 82), .ref (E.1 83), .int (D.1 129), .int (D.1 130), .int v])) = wd E (setI D 131 v) := rfl
def b_X4_parse_0  (D : DD) : Option ((Nat × List Int32 × DD) ⊕ RT) := some (.inl (1, [(0 : Int32)], (setI (setI D 130 (0 : Int32)) 131 (0 : Int32))))
def b_X4_parse_1 (x1 : Int32) (D : DD) : Option ((Nat × List Int32 × DD) ⊕ RT) := (if (10 : Int32) ≤ x1 then some (.inr (0, some (.int (D.1 130)), D)) else (cI (S_X4_readCommand x1 D) (fun r3 D2 => (if r3 = 0 then some (.inr (0, some (.int (D2.1 130)), D2)) else (if (D2.1 130) = (D2.1 129) then some (.inr (0, some (.int (-1 : Int32)), (setI D2 131 ((D2.1 131) + (1 : Int32))))) else (cI (S_X4_nextIs (59 : Int32) (setI D2 131 ((D2.1 131) + (1 : Int32)))) (fun r6 D5 => (if r6 = 0 then some (.inr (0, some (.int (D5.1 130)), D5)) else some (.inl (1, [(x1 + (1 : Int32))], (setI D5 130 ((D5.1 130) + (1 : Int32)))))))))))))
def T_X4_parse (k : Nat) (ls : List Int32) (D : DD) : Option ((Nat × List Int32 × DD) ⊕ RT) := match k, ls with
  | 0, [] => b_X4_parse_0  D
  | 1, [x1] => b_X4_parse_1 x1 D
  | _, _ => none
def S_X4_parse  (D : DD) : Option RT := run T_X4_parse FUEL 0 [] D
def hg_X4_parse (p : Program) (l : Launch) (e : Env) (s : State) (m : MethodId) (args : Array Value) (below : List Frame) (meth : Method) (c : Code) (G : va_G) (E : EE) (r : RT) (k : Nat) (ls : List Int32) (D : DD) : Prop := match k, ls with
  | 0, [] => GW p l e (rmm 8) s m args below meth c G E 2 (MQ below (QR G E s.heap.size r) args s 0 0 (fr E s.heap.size)) 0 0 D 0 [(0, .ref (E.1 80))] []
  | 1, [x1] => GW p l e (rmm 8) s m args below meth c G E 2 (MQ below (QR G E s.heap.size r) args s 0 0 (fr E s.heap.size)) 0 0 D 12 [(0, .ref (E.1 80)), (1, .int x1)] []
  | _, _ => True
set_option maxRecDepth 100000 in
set_option maxHeartbeats 4000000 in
theorem bl_X4_parse_0 {p : Program} {l : Launch} {e : Env} {s : State} {m : MethodId} {args : Array Value} {below : List Frame} {meth : Method} {c : Code} {G : va_G} {E : EE} {r : RT} (X : CX p s m args meth c cX4_parse RX4 2 G E) (hr : meth.sig.returnType = (some .int))  (D : DD) (o : (Nat × List Int32 × DD) ⊕ RT) (h : b_X4_parse_0  D = some o) (h1 : ∀ x, o = .inl x → hg_X4_parse p l e s m args below meth c G E r x.1 x.2.1 x.2.2) (h2 : ∀ x, o = .inr x → x = r) : GW p l e (rmm 8) s m args below meth c G E 2 (MQ below (QR G E s.heap.size r) args s 0 0 (fr E s.heap.size)) 0 0 D 0 [(0, .ref (E.1 80))] [] := by
  unfold b_X4_parse_0 at h
  refine g_aload_n X 0 (i0 := 0) dX4_parse_0 rfl rfl ?_
  refine g_iconst X (v := (0 : Int32)) dX4_parse_1 (by decide) ?_
  refine g_put X (D := D) (v := .int (0 : Int32)) (T := TX4) (D' := (setI D 130 (0 : Int32))) 80 uX4 tyX4 tyX4_ok nmX4 (wg_80 E _) rfl 4 (by decide) fl_X4_33 rfl rfl rfl rfl (Nat.le_of_ble_eq_true rfl) (ws_I_130 E _ _) dX4_parse_2 ?_
  refine g_aload_n X 0 (i0 := 0) dX4_parse_5 rfl rfl ?_
  refine g_iconst X (v := (0 : Int32)) dX4_parse_6 (by decide) ?_
  refine g_put X (D := (setI D 130 (0 : Int32))) (v := .int (0 : Int32)) (T := TX4) (D' := (setI (setI D 130 (0 : Int32)) 131 (0 : Int32))) 80 uX4 tyX4 tyX4_ok nmX4 (wg_80 E _) rfl 5 (by decide) fl_X4_36 rfl rfl rfl rfl (Nat.le_of_ble_eq_true rfl) (ws_I_131 E _ _) dX4_parse_7 ?_
  refine g_iconst X (v := (0 : Int32)) dX4_parse_10 (by decide) ?_
  refine g_istore_n X (i0 := 1) (lv' := [(1, .int (0 : Int32)), (0, .ref (E.1 80))]) dX4_parse_11 rfl (by decide) rfl ?_
  refine g_sub (lv' := [(0, .ref (E.1 80)), (1, .int (0 : Int32))]) [1, 0] rfl ?_
  exact h1 _ (Option.some.inj h).symm
set_option maxRecDepth 100000 in
set_option maxHeartbeats 4000000 in
theorem bl_X4_parse_1 {p : Program} {l : Launch} {e : Env} {s : State} {m : MethodId} {args : Array Value} {below : List Frame} {meth : Method} {c : Code} {G : va_G} {E : EE} {r : RT} (X : CX p s m args meth c cX4_parse RX4 2 G E) (hr : meth.sig.returnType = (some .int)) (x1 : Int32) (D : DD) (o : (Nat × List Int32 × DD) ⊕ RT) (h : b_X4_parse_1 x1 D = some o) (h1 : ∀ x, o = .inl x → hg_X4_parse p l e s m args below meth c G E r x.1 x.2.1 x.2.2) (h2 : ∀ x, o = .inr x → x = r) : GW p l e (rmm 8) s m args below meth c G E 2 (MQ below (QR G E s.heap.size r) args s 0 0 (fr E s.heap.size)) 0 0 D 12 [(0, .ref (E.1 80)), (1, .int x1)] [] := by
  unfold b_X4_parse_1 at h
  refine g_iload_n X 1 (i0 := 1) dX4_parse_12 rfl rfl ?_
  refine g_bipush X (v := (10 : Int32)) dX4_parse_13 (by decide) ?_
  refine g_icmp_ge X (tgt := 84) dX4_parse_15 (by decide) (fun c10 => ?_) (fun c10 => ?_)
  · have h := (ite_s h).1 c10
    refine g_aload_n X 0 (i0 := 0) dX4_parse_84 rfl rfl ?_
    refine g_get X (D := D) (v := .int (D.1 130)) (T := TX4) 80 uX4 (wg_80 E _) rfl 4 (by decide) fl_X4_33 rfl rfl dX4_parse_85 ?_
    exact g_iret X hr rfl dX4_parse_88 (h2 _ (Option.some.inj h).symm)
  · have h := (ite_s h).2 c10
    refine g_aload_n X 0 (i0 := 0) dX4_parse_18 rfl rfl ?_
    refine g_iload_n X 1 (i0 := 1) dX4_parse_19 rfl rfl ?_
    obtain ⟨r3, D2, e1, h⟩ := cI_s h
    refine g_V X (As := [.int x1]) (rest := []) (c_X4_readCommand l G E x1 _ _ e1) 80 (wg_80 E _) rfl rfl kv_X4_39 ⟨rfl, rfl⟩ ⟨rfl, hd_X4_readCommand⟩ (⟨Nat.le_of_ble_eq_true rfl, Nat.le_of_ble_eq_true rfl⟩) rfl rfl (Nat.le_of_ble_eq_true rfl) dX4_parse_20 ?_
    refine g_if_ne X (tgt := 31) dX4_parse_23 (by decide) (fun c9 => ?_) (fun c9 => ?_)
    · have h := (ite_s h).2 c9
      refine g_aload_n X 0 (i0 := 0) dX4_parse_31 rfl rfl ?_
      refine g_dup X dX4_parse_32 rfl ?_
      refine g_get X (D := D2) (v := .int (D2.1 131)) (T := TX4) 80 uX4 (wg_80 E _) rfl 5 (by decide) fl_X4_36 rfl rfl dX4_parse_33 ?_
      refine g_iconst X (v := (1 : Int32)) dX4_parse_36 (by decide) ?_
      refine g_iadd X dX4_parse_37 ?_
      refine g_put X (D := D2) (v := .int ((D2.1 131) + (1 : Int32))) (T := TX4) (D' := (setI D2 131 ((D2.1 131) + (1 : Int32)))) 80 uX4 tyX4 tyX4_ok nmX4 (wg_80 E _) rfl 5 (by decide) fl_X4_36 rfl rfl rfl rfl (Nat.le_of_ble_eq_true rfl) (ws_I_131 E _ _) dX4_parse_38 ?_
      refine g_aload_n X 0 (i0 := 0) dX4_parse_41 rfl rfl ?_
      refine g_get X (D := (setI D2 131 ((D2.1 131) + (1 : Int32)))) (v := .int (D2.1 130)) (T := TX4) 80 uX4 (wg_80 E _) rfl 4 (by decide) fl_X4_33 rfl rfl dX4_parse_42 ?_
      refine g_aload_n X 0 (i0 := 0) dX4_parse_45 rfl rfl ?_
      refine g_get X (D := (setI D2 131 ((D2.1 131) + (1 : Int32)))) (v := .int (D2.1 129)) (T := TX4) 80 uX4 (wg_80 E _) rfl 3 (by decide) fl_X4_25 rfl rfl dX4_parse_46 ?_
      refine g_icmp_ne X (tgt := 54) dX4_parse_49 (by decide) (fun c8 => ?_) (fun c8 => ?_)
      · have h := (ite_s h).2 c8
        refine g_aload_n X 0 (i0 := 0) dX4_parse_54 rfl rfl ?_
        refine g_bipush X (v := (59 : Int32)) dX4_parse_55 (by decide) ?_
        obtain ⟨r6, D5, e4, h⟩ := cI_s h
        refine g_V X (As := [.int (59 : Int32)]) (rest := []) (c_X4_nextIs l G E (59 : Int32) _ _ e4) 80 (wg_80 E _) rfl rfl kv_X4_43 ⟨rfl, rfl⟩ ⟨rfl, hd_X4_nextIs⟩ (⟨Nat.le_of_ble_eq_true rfl, Nat.le_of_ble_eq_true rfl⟩) rfl rfl (Nat.le_of_ble_eq_true rfl) dX4_parse_57 ?_
        refine g_if_ne X (tgt := 68) dX4_parse_60 (by decide) (fun c7 => ?_) (fun c7 => ?_)
        · have h := (ite_s h).2 c7
          refine g_aload_n X 0 (i0 := 0) dX4_parse_68 rfl rfl ?_
          refine g_dup X dX4_parse_69 rfl ?_
          refine g_get X (D := D5) (v := .int (D5.1 130)) (T := TX4) 80 uX4 (wg_80 E _) rfl 4 (by decide) fl_X4_33 rfl rfl dX4_parse_70 ?_
          refine g_iconst X (v := (1 : Int32)) dX4_parse_73 (by decide) ?_
          refine g_iadd X dX4_parse_74 ?_
          refine g_put X (D := D5) (v := .int ((D5.1 130) + (1 : Int32))) (T := TX4) (D' := (setI D5 130 ((D5.1 130) + (1 : Int32)))) 80 uX4 tyX4 tyX4_ok nmX4 (wg_80 E _) rfl 4 (by decide) fl_X4_33 rfl rfl rfl rfl (Nat.le_of_ble_eq_true rfl) (ws_I_130 E _ _) dX4_parse_75 ?_
          refine g_iinc X 1 (v := (x1 + (1 : Int32))) (lv' := [(1, .int (x1 + (1 : Int32))), (0, .ref (E.1 80))]) dX4_parse_78 rfl rfl (by decide) rfl ?_
          refine g_goto X (tgt := 12) dX4_parse_81 (by decide) ?_
          refine g_sub (lv' := [(0, .ref (E.1 80)), (1, .int (x1 + (1 : Int32)))]) [1, 0] rfl ?_
          exact h1 _ (Option.some.inj h).symm
        · have h := (ite_s h).1 c7
          refine g_aload_n X 0 (i0 := 0) dX4_parse_63 rfl rfl ?_
          refine g_get X (D := D5) (v := .int (D5.1 130)) (T := TX4) 80 uX4 (wg_80 E _) rfl 4 (by decide) fl_X4_33 rfl rfl dX4_parse_64 ?_
          exact g_iret X hr rfl dX4_parse_67 (h2 _ (Option.some.inj h).symm)
      · have h := (ite_s h).1 c8
        refine g_iconst X (v := (-1 : Int32)) dX4_parse_52 (by decide) ?_
        exact g_iret X hr rfl dX4_parse_53 (h2 _ (Option.some.inj h).symm)
    · have h := (ite_s h).1 c9
      refine g_aload_n X 0 (i0 := 0) dX4_parse_26 rfl rfl ?_
      refine g_get X (D := D2) (v := .int (D2.1 130)) (T := TX4) 80 uX4 (wg_80 E _) rfl 4 (by decide) fl_X4_33 rfl rfl dX4_parse_27 ?_
      exact g_iret X hr rfl dX4_parse_30 (h2 _ (Option.some.inj h).symm)
set_option maxRecDepth 100000 in
set_option maxHeartbeats 4000000 in
theorem c_X4_parse (l : Launch) (G : va_G) (E : EE)  (D : DD) (r : RT) (h : S_X4_parse  D = some r) : MM l G E yX4_parse cX4_parse 2 (some .int) (rmm 8) [.ref (E.1 80)] D r := by
  unfold S_X4_parse at h
  refine m_of rfl (Nat.le_of_ble_eq_true rfl) ?_
  intro p e s m args below meth c X hr
  exact run_G (T := T_X4_parse) (HG := hg_X4_parse p l e s m args below meth c G E r) (by
    intro k ls D o hT h1 h2
    unfold T_X4_parse at hT
    split at hT
    · exact bl_X4_parse_0 X hr  D o hT h1 h2
    · exact bl_X4_parse_1 X hr _ D o hT h1 h2
    · cases hT) FUEL 0 [] D h
theorem wat_X12_210 : ∀ w ∈ nsF RX12 210, w ∈ UT ∨ w ∈ NEST := at_of (by decide +kernel)
theorem wcl_X12_206 : Cond.classLink RX12 206 "java/util/NoSuchElementException" ∈ UT := ut 995 (by decide +kernel) (by decide +kernel)
theorem wgo_X12_210 : ∀ w ∈ Cond.classLink RX12 206 nsX :: Cond.initialized nsX :: nsF RX12 210, vx_ot w = true := List.all_eq_true.mp (by decide +kernel)
theorem wini_5 : Cond.initialized "java/util/NoSuchElementException" ∈ UT := ut 99 (by decide +kernel) (by decide +kernel)
theorem wst_X12_208 : ((RX12, 208, "no charges") : String × Nat × String) ∈ STRS := by decide +kernel
def b_X12_bestCharge_0  (D : DD) : Option ((Nat × List Int32 × DD) ⊕ RT) := (if (D.1 0) = 0 then some (.inr (5, none, D)) else some (.inl (1, [(0 : Int32), (-1 : Int32), (0 : Int32)], D)))
def b_X12_bestCharge_1 (x1 : Int32) (x2 : Int32) (x3 : Int32) (D : DD) : Option ((Nat × List Int32 × DD) ⊕ RT) := (if (D.1 0) ≤ x3 then some (.inr (0, some (.int x1), D)) else (cV (S_X1_run x3 D) (fun D3 => (if (D3.1 127) ≤ x2 then some (.inl (1, [x1, x2, (x3 + (1 : Int32))], D3)) else some (.inl (1, [x3, (D3.1 127), (x3 + (1 : Int32))], D3))))))
def T_X12_bestCharge (k : Nat) (ls : List Int32) (D : DD) : Option ((Nat × List Int32 × DD) ⊕ RT) := match k, ls with
  | 0, [] => b_X12_bestCharge_0  D
  | 1, [x1, x2, x3] => b_X12_bestCharge_1 x1 x2 x3 D
  | _, _ => none
def S_X12_bestCharge  (D : DD) : Option RT := run T_X12_bestCharge FUEL 0 [] D
def hg_X12_bestCharge (p : Program) (l : Launch) (e : Env) (s : State) (m : MethodId) (args : Array Value) (below : List Frame) (meth : Method) (c : Code) (G : va_G) (E : EE) (r : RT) (k : Nat) (ls : List Int32) (D : DD) : Prop := match k, ls with
  | 0, [] => GW p l e (rmx 6) s m args below meth c G E 4 (vx_MQ below (QR G E s.heap.size r) (XR G E s.heap.size r) args s 1 6 (fr E s.heap.size)) 0 0 D 0 [(0, .ref (E.1 0))] []
  | 1, [x1, x2, x3] => GW p l e (rmx 6) s m args below meth c G E 4 (vx_MQ below (QR G E s.heap.size r) (XR G E s.heap.size r) args s 1 6 (fr E s.heap.size)) 0 0 D 26 [(0, .ref (E.1 0)), (1, .int x1), (2, .int x2), (3, .int x3)] []
  | _, _ => True
set_option maxRecDepth 100000 in
set_option maxHeartbeats 4000000 in
theorem bl_X12_bestCharge_0 {p : Program} {l : Launch} {e : Env} {s : State} {m : MethodId} {args : Array Value} {below : List Frame} {meth : Method} {c : Code} {G : va_G} {E : EE} {r : RT} (hfl : l.stackTraces = false) (ht : ∀ x ∈ c.exceptionTable.toList, False) (X : CX p s m args meth c cX12_bestCharge RX12 4 G E) (hr : meth.sig.returnType = (some .int))  (D : DD) (o : (Nat × List Int32 × DD) ⊕ RT) (h : b_X12_bestCharge_0  D = some o) (h1 : ∀ x, o = .inl x → hg_X12_bestCharge p l e s m args below meth c G E r x.1 x.2.1 x.2.2) (h2 : ∀ x, o = .inr x → x = r) : GW p l e (rmx 6) s m args below meth c G E 4 (vx_MQ below (QR G E s.heap.size r) (XR G E s.heap.size r) args s 1 6 (fr E s.heap.size)) 0 0 D 0 [(0, .ref (E.1 0))] [] := by
  unfold b_X12_bestCharge_0 at h
  refine g_aload_n X 0 (i0 := 0) dX12_bestCharge_0 rfl rfl ?_
  refine g_get X (D := D) (v := .ref (E.1 1)) (T := TX12) 0 uX12 (wg_0 E _) rfl 0 (by decide) fl_X12_10 rfl rfl dX12_bestCharge_1 ?_
  refine g_get X (D := D) (v := .int (D.1 0)) (T := TX8) 1 uX8 (wg_1 E _) rfl 4 (by decide) fl_X12_184 rfl rfl dX12_bestCharge_4 ?_
  refine g_if_ne X (tgt := 20) dX12_bestCharge_7 (by decide) (fun c1 => ?_) (fun c1 => ?_)
  · have h := (ite_s h).2 c1
    refine g_iconst X (v := (0 : Int32)) dX12_bestCharge_20 (by decide) ?_
    refine g_istore_n X (i0 := 1) (lv' := [(1, .int (0 : Int32)), (0, .ref (E.1 0))]) dX12_bestCharge_21 rfl (by decide) rfl ?_
    refine g_iconst X (v := (-1 : Int32)) dX12_bestCharge_22 (by decide) ?_
    refine g_istore_n X (i0 := 2) (lv' := [(2, .int (-1 : Int32)), (1, .int (0 : Int32)), (0, .ref (E.1 0))]) dX12_bestCharge_23 rfl (by decide) rfl ?_
    refine g_iconst X (v := (0 : Int32)) dX12_bestCharge_24 (by decide) ?_
    refine g_istore_n X (i0 := 3) (lv' := [(3, .int (0 : Int32)), (2, .int (-1 : Int32)), (1, .int (0 : Int32)), (0, .ref (E.1 0))]) dX12_bestCharge_25 rfl (by decide) rfl ?_
    refine g_sub (lv' := [(0, .ref (E.1 0)), (1, .int (0 : Int32)), (2, .int (-1 : Int32)), (3, .int (0 : Int32))]) [3, 2, 1, 0] rfl ?_
    exact h1 _ (Option.some.inj h).symm
  · have h := (ite_s h).1 c1
    exact gx_throwN X hfl ht wcl_X12_206 wini_5 wst_X12_208 wat_X12_210 wgo_X12_210 dX12_bestCharge_10 dX12_bestCharge_13 dX12_bestCharge_14 dX12_bestCharge_16 dX12_bestCharge_19 (Nat.le_of_ble_eq_true rfl) (Nat.le_of_ble_eq_true rfl) (Nat.le_of_ble_eq_true rfl) (Nat.le_of_ble_eq_true rfl) (k := 5) (by decide) rfl (h2 _ (Option.some.inj h).symm)
set_option maxRecDepth 100000 in
set_option maxHeartbeats 4000000 in
theorem bl_X12_bestCharge_1 {p : Program} {l : Launch} {e : Env} {s : State} {m : MethodId} {args : Array Value} {below : List Frame} {meth : Method} {c : Code} {G : va_G} {E : EE} {r : RT} (hfl : l.stackTraces = false) (ht : ∀ x ∈ c.exceptionTable.toList, False) (X : CX p s m args meth c cX12_bestCharge RX12 4 G E) (hr : meth.sig.returnType = (some .int)) (x1 : Int32) (x2 : Int32) (x3 : Int32) (D : DD) (o : (Nat × List Int32 × DD) ⊕ RT) (h : b_X12_bestCharge_1 x1 x2 x3 D = some o) (h1 : ∀ x, o = .inl x → hg_X12_bestCharge p l e s m args below meth c G E r x.1 x.2.1 x.2.2) (h2 : ∀ x, o = .inr x → x = r) : GW p l e (rmx 6) s m args below meth c G E 4 (vx_MQ below (QR G E s.heap.size r) (XR G E s.heap.size r) args s 1 6 (fr E s.heap.size)) 0 0 D 26 [(0, .ref (E.1 0)), (1, .int x1), (2, .int x2), (3, .int x3)] [] := by
  unfold b_X12_bestCharge_1 at h
  refine g_iload_n X 3 (i0 := 3) dX12_bestCharge_26 rfl rfl ?_
  refine g_aload_n X 0 (i0 := 0) dX12_bestCharge_27 rfl rfl ?_
  refine g_get X (D := D) (v := .ref (E.1 1)) (T := TX12) 0 uX12 (wg_0 E _) rfl 0 (by decide) fl_X12_10 rfl rfl dX12_bestCharge_28 ?_
  refine g_get X (D := D) (v := .int (D.1 0)) (T := TX8) 1 uX8 (wg_1 E _) rfl 4 (by decide) fl_X12_184 rfl rfl dX12_bestCharge_31 ?_
  refine g_icmp_ge X (tgt := 76) dX12_bestCharge_34 (by decide) (fun c5 => ?_) (fun c5 => ?_)
  · have h := (ite_s h).1 c5
    refine g_iload_n X 1 (i0 := 1) dX12_bestCharge_76 rfl rfl ?_
    exact gx_iret X hr rfl dX12_bestCharge_77 (h2 _ (Option.some.inj h).symm)
  · have h := (ite_s h).2 c5
    refine g_aload_n X 0 (i0 := 0) dX12_bestCharge_37 rfl rfl ?_
    refine g_get X (D := D) (v := .ref (E.1 61)) (T := TX12) 0 uX12 (wg_0 E _) rfl 5 (by decide) fl_X12_39 rfl rfl dX12_bestCharge_38 ?_
    refine g_aload_n X 0 (i0 := 0) dX12_bestCharge_41 rfl rfl ?_
    refine g_get X (D := D) (v := .ref (E.1 1)) (T := TX12) 0 uX12 (wg_0 E _) rfl 0 (by decide) fl_X12_10 rfl rfl dX12_bestCharge_42 ?_
    refine g_iload_n X 3 (i0 := 3) dX12_bestCharge_45 rfl rfl ?_
    obtain ⟨D3, e2, h⟩ := cV_s h
    refine g_V X (As := [.ref (E.1 1), .int x3]) (rest := []) (c_X1_run l G E x3 _ _ e2) 61 (wg_61 E _) rfl rfl kv_X12_193 ⟨rfl, rfl⟩ ⟨rfl, hd_X1_run⟩ (⟨Nat.le_of_ble_eq_true rfl, Nat.le_of_ble_eq_true rfl⟩) rfl rfl (Nat.le_of_ble_eq_true rfl) dX12_bestCharge_46 ?_
    refine g_aload_n X 0 (i0 := 0) dX12_bestCharge_49 rfl rfl ?_
    refine g_get X (D := D3) (v := .ref (E.1 61)) (T := TX12) 0 uX12 (wg_0 E _) rfl 5 (by decide) fl_X12_39 rfl rfl dX12_bestCharge_50 ?_
    refine g_get X (D := D3) (v := .int (D3.1 127)) (T := TX1) 61 uX1 (wg_61 E _) rfl 4 (by decide) fl_X12_203 rfl rfl dX12_bestCharge_53 ?_
    refine g_iload_n X 2 (i0 := 2) dX12_bestCharge_56 rfl rfl ?_
    refine g_icmp_le X (tgt := 70) dX12_bestCharge_57 (by decide) (fun c4 => ?_) (fun c4 => ?_)
    · have h := (ite_s h).1 c4
      refine g_iinc X 3 (v := (x3 + (1 : Int32))) (lv' := [(3, .int (x3 + (1 : Int32))), (0, .ref (E.1 0)), (1, .int x1), (2, .int x2)]) dX12_bestCharge_70 rfl rfl (by decide) rfl ?_
      refine g_goto X (tgt := 26) dX12_bestCharge_73 (by decide) ?_
      refine g_sub (lv' := [(0, .ref (E.1 0)), (1, .int x1), (2, .int x2), (3, .int (x3 + (1 : Int32)))]) [1, 2, 3, 0] rfl ?_
      exact h1 _ (Option.some.inj h).symm
    · have h := (ite_s h).2 c4
      refine g_aload_n X 0 (i0 := 0) dX12_bestCharge_60 rfl rfl ?_
      refine g_get X (D := D3) (v := .ref (E.1 61)) (T := TX12) 0 uX12 (wg_0 E _) rfl 5 (by decide) fl_X12_39 rfl rfl dX12_bestCharge_61 ?_
      refine g_get X (D := D3) (v := .int (D3.1 127)) (T := TX1) 61 uX1 (wg_61 E _) rfl 4 (by decide) fl_X12_203 rfl rfl dX12_bestCharge_64 ?_
      refine g_istore_n X (i0 := 2) (lv' := [(2, .int (D3.1 127)), (0, .ref (E.1 0)), (1, .int x1), (3, .int x3)]) dX12_bestCharge_67 rfl (by decide) rfl ?_
      refine g_iload_n X 3 (i0 := 3) dX12_bestCharge_68 rfl rfl ?_
      refine g_istore_n X (i0 := 1) (lv' := [(1, .int x3), (2, .int (D3.1 127)), (0, .ref (E.1 0)), (3, .int x3)]) dX12_bestCharge_69 rfl (by decide) rfl ?_
      refine g_iinc X 3 (v := (x3 + (1 : Int32))) (lv' := [(3, .int (x3 + (1 : Int32))), (1, .int x3), (2, .int (D3.1 127)), (0, .ref (E.1 0))]) dX12_bestCharge_70 rfl rfl (by decide) rfl ?_
      refine g_goto X (tgt := 26) dX12_bestCharge_73 (by decide) ?_
      refine g_sub (lv' := [(0, .ref (E.1 0)), (1, .int x3), (2, .int (D3.1 127)), (3, .int (x3 + (1 : Int32)))]) [3, 1, 2, 0] rfl ?_
      exact h1 _ (Option.some.inj h).symm
set_option maxRecDepth 100000 in
set_option maxHeartbeats 4000000 in
theorem c_X12_bestCharge (l : Launch) (hfl : l.stackTraces = false) (G : va_G) (E : EE)  (D : DD) (r : RT) (h : S_X12_bestCharge  D = some r) : MX l G E yX12_bestCharge cX12_bestCharge 4 (some .int) (rmx 6) [.ref (E.1 0)] D r := by
  unfold S_X12_bestCharge at h
  refine mx_of rfl (Nat.le_of_ble_eq_true rfl) ?_
  intro p e s m args below meth c X hr ht
  exact run_G (T := T_X12_bestCharge) (HG := hg_X12_bestCharge p l e s m args below meth c G E r) (by
    intro k ls D o hT h1 h2
    unfold T_X12_bestCharge at hT
    split at hT
    · exact bl_X12_bestCharge_0 hfl ht X hr  D o hT h1 h2
    · exact bl_X12_bestCharge_1 hfl ht X hr _ _ _ D o hT h1 h2
    · cases hT) FUEL 0 [] D h
theorem fl_X12_378 : Cond.fieldLink RX12 378 "StoneQuarry$1" "$SwitchMap$StoneQuarry$Command" "[I" ∈ UT := ut 1295 (by decide +kernel) (by decide +kernel)
theorem wo_code : Cond.code yJx29ce0_ordinal_8abf5 cJx29ce0_ordinal_8abf5 1 (some .int) ∈ UT := ut 1302 (by decide +kernel) (by decide +kernel)
theorem wo_fl : Cond.fieldLink "java/lang/Enum" 7 "java/lang/Enum" "ordinal" "I" ∈ UT := ut 1826 (by decide +kernel) (by decide +kernel)
theorem wo_inst : Cond.instanceMethod yJx29ce0_ordinal_8abf5 ∈ UT := ut 1301 (by decide +kernel) (by decide +kernel)
theorem wo_link_X12_384 : Cond.methodLink RX12 384 ⟨"StoneQuarry$Command", "ordinal", "()I"⟩ ∈ UT := ut 1297 (by decide +kernel) (by decide +kernel)
theorem wo_same : Cond.sameMethod "StoneQuarry$Command" "java/lang/Enum" "ordinal" "()I" ∈ UT := ut 1298 (by decide +kernel) (by decide +kernel)
theorem wo_sel : Cond.selects "StoneQuarry$Command" ⟨"StoneQuarry$Command", "ordinal", "()I"⟩ yJx29ce0_ordinal_8abf5 ∈ UT := ut 1300 (by decide +kernel) (by decide +kernel)
def S_X12_faultOfCommand_x_K0 (a1 : Int32) (a2 : Int32) (a3 : Int32) (D : DD) : Option RT := (if (1 : Int32) = (1 : Int32) then (cI (S_X8_faultOfHardness a1 a2 a3 D) (fun r4 D3 => some (0, some (.int r4), D3))) else (if (1 : Int32) = (2 : Int32) then (cI (S_X8_faultOfLaying a1 a2 a3 D) (fun r8 D7 => some (0, some (.int r8), D7))) else (if (1 : Int32) = (3 : Int32) then (cI (S_X8_hasCharge a1 D) (fun r12 D11 => (if r12 = 0 then some (0, some (.int (1 : Int32)), D11) else some (0, some (.int (0 : Int32)), D11)))) else (if (1 : Int32) = (4 : Int32) then (cI (S_X8_hasCharge a1 D) (fun r17 D16 => (if r17 = 0 then some (0, some (.int (1 : Int32)), D16) else some (0, some (.int (0 : Int32)), D16)))) else (if (1 : Int32) = (5 : Int32) then (cI (S_X8_faultOfDigging a1 a2 D) (fun r22 D21 => some (0, some (.int r22), D21))) else (if (1 : Int32) = (6 : Int32) then (cI (S_X8_faultOfPrice a1 a2 D) (fun r26 D25 => some (0, some (.int r26), D25))) else (cI (S_X8_faultOfSelling a1 D) (fun r29 D28 => some (0, some (.int r29), D28)))))))))
set_option maxRecDepth 100000 in
set_option maxHeartbeats 4000000 in
theorem c_X12_faultOfCommand_x_K0 (l : Launch) (G : va_G) (E : EE) (a1 : Int32) (a2 : Int32) (a3 : Int32) (D : DD) (r : RT) (h : S_X12_faultOfCommand_x_K0 a1 a2 a3 D = some r) : MM l G E yX12_faultOfCommand cX12_faultOfCommand 5 (some .int) (rmm 4) [.ref (E.1 0), .ref (E.1 1000), .int a1, .int a2, .int a3] D r := by
  refine m_of rfl (Nat.le_of_ble_eq_true rfl) ?_
  intro p e s m args below meth c X hr
  unfold S_X12_faultOfCommand_x_K0 at h
  refine g_gets X (v := .ref (E.1 1021)) X.2.2.2.2.2.2.2.2.2.1 fl_X12_378 dX12_faultOfCommand_0 ?_
  refine g_aload_n X 1 (i0 := 1) dX12_faultOfCommand_3 rfl rfl ?_
  refine g_ord X (v := (0 : Int32)) (X.2.2.2.2.2.2.1 0 (by decide)).1 (X.2.2.2.2.2.2.1 0 (by decide)).2.1 wo_link_X12_384 wo_same wo_sel wo_inst wo_code wo_fl (Nat.le_of_ble_eq_true rfl) (Nat.le_of_ble_eq_true rfl) (Nat.le_of_ble_eq_true rfl) dX12_faultOfCommand_4 ?_
  refine g_ti X X.2.2.2.2.2.2.2.2.2.2.1 (i := (0 : Int32)) (v := .int (1 : Int32)) (inB_vp (by decide)) rfl dX12_faultOfCommand_7 ?_
  by_cases w1 : (1 : Int32) = (1 : Int32)
  · have h := (ite_s h).1 w1
    refine g_tswIn X (tgt := 48) dX12_faultOfCommand_8 w1 (by decide) (by decide) rfl (by decide) ?_
    refine g_aload_n X 0 (i0 := 0) dX12_faultOfCommand_48 rfl rfl ?_
    refine g_get X (D := D) (v := .ref (E.1 1)) (T := TX12) 0 uX12 (wg_0 E _) rfl 0 (by decide) fl_X12_10 rfl rfl dX12_faultOfCommand_49 ?_
    refine g_iload_n X 2 (i0 := 2) dX12_faultOfCommand_52 rfl rfl ?_
    refine g_iload_n X 3 (i0 := 3) dX12_faultOfCommand_53 rfl rfl ?_
    refine g_iload X 4 dX12_faultOfCommand_54 rfl ?_
    obtain ⟨r4, D3, e2, h⟩ := cI_s h
    refine g_V X (As := [.int a1, .int a2, .int a3]) (rest := []) (c_X8_faultOfHardness l G E a1 a2 a3 _ _ e2) 1 (wg_1 E _) rfl rfl kv_X12_92 ⟨rfl, rfl⟩ ⟨rfl, hd_X8_faultOfHardness⟩ (⟨Nat.le_of_ble_eq_true rfl, Nat.le_of_ble_eq_true rfl⟩) rfl rfl (Nat.le_of_ble_eq_true rfl) dX12_faultOfCommand_56 ?_
    exact g_iret X hr rfl dX12_faultOfCommand_59 (Option.some.inj h)
  have h := (ite_s h).2 w1
  by_cases w5 : (1 : Int32) = (2 : Int32)
  · have h := (ite_s h).1 w5
    refine g_tswIn X (tgt := 60) dX12_faultOfCommand_8 w5 (by decide) (by decide) rfl (by decide) ?_
    refine g_aload_n X 0 (i0 := 0) dX12_faultOfCommand_60 rfl rfl ?_
    refine g_get X (D := D) (v := .ref (E.1 1)) (T := TX12) 0 uX12 (wg_0 E _) rfl 0 (by decide) fl_X12_10 rfl rfl dX12_faultOfCommand_61 ?_
    refine g_iload_n X 2 (i0 := 2) dX12_faultOfCommand_64 rfl rfl ?_
    refine g_iload_n X 3 (i0 := 3) dX12_faultOfCommand_65 rfl rfl ?_
    refine g_iload X 4 dX12_faultOfCommand_66 rfl ?_
    obtain ⟨r8, D7, e6, h⟩ := cI_s h
    refine g_V X (As := [.int a1, .int a2, .int a3]) (rest := []) (c_X8_faultOfLaying l G E a1 a2 a3 _ _ e6) 1 (wg_1 E _) rfl rfl kv_X12_160 ⟨rfl, rfl⟩ ⟨rfl, hd_X8_faultOfLaying⟩ (⟨Nat.le_of_ble_eq_true rfl, Nat.le_of_ble_eq_true rfl⟩) rfl rfl (Nat.le_of_ble_eq_true rfl) dX12_faultOfCommand_68 ?_
    exact g_iret X hr rfl dX12_faultOfCommand_71 (Option.some.inj h)
  have h := (ite_s h).2 w5
  by_cases w9 : (1 : Int32) = (3 : Int32)
  · have h := (ite_s h).1 w9
    refine g_tswIn X (tgt := 72) dX12_faultOfCommand_8 w9 (by decide) (by decide) rfl (by decide) ?_
    refine g_aload_n X 0 (i0 := 0) dX12_faultOfCommand_72 rfl rfl ?_
    refine g_get X (D := D) (v := .ref (E.1 1)) (T := TX12) 0 uX12 (wg_0 E _) rfl 0 (by decide) fl_X12_10 rfl rfl dX12_faultOfCommand_73 ?_
    refine g_iload_n X 2 (i0 := 2) dX12_faultOfCommand_76 rfl rfl ?_
    obtain ⟨r12, D11, e10, h⟩ := cI_s h
    refine g_V X (As := [.int a1]) (rest := []) (c_X8_hasCharge l G E a1 _ _ e10) 1 (wg_1 E _) rfl rfl kv_X12_170 ⟨rfl, rfl⟩ ⟨rfl, hd_X8_hasCharge⟩ (⟨Nat.le_of_ble_eq_true rfl, Nat.le_of_ble_eq_true rfl⟩) rfl rfl (Nat.le_of_ble_eq_true rfl) dX12_faultOfCommand_77 ?_
    refine g_if_eq X (tgt := 87) dX12_faultOfCommand_80 (by decide) (fun c13 => ?_) (fun c13 => ?_)
    · have h := (ite_s h).1 c13
      refine g_iconst X (v := (1 : Int32)) dX12_faultOfCommand_87 (by decide) ?_
      exact g_iret X hr rfl dX12_faultOfCommand_88 (Option.some.inj h)
    · have h := (ite_s h).2 c13
      refine g_iconst X (v := (0 : Int32)) dX12_faultOfCommand_83 (by decide) ?_
      refine g_goto X (tgt := 88) dX12_faultOfCommand_84 (by decide) ?_
      exact g_iret X hr rfl dX12_faultOfCommand_88 (Option.some.inj h)
  have h := (ite_s h).2 w9
  by_cases w14 : (1 : Int32) = (4 : Int32)
  · have h := (ite_s h).1 w14
    refine g_tswIn X (tgt := 72) dX12_faultOfCommand_8 w14 (by decide) (by decide) rfl (by decide) ?_
    refine g_aload_n X 0 (i0 := 0) dX12_faultOfCommand_72 rfl rfl ?_
    refine g_get X (D := D) (v := .ref (E.1 1)) (T := TX12) 0 uX12 (wg_0 E _) rfl 0 (by decide) fl_X12_10 rfl rfl dX12_faultOfCommand_73 ?_
    refine g_iload_n X 2 (i0 := 2) dX12_faultOfCommand_76 rfl rfl ?_
    obtain ⟨r17, D16, e15, h⟩ := cI_s h
    refine g_V X (As := [.int a1]) (rest := []) (c_X8_hasCharge l G E a1 _ _ e15) 1 (wg_1 E _) rfl rfl kv_X12_170 ⟨rfl, rfl⟩ ⟨rfl, hd_X8_hasCharge⟩ (⟨Nat.le_of_ble_eq_true rfl, Nat.le_of_ble_eq_true rfl⟩) rfl rfl (Nat.le_of_ble_eq_true rfl) dX12_faultOfCommand_77 ?_
    refine g_if_eq X (tgt := 87) dX12_faultOfCommand_80 (by decide) (fun c18 => ?_) (fun c18 => ?_)
    · have h := (ite_s h).1 c18
      refine g_iconst X (v := (1 : Int32)) dX12_faultOfCommand_87 (by decide) ?_
      exact g_iret X hr rfl dX12_faultOfCommand_88 (Option.some.inj h)
    · have h := (ite_s h).2 c18
      refine g_iconst X (v := (0 : Int32)) dX12_faultOfCommand_83 (by decide) ?_
      refine g_goto X (tgt := 88) dX12_faultOfCommand_84 (by decide) ?_
      exact g_iret X hr rfl dX12_faultOfCommand_88 (Option.some.inj h)
  have h := (ite_s h).2 w14
  by_cases w19 : (1 : Int32) = (5 : Int32)
  · have h := (ite_s h).1 w19
    refine g_tswIn X (tgt := 89) dX12_faultOfCommand_8 w19 (by decide) (by decide) rfl (by decide) ?_
    refine g_aload_n X 0 (i0 := 0) dX12_faultOfCommand_89 rfl rfl ?_
    refine g_get X (D := D) (v := .ref (E.1 1)) (T := TX12) 0 uX12 (wg_0 E _) rfl 0 (by decide) fl_X12_10 rfl rfl dX12_faultOfCommand_90 ?_
    refine g_iload_n X 2 (i0 := 2) dX12_faultOfCommand_93 rfl rfl ?_
    refine g_iload_n X 3 (i0 := 3) dX12_faultOfCommand_94 rfl rfl ?_
    obtain ⟨r22, D21, e20, h⟩ := cI_s h
    refine g_V X (As := [.int a1, .int a2]) (rest := []) (c_X8_faultOfDigging l G E a1 a2 _ _ e20) 1 (wg_1 E _) rfl rfl kv_X12_119 ⟨rfl, rfl⟩ ⟨rfl, hd_X8_faultOfDigging⟩ (⟨Nat.le_of_ble_eq_true rfl, Nat.le_of_ble_eq_true rfl⟩) rfl rfl (Nat.le_of_ble_eq_true rfl) dX12_faultOfCommand_95 ?_
    exact g_iret X hr rfl dX12_faultOfCommand_98 (Option.some.inj h)
  have h := (ite_s h).2 w19
  by_cases w23 : (1 : Int32) = (6 : Int32)
  · have h := (ite_s h).1 w23
    refine g_tswIn X (tgt := 99) dX12_faultOfCommand_8 w23 (by decide) (by decide) rfl (by decide) ?_
    refine g_aload_n X 0 (i0 := 0) dX12_faultOfCommand_99 rfl rfl ?_
    refine g_get X (D := D) (v := .ref (E.1 1)) (T := TX12) 0 uX12 (wg_0 E _) rfl 0 (by decide) fl_X12_10 rfl rfl dX12_faultOfCommand_100 ?_
    refine g_iload_n X 2 (i0 := 2) dX12_faultOfCommand_103 rfl rfl ?_
    refine g_iload_n X 3 (i0 := 3) dX12_faultOfCommand_104 rfl rfl ?_
    obtain ⟨r26, D25, e24, h⟩ := cI_s h
    refine g_V X (As := [.int a1, .int a2]) (rest := []) (c_X8_faultOfPrice l G E a1 a2 _ _ e24) 1 (wg_1 E _) rfl rfl kv_X12_230 ⟨rfl, rfl⟩ ⟨rfl, hd_X8_faultOfPrice⟩ (⟨Nat.le_of_ble_eq_true rfl, Nat.le_of_ble_eq_true rfl⟩) rfl rfl (Nat.le_of_ble_eq_true rfl) dX12_faultOfCommand_105 ?_
    exact g_iret X hr rfl dX12_faultOfCommand_108 (Option.some.inj h)
  have h := (ite_s h).2 w23
  have zw1 := lv_neT w1 (show (1 : Int32).toInt = 1 by decide)
  have zw5 := lv_neT w5 (show (2 : Int32).toInt = 2 by decide)
  have zw9 := lv_neT w9 (show (3 : Int32).toInt = 3 by decide)
  have zw14 := lv_neT w14 (show (4 : Int32).toInt = 4 by decide)
  have zw19 := lv_neT w19 (show (5 : Int32).toInt = 5 by decide)
  have zw23 := lv_neT w23 (show (6 : Int32).toInt = 6 by decide)
  refine g_tswOut X (tgt := 109) dX12_faultOfCommand_8 (by omega) (by decide) ?_
  refine g_aload_n X 0 (i0 := 0) dX12_faultOfCommand_109 rfl rfl ?_
  refine g_get X (D := D) (v := .ref (E.1 1)) (T := TX12) 0 uX12 (wg_0 E _) rfl 0 (by decide) fl_X12_10 rfl rfl dX12_faultOfCommand_110 ?_
  refine g_iload_n X 2 (i0 := 2) dX12_faultOfCommand_113 rfl rfl ?_
  obtain ⟨r29, D28, e27, h⟩ := cI_s h
  refine g_V X (As := [.int a1]) (rest := []) (c_X8_faultOfSelling l G E a1 _ _ e27) 1 (wg_1 E _) rfl rfl kv_X12_252 ⟨rfl, rfl⟩ ⟨rfl, hd_X8_faultOfSelling⟩ (⟨Nat.le_of_ble_eq_true rfl, Nat.le_of_ble_eq_true rfl⟩) rfl rfl (Nat.le_of_ble_eq_true rfl) dX12_faultOfCommand_114 ?_
  exact g_iret X hr rfl dX12_faultOfCommand_117 (Option.some.inj h)
