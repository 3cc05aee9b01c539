theorem fl_X13_233 : Cond.fieldLink RX13 233 "StoneQuarryModel" "isDoing" "Z" ∈ UT := ut 1374 (by decide +kernel) (by decide +kernel)
theorem hd_X13_does : yX13_does.cls ≠ "java/lang/invoke/MethodHandle" ∧ yX13_does.cls ≠ "java/lang/invoke/VarHandle" ∧ (parseMethodDescriptor yX13_does.desc).map (fun d => d.parameters.length) = some 4 := by decide +kernel
theorem hd_X13_number : yX13_number.cls ≠ "java/lang/invoke/MethodHandle" ∧ yX13_number.cls ≠ "java/lang/invoke/VarHandle" ∧ (parseMethodDescriptor yX13_number.desc).map (fun d => d.parameters.length) = some 1 := by decide +kernel
theorem hd_X13_word : yX13_word.cls ≠ "java/lang/invoke/MethodHandle" ∧ yX13_word.cls ≠ "java/lang/invoke/VarHandle" ∧ (parseMethodDescriptor yX13_word.desc).map (fun d => d.parameters.length) = some 0 := by decide +kernel
theorem wc_X13_word : Cond.code yX13_word cX13_word 5 (some .int) ∈ UT := ut 1758 (by decide +kernel) (by decide +kernel)
theorem we_X13_word : Cond.selects RX13 yX13_word yX13_word ∈ UT := ut 69 (by decide +kernel) (by decide +kernel)
theorem wm_X13_word : Cond.instanceMethod yX13_word ∈ UT := ut 1757 (by decide +kernel) (by decide +kernel)
theorem kv_X13_227 : GoodIn UT (wsV RX13 227 RX13 yX13_word (Cond.code yX13_word cX13_word 5 (some .int) :: UT)) := gu_V (ut 1755 (by decide +kernel) (by decide +kernel)) wm_X13_word we_X13_word wi_RX13 wc_X13_word
theorem wc_X13_number : Cond.code yX13_number cX13_number 4 (some .int) ∈ UT := ut 1766 (by decide +kernel) (by decide +kernel)
theorem we_X13_number : Cond.selects RX13 yX13_number yX13_number ∈ UT := ut 71 (by decide +kernel) (by decide +kernel)
theorem wm_X13_number : Cond.instanceMethod yX13_number ∈ UT := ut 1765 (by decide +kernel) (by decide +kernel)
theorem kv_X13_230 : GoodIn UT (wsV RX13 230 RX13 yX13_number (Cond.code yX13_number cX13_number 4 (some .int) :: UT)) := gu_V (ut 1763 (by decide +kernel) (by decide +kernel)) wm_X13_number we_X13_number wi_RX13 wc_X13_number
theorem wc_X13_does : Cond.code yX13_does cX13_does 5 (some .int) ∈ UT := ut 1774 (by decide +kernel) (by decide +kernel)
theorem we_X13_does : Cond.selects RX13 yX13_does yX13_does ∈ UT := ut 73 (by decide +kernel) (by decide +kernel)
theorem wm_X13_does : Cond.instanceMethod yX13_does ∈ UT := ut 1773 (by decide +kernel) (by decide +kernel)
theorem kv_X13_236 : GoodIn UT (wsV RX13 236 RX13 yX13_does (Cond.code yX13_does cX13_does 5 (some .int) :: UT)) := gu_V (ut 1771 (by decide +kernel) (by decide +kernel)) wm_X13_does we_X13_does wi_RX13 wc_X13_does
def b_X13_command_0  (D : DD) : Option ((Nat × List Int32 × DD) ⊕ RT) := (cI (S_X13_word D) (fun r3 D2 => (if (D2.1 149) = 0 then (if r3 ≤ (4 : Int32) then (cI (S_X13_number (1 : Int32) D2) (fun r6 D5 => (if r3 < (2 : Int32) then (if (D5.1 149) = 0 then (cI (S_X13_number (1 : Int32) D5) (fun r9 D8 => some (.inl (1, [r3, r9, (0 : Int32), r6], D8)))) else some (.inl (1, [r3, (0 : Int32), (0 : Int32), r6], D5))) else (if r3 = (4 : Int32) then (if (D5.1 149) = 0 then (cI (S_X13_number (1 : Int32) D5) (fun r13 D12 => some (.inl (1, [r3, r13, (0 : Int32), r6], D12)))) else some (.inl (1, [r3, (0 : Int32), (0 : Int32), r6], D5))) else (if r3 = (5 : Int32) then (if (D5.1 149) = 0 then (cI (S_X13_number (1 : Int32) D5) (fun r17 D16 => some (.inl (1, [r3, r17, (0 : Int32), r6], D16)))) else some (.inl (1, [r3, (0 : Int32), (0 : Int32), r6], D5))) else some (.inl (1, [r3, (0 : Int32), (0 : Int32), r6], D5))))))) else (cI (S_X13_number (2 : Int32) D2) (fun r24 D23 => (if r3 < (2 : Int32) then (if (D23.1 149) = 0 then (cI (S_X13_number (2 : Int32) D23) (fun r27 D26 => some (.inl (1, [r3, r27, (0 : Int32), r24], D26)))) else some (.inl (1, [r3, (0 : Int32), (0 : Int32), r24], D23))) else (if r3 = (4 : Int32) then (if (D23.1 149) = 0 then (cI (S_X13_number (2 : Int32) D23) (fun r31 D30 => some (.inl (1, [r3, r31, (0 : Int32), r24], D30)))) else some (.inl (1, [r3, (0 : Int32), (0 : Int32), r24], D23))) else (if r3 = (5 : Int32) then (if (D23.1 149) = 0 then (cI (S_X13_number (2 : Int32) D23) (fun r35 D34 => some (.inl (1, [r3, r35, (0 : Int32), r24], D34)))) else some (.inl (1, [r3, (0 : Int32), (0 : Int32), r24], D23))) else some (.inl (1, [r3, (0 : Int32), (0 : Int32), r24], D23)))))))) else some (.inr (0, none, D2)))))
def b_X13_command_1 (x1 : Int32) (x2 : Int32) (x3 : Int32) (x5 : Int32) (D : DD) : Option ((Nat × List Int32 × DD) ⊕ RT) := (if (2 : Int32) ≤ x1 then some (.inl (2, [x1, x2, x3, x5], D)) else (if (D.1 149) = 0 then (cI (S_X13_number (1 : Int32) D) (fun r44 D43 => some (.inl (2, [x1, x2, r44, x5], D43)))) else some (.inl (2, [x1, x2, x3, x5], D))))
def b_X13_command_2 (x1 : Int32) (x2 : Int32) (x3 : Int32) (x5 : Int32) (D : DD) : Option ((Nat × List Int32 × DD) ⊕ RT) := (if (D.1 149) = 0 then (if (D.1 150) = 0 then some (.inr (0, none, D)) else (cI (S_X13_does x1 x5 x2 x3 D) (fun r49 D48 => some (.inr (0, none, D48))))) else some (.inr (0, none, D)))
def T_X13_command (k : Nat) (ls : List Int32) (D : DD) : Option ((Nat × List Int32 × DD) ⊕ RT) := match k, ls with
  | 0, [] => b_X13_command_0  D
  | 1, [x1, x2, x3, x5] => b_X13_command_1 x1 x2 x3 x5 D
  | 2, [x1, x2, x3, x5] => b_X13_command_2 x1 x2 x3 x5 D
  | _, _ => none
def S_X13_command  (D : DD) : Option RT := run T_X13_command FUEL 0 [] D
def hg_X13_command (p : Program) (l : Launch) (e : Env) (s : State) (m : MethodId) (args : Array Value) (below : List Frame) (meth : Method) (c : Code) (G : va_G) (E : EE) (r : RT) (k : Nat) (ls : List Int32) (D : DD) : Prop := match k, ls with
  | 0, [] => GW p l e (rmm 5) s m args below meth c G E 7 (MQ below (QR G E s.heap.size r) args s 0 0 (fr E s.heap.size)) 0 0 D 0 [(0, .ref (E.1 84))] []
  | 1, [x1, x2, x3, x5] => GW p l e (rmm 5) s m args below meth c G E 7 (MQ below (QR G E s.heap.size r) args s 0 0 (fr E s.heap.size)) 0 0 D 66 [(0, .ref (E.1 84)), (1, .int x1), (2, .int x2), (3, .int x3), (5, .int x5)] []
  | 2, [x1, x2, x3, x5] => GW p l e (rmm 5) s m args below meth c G E 7 (MQ below (QR G E s.heap.size r) args s 0 0 (fr E s.heap.size)) 0 0 D 84 [(0, .ref (E.1 84)), (1, .int x1), (2, .int x2), (3, .int x3), (5, .int x5)] []
  | _, _ => True
set_option maxRecDepth 100000 in
set_option maxHeartbeats 4000000 in
theorem bl_X13_command_0 {p : Program} {l : Launch} {e : Env} {s : State} {m : MethodId} {args : Array Value} {below : List Frame} {meth : Method} {c : Code} {G : va_G} {E : EE} {r : RT} (X : CX p s m args meth c cX13_command RX13 7 G E) (hr : meth.sig.returnType = none)  (D : DD) (o : (Nat × List Int32 × DD) ⊕ RT) (h : b_X13_command_0  D = some o) (h1 : ∀ x, o = .inl x → hg_X13_command p l e s m args below meth c G E r x.1 x.2.1 x.2.2) (h2 : ∀ x, o = .inr x → x = r) : GW p l e (rmm 5) s m args below meth c G E 7 (MQ below (QR G E s.heap.size r) args s 0 0 (fr E s.heap.size)) 0 0 D 0 [(0, .ref (E.1 84))] [] := by
  unfold b_X13_command_0 at h
  refine g_aload_n X 0 (i0 := 0) dX13_command_0 rfl rfl ?_
  obtain ⟨r3, D2, e1, h⟩ := cI_s h
  refine g_V X (As := []) (rest := []) (c_X13_word l G E  _ _ e1) 84 (wg_84 E _) rfl rfl kv_X13_227 ⟨rfl, rfl⟩ ⟨rfl, hd_X13_word⟩ (⟨Nat.le_of_ble_eq_true rfl, Nat.le_of_ble_eq_true rfl⟩) rfl rfl (Nat.le_of_ble_eq_true rfl) dX13_command_1 ?_
  refine g_istore_n X (i0 := 1) (lv' := [(1, .int r3), (0, .ref (E.1 84))]) dX13_command_4 rfl (by decide) rfl ?_
  refine g_iconst X (v := (0 : Int32)) dX13_command_5 (by decide) ?_
  refine g_istore_n X (i0 := 2) (lv' := [(2, .int (0 : Int32)), (1, .int r3), (0, .ref (E.1 84))]) dX13_command_6 rfl (by decide) rfl ?_
  refine g_iconst X (v := (0 : Int32)) dX13_command_7 (by decide) ?_
  refine g_istore_n X (i0 := 3) (lv' := [(3, .int (0 : Int32)), (2, .int (0 : Int32)), (1, .int r3), (0, .ref (E.1 84))]) dX13_command_8 rfl (by decide) rfl ?_
  refine g_aload_n X 3 (i0 := 0) dX13_command_9 rfl rfl ?_
  refine g_get X (D := D2) (v := .int (D2.1 149)) (T := TX13) 84 uX13 (wg_84 E _) rfl 23 (by decide) fl_X13_217 rfl rfl dX13_command_10 ?_
  refine g_if_eq X (tgt := 17) dX13_command_13 (by decide) (fun c41 => ?_) (fun c41 => ?_)
  · have h := (ite_s h).1 c41
    refine g_iload_n X 2 (i0 := 1) dX13_command_17 rfl rfl ?_
    refine g_iconst X (v := (4 : Int32)) dX13_command_18 (by decide) ?_
    refine g_icmp_le X (tgt := 26) dX13_command_19 (by decide) (fun c40 => ?_) (fun c40 => ?_)
    · have h := (ite_s h).1 c40
      refine g_iconst X (v := (1 : Int32)) dX13_command_26 (by decide) ?_
      refine g_istore X (lv' := [(4, .int (1 : Int32)), (3, .int (0 : Int32)), (2, .int (0 : Int32)), (1, .int r3), (0, .ref (E.1 84))]) dX13_command_27 (by decide) rfl ?_
      refine g_aload_n X 4 (i0 := 0) dX13_command_29 rfl rfl ?_
      refine g_iload X 0 dX13_command_30 rfl ?_
      obtain ⟨r6, D5, e4, h⟩ := cI_s h
      refine g_V X (As := [.int (1 : Int32)]) (rest := []) (c_X13_number l G E (1 : Int32) _ _ e4) 84 (wg_84 E _) rfl rfl kv_X13_230 ⟨rfl, rfl⟩ ⟨rfl, hd_X13_number⟩ (⟨Nat.le_of_ble_eq_true rfl, Nat.le_of_ble_eq_true rfl⟩) rfl rfl (Nat.le_of_ble_eq_true rfl) dX13_command_32 ?_
      refine g_istore X (lv' := [(5, .int r6), (4, .int (1 : Int32)), (3, .int (0 : Int32)), (2, .int (0 : Int32)), (1, .int r3), (0, .ref (E.1 84))]) dX13_command_35 (by decide) rfl ?_
      refine g_iload_n X 4 (i0 := 1) dX13_command_37 rfl rfl ?_
      refine g_iconst X (v := (2 : Int32)) dX13_command_38 (by decide) ?_
      refine g_icmp_lt X (tgt := 52) dX13_command_39 (by decide) (fun c21 => ?_) (fun c21 => ?_)
      · have h := (ite_s h).1 c21
        refine g_aload_n X 5 (i0 := 0) dX13_command_52 rfl rfl ?_
        refine g_get X (D := D5) (v := .int (D5.1 149)) (T := TX13) 84 uX13 (wg_84 E _) rfl 23 (by decide) fl_X13_217 rfl rfl dX13_command_53 ?_
        refine g_if_ne X (tgt := 66) dX13_command_56 (by decide) (fun c10 => ?_) (fun c10 => ?_)
        · have h := (ite_s h).2 c10
          refine g_sub (lv' := [(0, .ref (E.1 84)), (1, .int r3), (2, .int (0 : Int32)), (3, .int (0 : Int32)), (5, .int r6)]) [5, 4, 3, 2, 0] rfl ?_
          exact h1 _ (Option.some.inj h).symm
        · have h := (ite_s h).1 c10
          refine g_aload_n X 5 (i0 := 0) dX13_command_59 rfl rfl ?_
          refine g_iload X 1 dX13_command_60 rfl ?_
          obtain ⟨r9, D8, e7, h⟩ := cI_s h
          refine g_V X (As := [.int (1 : Int32)]) (rest := []) (c_X13_number l G E (1 : Int32) _ _ e7) 84 (wg_84 E _) rfl rfl kv_X13_230 ⟨rfl, rfl⟩ ⟨rfl, hd_X13_number⟩ (⟨Nat.le_of_ble_eq_true rfl, Nat.le_of_ble_eq_true rfl⟩) rfl rfl (Nat.le_of_ble_eq_true rfl) dX13_command_62 ?_
          refine g_istore_n X (i0 := 2) (lv' := [(2, .int r9), (5, .int r6), (4, .int (1 : Int32)), (3, .int (0 : Int32)), (1, .int r3), (0, .ref (E.1 84))]) dX13_command_65 rfl (by decide) rfl ?_
          refine g_sub (lv' := [(0, .ref (E.1 84)), (1, .int r3), (2, .int r9), (3, .int (0 : Int32)), (5, .int r6)]) [5, 4, 0, 3, 1] rfl ?_
          exact h1 _ (Option.some.inj h).symm
      · have h := (ite_s h).2 c21
        refine g_iload_n X 4 (i0 := 1) dX13_command_42 rfl rfl ?_
        refine g_iconst X (v := (4 : Int32)) dX13_command_43 (by decide) ?_
        refine g_icmp_eq X (tgt := 52) dX13_command_44 (by decide) (fun c20 => ?_) (fun c20 => ?_)
        · have h := (ite_s h).1 c20
          refine g_aload_n X 5 (i0 := 0) dX13_command_52 rfl rfl ?_
          refine g_get X (D := D5) (v := .int (D5.1 149)) (T := TX13) 84 uX13 (wg_84 E _) rfl 23 (by decide) fl_X13_217 rfl rfl dX13_command_53 ?_
          refine g_if_ne X (tgt := 66) dX13_command_56 (by decide) (fun c14 => ?_) (fun c14 => ?_)
          · have h := (ite_s h).2 c14
            refine g_sub (lv' := [(0, .ref (E.1 84)), (1, .int r3), (2, .int (0 : Int32)), (3, .int (0 : Int32)), (5, .int r6)]) [5, 4, 3, 2, 0] rfl ?_
            exact h1 _ (Option.some.inj h).symm
          · have h := (ite_s h).1 c14
            refine g_aload_n X 5 (i0 := 0) dX13_command_59 rfl rfl ?_
            refine g_iload X 1 dX13_command_60 rfl ?_
            obtain ⟨r13, D12, e11, h⟩ := cI_s h
            refine g_V X (As := [.int (1 : Int32)]) (rest := []) (c_X13_number l G E (1 : Int32) _ _ e11) 84 (wg_84 E _) rfl rfl kv_X13_230 ⟨rfl, rfl⟩ ⟨rfl, hd_X13_number⟩ (⟨Nat.le_of_ble_eq_true rfl, Nat.le_of_ble_eq_true rfl⟩) rfl rfl (Nat.le_of_ble_eq_true rfl) dX13_command_62 ?_
            refine g_istore_n X (i0 := 2) (lv' := [(2, .int r13), (5, .int r6), (4, .int (1 : Int32)), (3, .int (0 : Int32)), (1, .int r3), (0, .ref (E.1 84))]) dX13_command_65 rfl (by decide) rfl ?_
            refine g_sub (lv' := [(0, .ref (E.1 84)), (1, .int r3), (2, .int r13), (3, .int (0 : Int32)), (5, .int r6)]) [5, 4, 0, 3, 1] rfl ?_
            exact h1 _ (Option.some.inj h).symm
        · have h := (ite_s h).2 c20
          refine g_iload_n X 4 (i0 := 1) dX13_command_47 rfl rfl ?_
          refine g_iconst X (v := (5 : Int32)) dX13_command_48 (by decide) ?_
          refine g_icmp_ne X (tgt := 66) dX13_command_49 (by decide) (fun c19 => ?_) (fun c19 => ?_)
          · have h := (ite_s h).2 c19
            refine g_sub (lv' := [(0, .ref (E.1 84)), (1, .int r3), (2, .int (0 : Int32)), (3, .int (0 : Int32)), (5, .int r6)]) [5, 4, 3, 2, 0] rfl ?_
            exact h1 _ (Option.some.inj h).symm
          · have h := (ite_s h).1 c19
            refine g_aload_n X 5 (i0 := 0) dX13_command_52 rfl rfl ?_
            refine g_get X (D := D5) (v := .int (D5.1 149)) (T := TX13) 84 uX13 (wg_84 E _) rfl 23 (by decide) fl_X13_217 rfl rfl dX13_command_53 ?_
            refine g_if_ne X (tgt := 66) dX13_command_56 (by decide) (fun c18 => ?_) (fun c18 => ?_)
            · have h := (ite_s h).2 c18
              refine g_sub (lv' := [(0, .ref (E.1 84)), (1, .int r3), (2, .int (0 : Int32)), (3, .int (0 : Int32)), (5, .int r6)]) [5, 4, 3, 2, 0] rfl ?_
              exact h1 _ (Option.some.inj h).symm
            · have h := (ite_s h).1 c18
              refine g_aload_n X 5 (i0 := 0) dX13_command_59 rfl rfl ?_
              refine g_iload X 1 dX13_command_60 rfl ?_
              obtain ⟨r17, D16, e15, h⟩ := cI_s h
              refine g_V X (As := [.int (1 : Int32)]) (rest := []) (c_X13_number l G E (1 : Int32) _ _ e15) 84 (wg_84 E _) rfl rfl kv_X13_230 ⟨rfl, rfl⟩ ⟨rfl, hd_X13_number⟩ (⟨Nat.le_of_ble_eq_true rfl, Nat.le_of_ble_eq_true rfl⟩) rfl rfl (Nat.le_of_ble_eq_true rfl) dX13_command_62 ?_
              refine g_istore_n X (i0 := 2) (lv' := [(2, .int r17), (5, .int r6), (4, .int (1 : Int32)), (3, .int (0 : Int32)), (1, .int r3), (0, .ref (E.1 84))]) dX13_command_65 rfl (by decide) rfl ?_
              refine g_sub (lv' := [(0, .ref (E.1 84)), (1, .int r3), (2, .int r17), (3, .int (0 : Int32)), (5, .int r6)]) [5, 4, 0, 3, 1] rfl ?_
              exact h1 _ (Option.some.inj h).symm
    · have h := (ite_s h).2 c40
      refine g_iconst X (v := (2 : Int32)) dX13_command_22 (by decide) ?_
      refine g_goto X (tgt := 27) dX13_command_23 (by decide) ?_
      refine g_istore X (lv' := [(4, .int (2 : Int32)), (3, .int (0 : Int32)), (2, .int (0 : Int32)), (1, .int r3), (0, .ref (E.1 84))]) dX13_command_27 (by decide) rfl ?_
      refine g_aload_n X 4 (i0 := 0) dX13_command_29 rfl rfl ?_
      refine g_iload X 0 dX13_command_30 rfl ?_
      obtain ⟨r24, D23, e22, h⟩ := cI_s h
      refine g_V X (As := [.int (2 : Int32)]) (rest := []) (c_X13_number l G E (2 : Int32) _ _ e22) 84 (wg_84 E _) rfl rfl kv_X13_230 ⟨rfl, rfl⟩ ⟨rfl, hd_X13_number⟩ (⟨Nat.le_of_ble_eq_true rfl, Nat.le_of_ble_eq_true rfl⟩) rfl rfl (Nat.le_of_ble_eq_true rfl) dX13_command_32 ?_
      refine g_istore X (lv' := [(5, .int r24), (4, .int (2 : Int32)), (3, .int (0 : Int32)), (2, .int (0 : Int32)), (1, .int r3), (0, .ref (E.1 84))]) dX13_command_35 (by decide) rfl ?_
      refine g_iload_n X 4 (i0 := 1) dX13_command_37 rfl rfl ?_
      refine g_iconst X (v := (2 : Int32)) dX13_command_38 (by decide) ?_
      refine g_icmp_lt X (tgt := 52) dX13_command_39 (by decide) (fun c39 => ?_) (fun c39 => ?_)
      · have h := (ite_s h).1 c39
        refine g_aload_n X 5 (i0 := 0) dX13_command_52 rfl rfl ?_
        refine g_get X (D := D23) (v := .int (D23.1 149)) (T := TX13) 84 uX13 (wg_84 E _) rfl 23 (by decide) fl_X13_217 rfl rfl dX13_command_53 ?_
        refine g_if_ne X (tgt := 66) dX13_command_56 (by decide) (fun c28 => ?_) (fun c28 => ?_)
        · have h := (ite_s h).2 c28
          refine g_sub (lv' := [(0, .ref (E.1 84)), (1, .int r3), (2, .int (0 : Int32)), (3, .int (0 : Int32)), (5, .int r24)]) [5, 4, 3, 2, 0] rfl ?_
          exact h1 _ (Option.some.inj h).symm
        · have h := (ite_s h).1 c28
          refine g_aload_n X 5 (i0 := 0) dX13_command_59 rfl rfl ?_
          refine g_iload X 1 dX13_command_60 rfl ?_
          obtain ⟨r27, D26, e25, h⟩ := cI_s h
          refine g_V X (As := [.int (2 : Int32)]) (rest := []) (c_X13_number l G E (2 : Int32) _ _ e25) 84 (wg_84 E _) rfl rfl kv_X13_230 ⟨rfl, rfl⟩ ⟨rfl, hd_X13_number⟩ (⟨Nat.le_of_ble_eq_true rfl, Nat.le_of_ble_eq_true rfl⟩) rfl rfl (Nat.le_of_ble_eq_true rfl) dX13_command_62 ?_
          refine g_istore_n X (i0 := 2) (lv' := [(2, .int r27), (5, .int r24), (4, .int (2 : Int32)), (3, .int (0 : Int32)), (1, .int r3), (0, .ref (E.1 84))]) dX13_command_65 rfl (by decide) rfl ?_
          refine g_sub (lv' := [(0, .ref (E.1 84)), (1, .int r3), (2, .int r27), (3, .int (0 : Int32)), (5, .int r24)]) [5, 4, 0, 3, 1] rfl ?_
          exact h1 _ (Option.some.inj h).symm
      · have h := (ite_s h).2 c39
        refine g_iload_n X 4 (i0 := 1) dX13_command_42 rfl rfl ?_
        refine g_iconst X (v := (4 : Int32)) dX13_command_43 (by decide) ?_
        refine g_icmp_eq X (tgt := 52) dX13_command_44 (by decide) (fun c38 => ?_) (fun c38 => ?_)
        · have h := (ite_s h).1 c38
          refine g_aload_n X 5 (i0 := 0) dX13_command_52 rfl rfl ?_
          refine g_get X (D := D23) (v := .int (D23.1 149)) (T := TX13) 84 uX13 (wg_84 E _) rfl 23 (by decide) fl_X13_217 rfl rfl dX13_command_53 ?_
          refine g_if_ne X (tgt := 66) dX13_command_56 (by decide) (fun c32 => ?_) (fun c32 => ?_)
          · have h := (ite_s h).2 c32
            refine g_sub (lv' := [(0, .ref (E.1 84)), (1, .int r3), (2, .int (0 : Int32)), (3, .int (0 : Int32)), (5, .int r24)]) [5, 4, 3, 2, 0] rfl ?_
            exact h1 _ (Option.some.inj h).symm
          · have h := (ite_s h).1 c32
            refine g_aload_n X 5 (i0 := 0) dX13_command_59 rfl rfl ?_
            refine g_iload X 1 dX13_command_60 rfl ?_
            obtain ⟨r31, D30, e29, h⟩ := cI_s h
            refine g_V X (As := [.int (2 : Int32)]) (rest := []) (c_X13_number l G E (2 : Int32) _ _ e29) 84 (wg_84 E _) rfl rfl kv_X13_230 ⟨rfl, rfl⟩ ⟨rfl, hd_X13_number⟩ (⟨Nat.le_of_ble_eq_true rfl, Nat.le_of_ble_eq_true rfl⟩) rfl rfl (Nat.le_of_ble_eq_true rfl) dX13_command_62 ?_
            refine g_istore_n X (i0 := 2) (lv' := [(2, .int r31), (5, .int r24), (4, .int (2 : Int32)), (3, .int (0 : Int32)), (1, .int r3), (0, .ref (E.1 84))]) dX13_command_65 rfl (by decide) rfl ?_
            refine g_sub (lv' := [(0, .ref (E.1 84)), (1, .int r3), (2, .int r31), (3, .int (0 : Int32)), (5, .int r24)]) [5, 4, 0, 3, 1] rfl ?_
            exact h1 _ (Option.some.inj h).symm
        · have h := (ite_s h).2 c38
          refine g_iload_n X 4 (i0 := 1) dX13_command_47 rfl rfl ?_
          refine g_iconst X (v := (5 : Int32)) dX13_command_48 (by decide) ?_
          refine g_icmp_ne X (tgt := 66) dX13_command_49 (by decide) (fun c37 => ?_) (fun c37 => ?_)
          · have h := (ite_s h).2 c37
            refine g_sub (lv' := [(0, .ref (E.1 84)), (1, .int r3), (2, .int (0 : Int32)), (3, .int (0 : Int32)), (5, .int r24)]) [5, 4, 3, 2, 0] rfl ?_
            exact h1 _ (Option.some.inj h).symm
          · have h := (ite_s h).1 c37
            refine g_aload_n X 5 (i0 := 0) dX13_command_52 rfl rfl ?_
            refine g_get X (D := D23) (v := .int (D23.1 149)) (T := TX13) 84 uX13 (wg_84 E _) rfl 23 (by decide) fl_X13_217 rfl rfl dX13_command_53 ?_
            refine g_if_ne X (tgt := 66) dX13_command_56 (by decide) (fun c36 => ?_) (fun c36 => ?_)
            · have h := (ite_s h).2 c36
              refine g_sub (lv' := [(0, .ref (E.1 84)), (1, .int r3), (2, .int (0 : Int32)), (3, .int (0 : Int32)), (5, .int r24)]) [5, 4, 3, 2, 0] rfl ?_
              exact h1 _ (Option.some.inj h).symm
            · have h := (ite_s h).1 c36
              refine g_aload_n X 5 (i0 := 0) dX13_command_59 rfl rfl ?_
              refine g_iload X 1 dX13_command_60 rfl ?_
              obtain ⟨r35, D34, e33, h⟩ := cI_s h
              refine g_V X (As := [.int (2 : Int32)]) (rest := []) (c_X13_number l G E (2 : Int32) _ _ e33) 84 (wg_84 E _) rfl rfl kv_X13_230 ⟨rfl, rfl⟩ ⟨rfl, hd_X13_number⟩ (⟨Nat.le_of_ble_eq_true rfl, Nat.le_of_ble_eq_true rfl⟩) rfl rfl (Nat.le_of_ble_eq_true rfl) dX13_command_62 ?_
              refine g_istore_n X (i0 := 2) (lv' := [(2, .int r35), (5, .int r24), (4, .int (2 : Int32)), (3, .int (0 : Int32)), (1, .int r3), (0, .ref (E.1 84))]) dX13_command_65 rfl (by decide) rfl ?_
              refine g_sub (lv' := [(0, .ref (E.1 84)), (1, .int r3), (2, .int r35), (3, .int (0 : Int32)), (5, .int r24)]) [5, 4, 0, 3, 1] rfl ?_
              exact h1 _ (Option.some.inj h).symm
  · have h := (ite_s h).2 c41
    exact g_vret X hr dX13_command_16 (h2 _ (Option.some.inj h).symm)
set_option maxRecDepth 100000 in
set_option maxHeartbeats 4000000 in
theorem bl_X13_command_1 {p : Program} {l : Launch} {e : Env} {s : State} {m : MethodId} {args : Array Value} {below : List Frame} {meth : Method} {c : Code} {G : va_G} {E : EE} {r : RT} (X : CX p s m args meth c cX13_command RX13 7 G E) (hr : meth.sig.returnType = none) (x1 : Int32) (x2 : Int32) (x3 : Int32) (x5 : Int32) (D : DD) (o : (Nat × List Int32 × DD) ⊕ RT) (h : b_X13_command_1 x1 x2 x3 x5 D = some o) (h1 : ∀ x, o = .inl x → hg_X13_command p l e s m args below meth c G E r x.1 x.2.1 x.2.2) (h2 : ∀ x, o = .inr x → x = r) : GW p l e (rmm 5) s m args below meth c G E 7 (MQ below (QR G E s.heap.size r) args s 0 0 (fr E s.heap.size)) 0 0 D 66 [(0, .ref (E.1 84)), (1, .int x1), (2, .int x2), (3, .int x3), (5, .int x5)] [] := by
  unfold b_X13_command_1 at h
  refine g_iload_n X 1 (i0 := 1) dX13_command_66 rfl rfl ?_
  refine g_iconst X (v := (2 : Int32)) dX13_command_67 (by decide) ?_
  refine g_icmp_ge X (tgt := 84) dX13_command_68 (by decide) (fun c46 => ?_) (fun c46 => ?_)
  · have h := (ite_s h).1 c46
    refine g_sub (lv' := [(0, .ref (E.1 84)), (1, .int x1), (2, .int x2), (3, .int x3), (5, .int x5)]) [0, 1, 2, 3, 4] rfl ?_
    exact h1 _ (Option.some.inj h).symm
  · have h := (ite_s h).2 c46
    refine g_aload_n X 0 (i0 := 0) dX13_command_71 rfl rfl ?_
    refine g_get X (D := D) (v := .int (D.1 149)) (T := TX13) 84 uX13 (wg_84 E _) rfl 23 (by decide) fl_X13_217 rfl rfl dX13_command_72 ?_
    refine g_if_ne X (tgt := 84) dX13_command_75 (by decide) (fun c45 => ?_) (fun c45 => ?_)
    · have h := (ite_s h).2 c45
      refine g_sub (lv' := [(0, .ref (E.1 84)), (1, .int x1), (2, .int x2), (3, .int x3), (5, .int x5)]) [0, 1, 2, 3, 4] rfl ?_
      exact h1 _ (Option.some.inj h).symm
    · have h := (ite_s h).1 c45
      refine g_aload_n X 0 (i0 := 0) dX13_command_78 rfl rfl ?_
      refine g_iconst X (v := (1 : Int32)) dX13_command_79 (by decide) ?_
      obtain ⟨r44, D43, e42, h⟩ := cI_s h
      refine g_V X (As := [.int (1 : Int32)]) (rest := []) (c_X13_number l G E (1 : Int32) _ _ e42) 84 (wg_84 E _) rfl rfl kv_X13_230 ⟨rfl, rfl⟩ ⟨rfl, hd_X13_number⟩ (⟨Nat.le_of_ble_eq_true rfl, Nat.le_of_ble_eq_true rfl⟩) rfl rfl (Nat.le_of_ble_eq_true rfl) dX13_command_80 ?_
      refine g_istore_n X (i0 := 3) (lv' := [(3, .int r44), (0, .ref (E.1 84)), (1, .int x1), (2, .int x2), (5, .int x5)]) dX13_command_83 rfl (by decide) rfl ?_
      refine g_sub (lv' := [(0, .ref (E.1 84)), (1, .int x1), (2, .int x2), (3, .int r44), (5, .int x5)]) [1, 2, 3, 0, 4] rfl ?_
      exact h1 _ (Option.some.inj h).symm
set_option maxRecDepth 100000 in
set_option maxHeartbeats 4000000 in
theorem bl_X13_command_2 {p : Program} {l : Launch} {e : Env} {s : State} {m : MethodId} {args : Array Value} {below : List Frame} {meth : Method} {c : Code} {G : va_G} {E : EE} {r : RT} (X : CX p s m args meth c cX13_command RX13 7 G E) (hr : meth.sig.returnType = none) (x1 : Int32) (x2 : Int32) (x3 : Int32) (x5 : Int32) (D : DD) (o : (Nat × List Int32 × DD) ⊕ RT) (h : b_X13_command_2 x1 x2 x3 x5 D = some o) (h1 : ∀ x, o = .inl x → hg_X13_command p l e s m args below meth c G E r x.1 x.2.1 x.2.2) (h2 : ∀ x, o = .inr x → x = r) : GW p l e (rmm 5) s m args below meth c G E 7 (MQ below (QR G E s.heap.size r) args s 0 0 (fr E s.heap.size)) 0 0 D 84 [(0, .ref (E.1 84)), (1, .int x1), (2, .int x2), (3, .int x3), (5, .int x5)] [] := by
  unfold b_X13_command_2 at h
  refine g_aload_n X 0 (i0 := 0) dX13_command_84 rfl rfl ?_
  refine g_get X (D := D) (v := .int (D.1 149)) (T := TX13) 84 uX13 (wg_84 E _) rfl 23 (by decide) fl_X13_217 rfl rfl dX13_command_85 ?_
  refine g_if_ne X (tgt := 98) dX13_command_88 (by decide) (fun c51 => ?_) (fun c51 => ?_)
  · have h := (ite_s h).2 c51
    exact g_vret X hr dX13_command_98 (h2 _ (Option.some.inj h).symm)
  · have h := (ite_s h).1 c51
    refine g_aload_n X 0 (i0 := 0) dX13_command_91 rfl rfl ?_
    refine g_get X (D := D) (v := .int (D.1 150)) (T := TX13) 84 uX13 (wg_84 E _) rfl 24 (by decide) fl_X13_233 rfl rfl dX13_command_92 ?_
    refine g_if_ne X (tgt := 99) dX13_command_95 (by decide) (fun c50 => ?_) (fun c50 => ?_)
    · have h := (ite_s h).2 c50
      refine g_aload_n X 0 (i0 := 0) dX13_command_99 rfl rfl ?_
      refine g_iload_n X 1 (i0 := 1) dX13_command_100 rfl rfl ?_
      refine g_iload X 4 dX13_command_101 rfl ?_
      refine g_iload_n X 2 (i0 := 2) dX13_command_103 rfl rfl ?_
      refine g_iload_n X 3 (i0 := 3) dX13_command_104 rfl rfl ?_
      obtain ⟨r49, D48, e47, h⟩ := cI_s h
      refine g_V X (As := [.int x1, .int x5, .int x2, .int x3]) (rest := []) (c_X13_does l G E x1 x5 x2 x3 _ _ e47) 84 (wg_84 E _) rfl rfl kv_X13_236 ⟨rfl, rfl⟩ ⟨rfl, hd_X13_does⟩ (⟨Nat.le_of_ble_eq_true rfl, Nat.le_of_ble_eq_true rfl⟩) rfl rfl (Nat.le_of_ble_eq_true rfl) dX13_command_105 ?_
      refine g_istore X (lv' := [(6, .int r49), (0, .ref (E.1 84)), (1, .int x1), (2, .int x2), (3, .int x3), (5, .int x5)]) dX13_command_108 (by decide) rfl ?_
      exact g_vret X hr dX13_command_110 (h2 _ (Option.some.inj h).symm)
    · have h := (ite_s h).1 c50
      exact g_vret X hr dX13_command_98 (h2 _ (Option.some.inj h).symm)
set_option maxRecDepth 100000 in
set_option maxHeartbeats 4000000 in
theorem c_X13_command (l : Launch) (G : va_G) (E : EE)  (D : DD) (r : RT) (h : S_X13_command  D = some r) : MM l G E yX13_command cX13_command 7 none (rmm 5) [.ref (E.1 84)] D r := by
  unfold S_X13_command at h
  refine m_of rfl (Nat.le_of_ble_eq_true rfl) ?_
  intro p e s m args below meth c X hr
  exact run_G (T := T_X13_command) (HG := hg_X13_command p l e s m args below meth c G E r) (by
    intro k ls D o hT h1 h2
    unfold T_X13_command at hT
    split at hT
    · exact bl_X13_command_0 X hr  D o hT h1 h2
    · exact bl_X13_command_1 X hr _ _ _ _ D o hT h1 h2
    · exact bl_X13_command_2 X hr _ _ _ _ D o hT h1 h2
    · cases hT) FUEL 0 [] D h
theorem hd_X13_command : yX13_command.cls ≠ "java/lang/invoke/MethodHandle" ∧ yX13_command.cls ≠ "java/lang/invoke/VarHandle" ∧ (parseMethodDescriptor yX13_command.desc).map (fun d => d.parameters.length) = some 0 := by decide +kernel
theorem wc_X13_command : Cond.code yX13_command cX13_command 7 none ∈ UT := ut 1754 (by decide +kernel) (by decide +kernel)
theorem we_X13_command : Cond.selects RX13 yX13_command yX13_command ∈ UT := ut 68 (by decide +kernel) (by decide +kernel)
theorem wm_X13_command : Cond.instanceMethod yX13_command ∈ UT := ut 1753 (by decide +kernel) (by decide +kernel)
theorem kv_X13_240 : GoodIn UT (wsV RX13 240 RX13 yX13_command (Cond.code yX13_command cX13_command 7 none :: UT)) := gu_V (ut 1751 (by decide +kernel) (by decide +kernel)) wm_X13_command we_X13_command wi_RX13 wc_X13_command
def b_X13_commands_0  (D : DD) : Option ((Nat × List Int32 × DD) ⊕ RT) := (cV (S_X13_command (setI (setI D 146 (0 : Int32)) 149 (0 : Int32))) (fun D2 => some (.inl (1, [(1 : Int32)], D2))))
def b_X13_commands_1 (x1 : Int32) (D : DD) : Option ((Nat × List Int32 × DD) ⊕ RT) := (if (D.1 149) = 0 then (if (D.1 140) = 0 then (if (D.1 147) ≤ (D.1 146) then some (.inr (0, some (.int x1), D)) else (cV (S_X13_expects (59 : Int32) D) (fun D4 => (if (D4.1 149) = 0 then (cV (S_X13_command D4) (fun D6 => some (.inl (1, [(x1 + (1 : Int32))], D6)))) else some (.inl (1, [(x1 + (1 : Int32))], D4)))))) else some (.inr (0, some (.int x1), D))) else some (.inr (0, some (.int x1), D)))
def T_X13_commands (k : Nat) (ls : List Int32) (D : DD) : Option ((Nat × List Int32 × DD) ⊕ RT) := match k, ls with
  | 0, [] => b_X13_commands_0  D
  | 1, [x1] => b_X13_commands_1 x1 D
  | _, _ => none
def S_X13_commands  (D : DD) : Option RT := run T_X13_commands FUEL 0 [] D
def hg_X13_commands (p : Program) (l : Launch) (e : Env) (s : State) (m : MethodId) (args : Array Value) (below : List Frame) (meth : Method) (c : Code) (G : va_G) (E : EE) (r : RT) (k : Nat) (ls : List Int32) (D : DD) : Prop := match k, ls with
  | 0, [] => GW p l e (rmm 6) s m args below meth c G E 2 (MQ below (QR G E s.heap.size r) args s 0 0 (fr E s.heap.size)) 0 0 D 0 [(0, .ref (E.1 84))] []
  | 1, [x1] => GW p l e (rmm 6) s m args below meth c G E 2 (MQ below (QR G E s.heap.size r) args s 0 0 (fr E s.heap.size)) 0 0 D 16 [(0, .ref (E.1 84)), (1, .int x1)] []
  | _, _ => True
set_option maxRecDepth 100000 in
set_option maxHeartbeats 4000000 in
theorem bl_X13_commands_0 {p : Program} {l : Launch} {e : Env} {s : State} {m : MethodId} {args : Array Value} {below : List Frame} {meth : Method} {c : Code} {G : va_G} {E : EE} {r : RT} (X : CX p s m args meth c cX13_commands RX13 2 G E) (hr : meth.sig.returnType = (some .int))  (D : DD) (o : (Nat × List Int32 × DD) ⊕ RT) (h : b_X13_commands_0  D = some o) (h1 : ∀ x, o = .inl x → hg_X13_commands p l e s m args below meth c G E r x.1 x.2.1 x.2.2) (h2 : ∀ x, o = .inr x → x = r) : GW p l e (rmm 6) s m args below meth c G E 2 (MQ below (QR G E s.heap.size r) args s 0 0 (fr E s.heap.size)) 0 0 D 0 [(0, .ref (E.1 84))] [] := by
  unfold b_X13_commands_0 at h
  refine g_aload_n X 0 (i0 := 0) dX13_commands_0 rfl rfl ?_
  refine g_iconst X (v := (0 : Int32)) dX13_commands_1 (by decide) ?_
  refine g_put X (D := D) (v := .int (0 : Int32)) (T := TX13) (D' := (setI D 146 (0 : Int32))) 84 uX13 tyX13 tyX13_ok nmX13 (wg_84 E _) rfl 20 (by decide) fl_X13_211 rfl rfl rfl rfl (Nat.le_of_ble_eq_true rfl) (ws_I_146 E _ _) dX13_commands_2 ?_
  refine g_aload_n X 0 (i0 := 0) dX13_commands_5 rfl rfl ?_
  refine g_iconst X (v := (0 : Int32)) dX13_commands_6 (by decide) ?_
  refine g_put X (D := (setI D 146 (0 : Int32))) (v := .int (0 : Int32)) (T := TX13) (D' := (setI (setI D 146 (0 : Int32)) 149 (0 : Int32))) 84 uX13 tyX13 tyX13_ok nmX13 (wg_84 E _) rfl 23 (by decide) fl_X13_217 rfl rfl rfl rfl (Nat.le_of_ble_eq_true rfl) (ws_I_149 E _ _) dX13_commands_7 ?_
  refine g_iconst X (v := (1 : Int32)) dX13_commands_10 (by decide) ?_
  refine g_istore_n X (i0 := 1) (lv' := [(1, .int (1 : Int32)), (0, .ref (E.1 84))]) dX13_commands_11 rfl (by decide) rfl ?_
  refine g_aload_n X 1 (i0 := 0) dX13_commands_12 rfl rfl ?_
  obtain ⟨D2, e1, h⟩ := cV_s h
  refine g_V X (As := []) (rest := []) (c_X13_command l G E  _ _ e1) 84 (wg_84 E _) rfl rfl kv_X13_240 ⟨rfl, rfl⟩ ⟨rfl, hd_X13_command⟩ (⟨Nat.le_of_ble_eq_true rfl, Nat.le_of_ble_eq_true rfl⟩) rfl rfl (Nat.le_of_ble_eq_true rfl) dX13_commands_13 ?_
  refine g_sub (lv' := [(0, .ref (E.1 84)), (1, .int (1 : Int32))]) [1, 0] rfl ?_
  exact h1 _ (Option.some.inj h).symm
set_option maxRecDepth 100000 in
set_option maxHeartbeats 4000000 in
theorem bl_X13_commands_1 {p : Program} {l : Launch} {e : Env} {s : State} {m : MethodId} {args : Array Value} {below : List Frame} {meth : Method} {c : Code} {G : va_G} {E : EE} {r : RT} (X : CX p s m args meth c cX13_commands RX13 2 G E) (hr : meth.sig.returnType = (some .int)) (x1 : Int32) (D : DD) (o : (Nat × List Int32 × DD) ⊕ RT) (h : b_X13_commands_1 x1 D = some o) (h1 : ∀ x, o = .inl x → hg_X13_commands p l e s m args below meth c G E r x.1 x.2.1 x.2.2) (h2 : ∀ x, o = .inr x → x = r) : GW p l e (rmm 6) s m args below meth c G E 2 (MQ below (QR G E s.heap.size r) args s 0 0 (fr E s.heap.size)) 0 0 D 16 [(0, .ref (E.1 84)), (1, .int x1)] [] := by
  unfold b_X13_commands_1 at h
  refine g_aload_n X 0 (i0 := 0) dX13_commands_16 rfl rfl ?_
  refine g_get X (D := D) (v := .int (D.1 149)) (T := TX13) 84 uX13 (wg_84 E _) rfl 23 (by decide) fl_X13_217 rfl rfl dX13_commands_17 ?_
  refine g_if_ne X (tgt := 64) dX13_commands_20 (by decide) (fun c10 => ?_) (fun c10 => ?_)
  · have h := (ite_s h).2 c10
    refine g_iload_n X 1 (i0 := 1) dX13_commands_64 rfl rfl ?_
    exact g_iret X hr rfl dX13_commands_65 (h2 _ (Option.some.inj h).symm)
  · have h := (ite_s h).1 c10
    refine g_aload_n X 0 (i0 := 0) dX13_commands_23 rfl rfl ?_
    refine g_get X (D := D) (v := .int (D.1 140)) (T := TX13) 84 uX13 (wg_84 E _) rfl 0 (by decide) fl_X13_59 rfl rfl dX13_commands_24 ?_
    refine g_if_ne X (tgt := 64) dX13_commands_27 (by decide) (fun c9 => ?_) (fun c9 => ?_)
    · have h := (ite_s h).2 c9
      refine g_iload_n X 1 (i0 := 1) dX13_commands_64 rfl rfl ?_
      exact g_iret X hr rfl dX13_commands_65 (h2 _ (Option.some.inj h).symm)
    · have h := (ite_s h).1 c9
      refine g_aload_n X 0 (i0 := 0) dX13_commands_30 rfl rfl ?_
      refine g_get X (D := D) (v := .int (D.1 146)) (T := TX13) 84 uX13 (wg_84 E _) rfl 20 (by decide) fl_X13_211 rfl rfl dX13_commands_31 ?_
      refine g_aload_n X 0 (i0 := 0) dX13_commands_34 rfl rfl ?_
      refine g_get X (D := D) (v := .int (D.1 147)) (T := TX13) 84 uX13 (wg_84 E _) rfl 21 (by decide) fl_X13_214 rfl rfl dX13_commands_35 ?_
      refine g_icmp_ge X (tgt := 64) dX13_commands_38 (by decide) (fun c8 => ?_) (fun c8 => ?_)
      · have h := (ite_s h).1 c8
        refine g_iload_n X 1 (i0 := 1) dX13_commands_64 rfl rfl ?_
        exact g_iret X hr rfl dX13_commands_65 (h2 _ (Option.some.inj h).symm)
      · have h := (ite_s h).2 c8
        refine g_aload_n X 0 (i0 := 0) dX13_commands_41 rfl rfl ?_
        refine g_bipush X (v := (59 : Int32)) dX13_commands_42 (by decide) ?_
        obtain ⟨D4, e3, h⟩ := cV_s h
        refine g_V X (As := [.int (59 : Int32)]) (rest := []) (c_X13_expects l G E (59 : Int32) _ _ e3) 84 (wg_84 E _) rfl rfl kv_X13_224 ⟨rfl, rfl⟩ ⟨rfl, hd_X13_expects⟩ (⟨Nat.le_of_ble_eq_true rfl, Nat.le_of_ble_eq_true rfl⟩) rfl rfl (Nat.le_of_ble_eq_true rfl) dX13_commands_44 ?_
        refine g_aload_n X 0 (i0 := 0) dX13_commands_47 rfl rfl ?_
        refine g_get X (D := D4) (v := .int (D4.1 149)) (T := TX13) 84 uX13 (wg_84 E _) rfl 23 (by decide) fl_X13_217 rfl rfl dX13_commands_48 ?_
        refine g_if_ne X (tgt := 58) dX13_commands_51 (by decide) (fun c7 => ?_) (fun c7 => ?_)
        · have h := (ite_s h).2 c7
          refine g_iinc X 1 (v := (x1 + (1 : Int32))) (lv' := [(1, .int (x1 + (1 : Int32))), (0, .ref (E.1 84))]) dX13_commands_58 rfl rfl (by decide) rfl ?_
          refine g_goto X (tgt := 16) dX13_commands_61 (by decide) ?_
          refine g_sub (lv' := [(0, .ref (E.1 84)), (1, .int (x1 + (1 : Int32)))]) [1, 0] rfl ?_
          exact h1 _ (Option.some.inj h).symm
        · have h := (ite_s h).1 c7
          refine g_aload_n X 0 (i0 := 0) dX13_commands_54 rfl rfl ?_
          obtain ⟨D6, e5, h⟩ := cV_s h
          refine g_V X (As := []) (rest := []) (c_X13_command l G E  _ _ e5) 84 (wg_84 E _) rfl rfl kv_X13_240 ⟨rfl, rfl⟩ ⟨rfl, hd_X13_command⟩ (⟨Nat.le_of_ble_eq_true rfl, Nat.le_of_ble_eq_true rfl⟩) rfl rfl (Nat.le_of_ble_eq_true rfl) dX13_commands_55 ?_
          refine g_iinc X 1 (v := (x1 + (1 : Int32))) (lv' := [(1, .int (x1 + (1 : Int32))), (0, .ref (E.1 84))]) dX13_commands_58 rfl rfl (by decide) rfl ?_
          refine g_goto X (tgt := 16) dX13_commands_61 (by decide) ?_
          refine g_sub (lv' := [(0, .ref (E.1 84)), (1, .int (x1 + (1 : Int32)))]) [1, 0] rfl ?_
          exact h1 _ (Option.some.inj h).symm
set_option maxRecDepth 100000 in
set_option maxHeartbeats 4000000 in
theorem c_X13_commands (l : Launch) (G : va_G) (E : EE)  (D : DD) (r : RT) (h : S_X13_commands  D = some r) : MM l G E yX13_commands cX13_commands 2 (some .int) (rmm 6) [.ref (E.1 84)] D r := by
  unfold S_X13_commands at h
  refine m_of rfl (Nat.le_of_ble_eq_true rfl) ?_
  intro p e s m args below meth c X hr
  exact run_G (T := T_X13_commands) (HG := hg_X13_commands p l e s m args below meth c G E r) (by
    intro k ls D o hT h1 h2
    unfold T_X13_commands at hT
    split at hT
    · exact bl_X13_commands_0 X hr  D o hT h1 h2
    · exact bl_X13_commands_1 X hr _ D o hT h1 h2
    · cases hT) FUEL 0 [] D h
theorem fl_X13_13 : Cond.fieldLink RX13 13 "StoneQuarryModel" "failedAt" "I" ∈ UT := ut 1353 (by decide +kernel) (by decide +kernel)
theorem fl_X13_7 : Cond.fieldLink RX13 7 "StoneQuarryModel" "errorAt" "I" ∈ UT := ut 1352 (by decide +kernel) (by decide +kernel)
theorem hd_X13_commands : yX13_commands.cls ≠ "java/lang/invoke/MethodHandle" ∧ yX13_commands.cls ≠ "java/lang/invoke/VarHandle" ∧ (parseMethodDescriptor yX13_commands.desc).map (fun d => d.parameters.length) = some 0 := by decide +kernel
theorem wc_X13_commands : Cond.code yX13_commands cX13_commands 2 (some .int) ∈ UT := ut 1750 (by decide +kernel) (by decide +kernel)
theorem we_X13_commands : Cond.selects RX13 yX13_commands yX13_commands ∈ UT := ut 67 (by decide +kernel) (by decide +kernel)
theorem wm_X13_commands : Cond.instanceMethod yX13_commands ∈ UT := ut 1749 (by decide +kernel) (by decide +kernel)
theorem kv_X13_243 : GoodIn UT (wsV RX13 243 RX13 yX13_commands (Cond.code yX13_commands cX13_commands 2 (some .int) :: UT)) := gu_V (ut 1747 (by decide +kernel) (by decide +kernel)) wm_X13_commands we_X13_commands wi_RX13 wc_X13_commands
theorem ws_I_142 (E : EE) (D : DD) (v : Int32) : (wd E D).set 84 (E.1 84, .inr (13, [.int (D.1 140), .int (D.1 141), .int v, .int (D.1 143), .int (D.1 144), .ref (E.1 85), .ref (E.1 86), .ref (E.1 87), .ref (E.1 88), .ref (E.1 89), .ref (E.1 90), .ref (E.1 91), .ref (E.1 92), .ref (E.1 93), .ref (E.1 94), .ref (E.1 95), .ref (E.1 96), .ref (E.1 97), .ref (E.1 98), .int (D.1 145), .int (D.1 146), .int (D.1 147), .int (D.1 148), .int (D.1 149), .int (D.1 150)])) = wd E (setI D 142 v) := rfl
theorem ws_I_143 (E : EE) (D : DD) (v : Int32) : (wd E D).set 84 (E.1 84, .inr (13, [.int (D.1 140), .int (D.1 141), .int (D.1 142), .int v, .int (D.1 144), .ref (E.1 85), .ref (E.1 86), .ref (E.1 87), .ref (E.1 88), .ref (E.1 89), .ref (E.1 90), .ref (E.1 91), .ref (E.1 92), .ref (E.1 93), .ref (E.1 94), .ref (E.1 95), .ref (E.1 96), .ref (E.1 97), .ref (E.1 98), .int (D.1 145), .int (D.1 146), .int (D.1 147), .int (D.1 148), .int (D.1 149), .int (D.1 150)])) = wd E (setI D 143 v) := rfl
theorem ws_I_147 (E : EE) (D : DD) (v : Int32) : (wd E D).set 84 (E.1 84, .inr (13, [.int (D.1 140), .int (D.1 141), .int (D.1 142), .int (D.1 143), .int (D.1 144), .ref (E.1 85), .ref (E.1 86), .ref (E.1 87), .ref (E.1 88), .ref (E.1 89), .ref (E.1 90), .ref (E.1 91), .ref (E.1 92), .ref (E.1 93), .ref (E.1 94), .ref (E.1 95), .ref (E.1 96), .ref (E.1 97), .ref (E.1 98), .int (D.1 145), .int (D.1 146), .int v, .int (D.1 148), .int (D.1 149), .int (D.1 150)])) = wd E (setI D 147 v) := rfl
theorem ws_I_150 (E : EE) (D : DD) (v : Int32) : (wd E D).set 84 (E.1 84, .inr (13, [.int (D.1 140), .int (D.1 141), .int (D.1 142), .int (D.1 143), .int (D.1 144), .ref (E.1 85), .ref (E.1 86), .ref (E.1 87), .ref (E.1 88), .ref (E.1 89), .ref (E.1 90), .ref (E.1 91), .ref (E.1 92), .ref (E.1 93), .ref (E.1 94), .ref (E.1 95), .ref (E.1 96), .ref (E.1 97), .ref (E.1 98), .int (D.1 145), .int (D.1 146), .int (D.1 147), .int (D.1 148), .int (D.1 149), .int v])) = wd E (setI D 150 v) := rfl
def S_X13_execute  (D : DD) : Option RT := (cV (S_X13_begins D) (fun D2 => (cI (S_X13_commands (setI (setI (setI D2 147 (D2.1 145)) 145 (0 : Int32)) 150 (0 : Int32))) (fun r5 D4 => (if (D4.1 149) = 0 then (cI (S_X13_commands (setI D4 150 (1 : Int32))) (fun r8 D7 => (if (D7.1 140) = 0 then (cI (S_X13_ends r8 D7) (fun r11 D10 => some (0, some (.int r11), D10))) else (cI (S_X13_ends r8 (setI (setI D7 143 (r8 - (1 : Int32))) 140 (2 : Int32))) (fun r14 D13 => some (0, some (.int r14), D13)))))) else (cI (S_X13_fail (1 : Int32) (setI D4 142 (D4.1 146))) (fun r18 D17 => some (0, some (.int r18), D17))))))))
set_option maxRecDepth 100000 in
set_option maxHeartbeats 4000000 in
theorem c_X13_execute (l : Launch) (G : va_G) (E : EE)  (D : DD) (r : RT) (h : S_X13_execute  D = some r) : MM l G E yX13_execute cX13_execute 2 (some .int) (rmm 7) [.ref (E.1 84)] D r := by
  refine m_of rfl (Nat.le_of_ble_eq_true rfl) ?_
  intro p e s m args below meth c X hr
  unfold S_X13_execute at h
  refine g_aload_n X 0 (i0 := 0) dX13_execute_0 rfl rfl ?_
  obtain ⟨D2, e1, h⟩ := cV_s h
  refine g_V X (As := []) (rest := []) (c_X13_begins l G E  _ _ e1) 84 (wg_84 E _) rfl rfl kv_X13_91 ⟨rfl, rfl⟩ ⟨rfl, hd_X13_begins⟩ (⟨Nat.le_of_ble_eq_true rfl, Nat.le_of_ble_eq_true rfl⟩) rfl rfl (Nat.le_of_ble_eq_true rfl) dX13_execute_1 ?_
  refine g_aload_n X 0 (i0 := 0) dX13_execute_4 rfl rfl ?_
  refine g_aload_n X 0 (i0 := 0) dX13_execute_5 rfl rfl ?_
  refine g_get X (D := D2) (v := .int (D2.1 145)) (T := TX13) 84 uX13 (wg_84 E _) rfl 19 (by decide) fl_X13_208 rfl rfl dX13_execute_6 ?_
  refine g_put X (D := D2) (v := .int (D2.1 145)) (T := TX13) (D' := (setI D2 147 (D2.1 145))) 84 uX13 tyX13 tyX13_ok nmX13 (wg_84 E _) rfl 21 (by decide) fl_X13_214 rfl rfl rfl rfl (Nat.le_of_ble_eq_true rfl) (ws_I_147 E _ _) dX13_execute_9 ?_
  refine g_aload_n X 0 (i0 := 0) dX13_execute_12 rfl rfl ?_
  refine g_iconst X (v := (0 : Int32)) dX13_execute_13 (by decide) ?_
  refine g_put X (D := (setI D2 147 (D2.1 145))) (v := .int (0 : Int32)) (T := TX13) (D' := (setI (setI D2 147 (D2.1 145)) 145 (0 : Int32))) 84 uX13 tyX13 tyX13_ok nmX13 (wg_84 E _) rfl 19 (by decide) fl_X13_208 rfl rfl rfl rfl (Nat.le_of_ble_eq_true rfl) (ws_I_145 E _ _) dX13_execute_14 ?_
  refine g_aload_n X 0 (i0 := 0) dX13_execute_17 rfl rfl ?_
  refine g_iconst X (v := (0 : Int32)) dX13_execute_18 (by decide) ?_
  refine g_put X (D := (setI (setI D2 147 (D2.1 145)) 145 (0 : Int32))) (v := .int (0 : Int32)) (T := TX13) (D' := (setI (setI (setI D2 147 (D2.1 145)) 145 (0 : Int32)) 150 (0 : Int32))) 84 uX13 tyX13 tyX13_ok nmX13 (wg_84 E _) rfl 24 (by decide) fl_X13_233 rfl rfl rfl rfl (Nat.le_of_ble_eq_true rfl) (ws_I_150 E _ _) dX13_execute_19 ?_
  refine g_aload_n X 0 (i0 := 0) dX13_execute_22 rfl rfl ?_
  obtain ⟨r5, D4, e3, h⟩ := cI_s h
  refine g_V X (As := []) (rest := []) (c_X13_commands l G E  _ _ e3) 84 (wg_84 E _) rfl rfl kv_X13_243 ⟨rfl, rfl⟩ ⟨rfl, hd_X13_commands⟩ (⟨Nat.le_of_ble_eq_true rfl, Nat.le_of_ble_eq_true rfl⟩) rfl rfl (Nat.le_of_ble_eq_true rfl) dX13_execute_23 ?_
  refine g_istore_n X (i0 := 1) (lv' := [(1, .int r5), (0, .ref (E.1 84))]) dX13_execute_26 rfl (by decide) rfl ?_
  refine g_aload_n X 1 (i0 := 0) dX13_execute_27 rfl rfl ?_
  refine g_get X (D := D4) (v := .int (D4.1 149)) (T := TX13) 84 uX13 (wg_84 E _) rfl 23 (by decide) fl_X13_217 rfl rfl dX13_execute_28 ?_
  refine g_if_eq X (tgt := 48) dX13_execute_31 (by decide) (fun c19 => ?_) (fun c19 => ?_)
  · have h := (ite_s h).1 c19
    refine g_aload_n X 1 (i0 := 0) dX13_execute_48 rfl rfl ?_
    refine g_iconst X (v := (1 : Int32)) dX13_execute_49 (by decide) ?_
    refine g_put X (D := D4) (v := .int (1 : Int32)) (T := TX13) (D' := (setI D4 150 (1 : Int32))) 84 uX13 tyX13 tyX13_ok nmX13 (wg_84 E _) rfl 24 (by decide) fl_X13_233 rfl rfl rfl rfl (Nat.le_of_ble_eq_true rfl) (ws_I_150 E _ _) dX13_execute_50 ?_
    refine g_aload_n X 1 (i0 := 0) dX13_execute_53 rfl rfl ?_
    obtain ⟨r8, D7, e6, h⟩ := cI_s h
    refine g_V X (As := []) (rest := []) (c_X13_commands l G E  _ _ e6) 84 (wg_84 E _) rfl rfl kv_X13_243 ⟨rfl, rfl⟩ ⟨rfl, hd_X13_commands⟩ (⟨Nat.le_of_ble_eq_true rfl, Nat.le_of_ble_eq_true rfl⟩) rfl rfl (Nat.le_of_ble_eq_true rfl) dX13_execute_54 ?_
    refine g_istore_n X (i0 := 1) (lv' := [(1, .int r8), (0, .ref (E.1 84))]) dX13_execute_57 rfl (by decide) rfl ?_
    refine g_aload_n X 1 (i0 := 0) dX13_execute_58 rfl rfl ?_
    refine g_get X (D := D7) (v := .int (D7.1 140)) (T := TX13) 84 uX13 (wg_84 E _) rfl 0 (by decide) fl_X13_59 rfl rfl dX13_execute_59 ?_
    refine g_if_eq X (tgt := 77) dX13_execute_62 (by decide) (fun c15 => ?_) (fun c15 => ?_)
    · have h := (ite_s h).1 c15
      refine g_aload_n X 1 (i0 := 0) dX13_execute_77 rfl rfl ?_
      refine g_iload_n X 0 (i0 := 1) dX13_execute_78 rfl rfl ?_
      obtain ⟨r11, D10, e9, h⟩ := cI_s h
      refine g_V X (As := [.int r8]) (rest := []) (c_X13_ends l G E r8 _ _ e9) 84 (wg_84 E _) rfl rfl kv_X13_98 ⟨rfl, rfl⟩ ⟨rfl, hd_X13_ends⟩ (⟨Nat.le_of_ble_eq_true rfl, Nat.le_of_ble_eq_true rfl⟩) rfl rfl (Nat.le_of_ble_eq_true rfl) dX13_execute_79 ?_
      exact g_iret X hr rfl dX13_execute_82 (Option.some.inj h)
    · have h := (ite_s h).2 c15
      refine g_aload_n X 1 (i0 := 0) dX13_execute_65 rfl rfl ?_
      refine g_iload_n X 0 (i0 := 1) dX13_execute_66 rfl rfl ?_
      refine g_iconst X (v := (1 : Int32)) dX13_execute_67 (by decide) ?_
      refine g_isub X dX13_execute_68 ?_
      refine g_put X (D := D7) (v := .int (r8 - (1 : Int32))) (T := TX13) (D' := (setI D7 143 (r8 - (1 : Int32)))) 84 uX13 tyX13 tyX13_ok nmX13 (wg_84 E _) rfl 3 (by decide) fl_X13_13 rfl rfl rfl rfl (Nat.le_of_ble_eq_true rfl) (ws_I_143 E _ _) dX13_execute_69 ?_
      refine g_aload_n X 1 (i0 := 0) dX13_execute_72 rfl rfl ?_
      refine g_iconst X (v := (2 : Int32)) dX13_execute_73 (by decide) ?_
      refine g_put X (D := (setI D7 143 (r8 - (1 : Int32)))) (v := .int (2 : Int32)) (T := TX13) (D' := (setI (setI D7 143 (r8 - (1 : Int32))) 140 (2 : Int32))) 84 uX13 tyX13 tyX13_ok nmX13 (wg_84 E _) rfl 0 (by decide) fl_X13_59 rfl rfl rfl rfl (Nat.le_of_ble_eq_true rfl) (ws_I_140 E _ _) dX13_execute_74 ?_
      refine g_aload_n X 1 (i0 := 0) dX13_execute_77 rfl rfl ?_
      refine g_iload_n X 0 (i0 := 1) dX13_execute_78 rfl rfl ?_
      obtain ⟨r14, D13, e12, h⟩ := cI_s h
      refine g_V X (As := [.int r8]) (rest := []) (c_X13_ends l G E r8 _ _ e12) 84 (wg_84 E _) rfl rfl kv_X13_98 ⟨rfl, rfl⟩ ⟨rfl, hd_X13_ends⟩ (⟨Nat.le_of_ble_eq_true rfl, Nat.le_of_ble_eq_true rfl⟩) rfl rfl (Nat.le_of_ble_eq_true rfl) dX13_execute_79 ?_
      exact g_iret X hr rfl dX13_execute_82 (Option.some.inj h)
  · have h := (ite_s h).2 c19
    refine g_aload_n X 1 (i0 := 0) dX13_execute_34 rfl rfl ?_
    refine g_aload_n X 1 (i0 := 0) dX13_execute_35 rfl rfl ?_
    refine g_get X (D := D4) (v := .int (D4.1 146)) (T := TX13) 84 uX13 (wg_84 E _) rfl 20 (by decide) fl_X13_211 rfl rfl dX13_execute_36 ?_
    refine g_put X (D := D4) (v := .int (D4.1 146)) (T := TX13) (D' := (setI D4 142 (D4.1 146))) 84 uX13 tyX13 tyX13_ok nmX13 (wg_84 E _) rfl 2 (by decide) fl_X13_7 rfl rfl rfl rfl (Nat.le_of_ble_eq_true rfl) (ws_I_142 E _ _) dX13_execute_39 ?_
    refine g_aload_n X 1 (i0 := 0) dX13_execute_42 rfl rfl ?_
    refine g_iconst X (v := (1 : Int32)) dX13_execute_43 (by decide) ?_
    obtain ⟨r18, D17, e16, h⟩ := cI_s h
    refine g_V X (As := [.int (1 : Int32)]) (rest := []) (c_X13_fail l G E (1 : Int32) _ _ e16) 84 (wg_84 E _) rfl rfl kv_X13_81 ⟨rfl, rfl⟩ ⟨rfl, hd_X13_fail⟩ (⟨Nat.le_of_ble_eq_true rfl, Nat.le_of_ble_eq_true rfl⟩) rfl rfl (Nat.le_of_ble_eq_true rfl) dX13_execute_44 ?_
    exact g_iret X hr rfl dX13_execute_47 (Option.some.inj h)
def S_X13_errorPosition  (D : DD) : Option RT := (if 0 ≤ (D.1 142) then (if (0 : Int32) = 0 then some (0, some (.int (D.1 142)), (setI D 140 (0 : Int32))) else some (0, some (.int (0 : Int32)), (setI D 140 (0 : Int32)))) else (if (1 : Int32) = 0 then some (0, some (.int (D.1 142)), (setI D 140 (1 : Int32))) else some (0, some (.int (0 : Int32)), (setI D 140 (1 : Int32)))))
set_option maxRecDepth 100000 in
set_option maxHeartbeats 4000000 in
theorem c_X13_errorPosition (l : Launch) (G : va_G) (E : EE)  (D : DD) (r : RT) (h : S_X13_errorPosition  D = some r) : MM l G E yX13_errorPosition cX13_errorPosition 1 (some .int) (rmm 0) [.ref (E.1 84)] D r := by
  refine m_of rfl (Nat.le_of_ble_eq_true rfl) ?_
  intro p e s m args below meth c X hr
  unfold S_X13_errorPosition at h
  refine g_aload_n X 0 (i0 := 0) dX13_errorPosition_0 rfl rfl ?_
  refine g_aload_n X 0 (i0 := 0) dX13_errorPosition_1 rfl rfl ?_
  refine g_get X (D := D) (v := .int (D.1 142)) (T := TX13) 84 uX13 (wg_84 E _) rfl 2 (by decide) fl_X13_7 rfl rfl dX13_errorPosition_2 ?_
  refine g_if_ge X (tgt := 12) dX13_errorPosition_5 (by decide) (fun c3 => ?_) (fun c3 => ?_)
  · have h := (ite_s h).1 c3
    refine g_iconst X (v := (0 : Int32)) dX13_errorPosition_12 (by decide) ?_
    refine g_put X (D := D) (v := .int (0 : Int32)) (T := TX13) (D' := (setI D 140 (0 : Int32))) 84 uX13 tyX13 tyX13_ok nmX13 (wg_84 E _) rfl 0 (by decide) fl_X13_59 rfl rfl rfl rfl (Nat.le_of_ble_eq_true rfl) (ws_I_140 E _ _) dX13_errorPosition_13 ?_
    refine g_aload_n X 0 (i0 := 0) dX13_errorPosition_16 rfl rfl ?_
    refine g_get X (D := (setI D 140 (0 : Int32))) (v := .int (0 : Int32)) (T := TX13) 84 uX13 (wg_84 E _) rfl 0 (by decide) fl_X13_59 rfl rfl dX13_errorPosition_17 ?_
    refine g_if_ne X (tgt := 30) dX13_errorPosition_20 (by decide) (fun c1 => ?_) (fun c1 => ?_)
    · have h := (ite_s h).2 c1
      refine g_iconst X (v := (0 : Int32)) dX13_errorPosition_30 (by decide) ?_
      exact g_iret X hr rfl dX13_errorPosition_31 (Option.some.inj h)
    · have h := (ite_s h).1 c1
      refine g_aload_n X 0 (i0 := 0) dX13_errorPosition_23 rfl rfl ?_
      refine g_get X (D := (setI D 140 (0 : Int32))) (v := .int (D.1 142)) (T := TX13) 84 uX13 (wg_84 E _) rfl 2 (by decide) fl_X13_7 rfl rfl dX13_errorPosition_24 ?_
      refine g_goto X (tgt := 31) dX13_errorPosition_27 (by decide) ?_
      exact g_iret X hr rfl dX13_errorPosition_31 (Option.some.inj h)
  · have h := (ite_s h).2 c3
    refine g_iconst X (v := (1 : Int32)) dX13_errorPosition_8 (by decide) ?_
    refine g_goto X (tgt := 13) dX13_errorPosition_9 (by decide) ?_
    refine g_put X (D := D) (v := .int (1 : Int32)) (T := TX13) (D' := (setI D 140 (1 : Int32))) 84 uX13 tyX13 tyX13_ok nmX13 (wg_84 E _) rfl 0 (by decide) fl_X13_59 rfl rfl rfl rfl (Nat.le_of_ble_eq_true rfl) (ws_I_140 E _ _) dX13_errorPosition_13 ?_
    refine g_aload_n X 0 (i0 := 0) dX13_errorPosition_16 rfl rfl ?_
    refine g_get X (D := (setI D 140 (1 : Int32))) (v := .int (1 : Int32)) (T := TX13) 84 uX13 (wg_84 E _) rfl 0 (by decide) fl_X13_59 rfl rfl dX13_errorPosition_17 ?_
    refine g_if_ne X (tgt := 30) dX13_errorPosition_20 (by decide) (fun c2 => ?_) (fun c2 => ?_)
    · have h := (ite_s h).2 c2
      refine g_iconst X (v := (0 : Int32)) dX13_errorPosition_30 (by decide) ?_
      exact g_iret X hr rfl dX13_errorPosition_31 (Option.some.inj h)
    · have h := (ite_s h).1 c2
      refine g_aload_n X 0 (i0 := 0) dX13_errorPosition_23 rfl rfl ?_
      refine g_get X (D := (setI D 140 (1 : Int32))) (v := .int (D.1 142)) (T := TX13) 84 uX13 (wg_84 E _) rfl 2 (by decide) fl_X13_7 rfl rfl dX13_errorPosition_24 ?_
      refine g_goto X (tgt := 31) dX13_errorPosition_27 (by decide) ?_
      exact g_iret X hr rfl dX13_errorPosition_31 (Option.some.inj h)
def S_X13_failedCommand  (D : DD) : Option RT := (if 0 ≤ (D.1 143) then (if (0 : Int32) = 0 then some (0, some (.int (D.1 143)), (setI D 140 (0 : Int32))) else some (0, some (.int (0 : Int32)), (setI D 140 (0 : Int32)))) else (if (1 : Int32) = 0 then some (0, some (.int (D.1 143)), (setI D 140 (1 : Int32))) else some (0, some (.int (0 : Int32)), (setI D 140 (1 : Int32)))))
set_option maxRecDepth 100000 in
set_option maxHeartbeats 4000000 in
theorem c_X13_failedCommand (l : Launch) (G : va_G) (E : EE)  (D : DD) (r : RT) (h : S_X13_failedCommand  D = some r) : MM l G E yX13_failedCommand cX13_failedCommand 1 (some .int) (rmm 0) [.ref (E.1 84)] D r := by
  refine m_of rfl (Nat.le_of_ble_eq_true rfl) ?_
  intro p e s m args below meth c X hr
  unfold S_X13_failedCommand at h
  refine g_aload_n X 0 (i0 := 0) dX13_failedCommand_0 rfl rfl ?_
  refine g_aload_n X 0 (i0 := 0) dX13_failedCommand_1 rfl rfl ?_
  refine g_get X (D := D) (v := .int (D.1 143)) (T := TX13) 84 uX13 (wg_84 E _) rfl 3 (by decide) fl_X13_13 rfl rfl dX13_failedCommand_2 ?_
  refine g_if_ge X (tgt := 12) dX13_failedCommand_5 (by decide) (fun c3 => ?_) (fun c3 => ?_)
  · have h := (ite_s h).1 c3
    refine g_iconst X (v := (0 : Int32)) dX13_failedCommand_12 (by decide) ?_
    refine g_put X (D := D) (v := .int (0 : Int32)) (T := TX13) (D' := (setI D 140 (0 : Int32))) 84 uX13 tyX13 tyX13_ok nmX13 (wg_84 E _) rfl 0 (by decide) fl_X13_59 rfl rfl rfl rfl (Nat.le_of_ble_eq_true rfl) (ws_I_140 E _ _) dX13_failedCommand_13 ?_
    refine g_aload_n X 0 (i0 := 0) dX13_failedCommand_16 rfl rfl ?_
    refine g_get X (D := (setI D 140 (0 : Int32))) (v := .int (0 : Int32)) (T := TX13) 84 uX13 (wg_84 E _) rfl 0 (by decide) fl_X13_59 rfl rfl dX13_failedCommand_17 ?_
    refine g_if_ne X (tgt := 30) dX13_failedCommand_20 (by decide) (fun c1 => ?_) (fun c1 => ?_)
    · have h := (ite_s h).2 c1
      refine g_iconst X (v := (0 : Int32)) dX13_failedCommand_30 (by decide) ?_
      exact g_iret X hr rfl dX13_failedCommand_31 (Option.some.inj h)
    · have h := (ite_s h).1 c1
      refine g_aload_n X 0 (i0 := 0) dX13_failedCommand_23 rfl rfl ?_
      refine g_get X (D := (setI D 140 (0 : Int32))) (v := .int (D.1 143)) (T := TX13) 84 uX13 (wg_84 E _) rfl 3 (by decide) fl_X13_13 rfl rfl dX13_failedCommand_24 ?_
      refine g_goto X (tgt := 31) dX13_failedCommand_27 (by decide) ?_
      exact g_iret X hr rfl dX13_failedCommand_31 (Option.some.inj h)
  · have h := (ite_s h).2 c3
    refine g_iconst X (v := (1 : Int32)) dX13_failedCommand_8 (by decide) ?_
    refine g_goto X (tgt := 13) dX13_failedCommand_9 (by decide) ?_
    refine g_put X (D := D) (v := .int (1 : Int32)) (T := TX13) (D' := (setI D 140 (1 : Int32))) 84 uX13 tyX13 tyX13_ok nmX13 (wg_84 E _) rfl 0 (by decide) fl_X13_59 rfl rfl rfl rfl (Nat.le_of_ble_eq_true rfl) (ws_I_140 E _ _) dX13_failedCommand_13 ?_
    refine g_aload_n X 0 (i0 := 0) dX13_failedCommand_16 rfl rfl ?_
    refine g_get X (D := (setI D 140 (1 : Int32))) (v := .int (1 : Int32)) (T := TX13) 84 uX13 (wg_84 E _) rfl 0 (by decide) fl_X13_59 rfl rfl dX13_failedCommand_17 ?_
    refine g_if_ne X (tgt := 30) dX13_failedCommand_20 (by decide) (fun c2 => ?_) (fun c2 => ?_)
    · have h := (ite_s h).2 c2
      refine g_iconst X (v := (0 : Int32)) dX13_failedCommand_30 (by decide) ?_
      exact g_iret X hr rfl dX13_failedCommand_31 (Option.some.inj h)
    · have h := (ite_s h).1 c2
      refine g_aload_n X 0 (i0 := 0) dX13_failedCommand_23 rfl rfl ?_
      refine g_get X (D := (setI D 140 (1 : Int32))) (v := .int (D.1 143)) (T := TX13) 84 uX13 (wg_84 E _) rfl 3 (by decide) fl_X13_13 rfl rfl dX13_failedCommand_24 ?_
      refine g_goto X (tgt := 31) dX13_failedCommand_27 (by decide) ?_
      exact g_iret X hr rfl dX13_failedCommand_31 (Option.some.inj h)
def b_X13_undo_0  (D : DD) : Option ((Nat × List Int32 × DD) ⊕ RT) := (if (D.1 141) = 0 then (if (1 : Int32) = 0 then some (.inl (1, [(0 : Int32)], (setI (setI D 140 (1 : Int32)) 141 ((D.1 141) - (1 : Int32))))) else some (.inr (0, some (.int (0 : Int32)), (setI D 140 (1 : Int32))))) else (if (0 : Int32) = 0 then some (.inl (1, [(0 : Int32)], (setI (setI D 140 (0 : Int32)) 141 ((D.1 141) - (1 : Int32))))) else some (.inr (0, some (.int (0 : Int32)), (setI D 140 (0 : Int32))))))
def b_X13_undo_1 (x1 : Int32) (D : DD) : Option ((Nat × List Int32 × DD) ⊕ RT) := (if (62 : Int32) ≤ x1 then some (.inr (0, some (.int (D.1 141)), D)) else (if inB (((D.1 141) * (62 : Int32)) + x1) 496 = true then (if inB x1 62 = true then some (.inl (1, [(x1 + (1 : Int32))], (setA D 70 (upd (D.2.2.1 70) x1.toNatClampNeg ((D.2.2.1 73) (((D.1 141) * (62 : Int32)) + x1).toNatClampNeg))))) else none) else none))
def T_X13_undo (k : Nat) (ls : List Int32) (D : DD) : Option ((Nat × List Int32 × DD) ⊕ RT) := match k, ls with
  | 0, [] => b_X13_undo_0  D
  | 1, [x1] => b_X13_undo_1 x1 D
  | _, _ => none
def S_X13_undo  (D : DD) : Option RT := run T_X13_undo FUEL 0 [] D
def hg_X13_undo (p : Program) (l : Launch) (e : Env) (s : State) (m : MethodId) (args : Array Value) (below : List Frame) (meth : Method) (c : Code) (G : va_G) (E : EE) (r : RT) (k : Nat) (ls : List Int32) (D : DD) : Prop := match k, ls with
  | 0, [] => GW p l e (rmm 0) s m args below meth c G E 2 (MQ below (QR G E s.heap.size r) args s 0 0 (fr E s.heap.size)) 0 0 D 0 [(0, .ref (E.1 84))] []
  | 1, [x1] => GW p l e (rmm 0) s m args below meth c G E 2 (MQ below (QR G E s.heap.size r) args s 0 0 (fr E s.heap.size)) 0 0 D 37 [(0, .ref (E.1 84)), (1, .int x1)] []
  | _, _ => True
set_option maxRecDepth 100000 in
set_option maxHeartbeats 4000000 in
theorem bl_X13_undo_0 {p : Program} {l : Launch} {e : Env} {s : State} {m : MethodId} {args : Array Value} {below : List Frame} {meth : Method} {c : Code} {G : va_G} {E : EE} {r : RT} (X : CX p s m args meth c cX13_undo RX13 2 G E) (hr : meth.sig.returnType = (some .int))  (D : DD) (o : (Nat × List Int32 × DD) ⊕ RT) (h : b_X13_undo_0  D = some o) (h1 : ∀ x, o = .inl x → hg_X13_undo p l e s m args below meth c G E r x.1 x.2.1 x.2.2) (h2 : ∀ x, o = .inr x → x = r) : GW p l e (rmm 0) s m args below meth c G E 2 (MQ below (QR G E s.heap.size r) args s 0 0 (fr E s.heap.size)) 0 0 D 0 [(0, .ref (E.1 84))] [] := by
  unfold b_X13_undo_0 at h
  refine g_aload_n X 0 (i0 := 0) dX13_undo_0 rfl rfl ?_
  refine g_aload_n X 0 (i0 := 0) dX13_undo_1 rfl rfl ?_
  refine g_get X (D := D) (v := .int (D.1 141)) (T := TX13) 84 uX13 (wg_84 E _) rfl 1 (by decide) fl_X13_66 rfl rfl dX13_undo_2 ?_
  refine g_if_ne X (tgt := 12) dX13_undo_5 (by decide) (fun c3 => ?_) (fun c3 => ?_)
  · have h := (ite_s h).2 c3
    refine g_iconst X (v := (0 : Int32)) dX13_undo_12 (by decide) ?_
    refine g_put X (D := D) (v := .int (0 : Int32)) (T := TX13) (D' := (setI D 140 (0 : Int32))) 84 uX13 tyX13 tyX13_ok nmX13 (wg_84 E _) rfl 0 (by decide) fl_X13_59 rfl rfl rfl rfl (Nat.le_of_ble_eq_true rfl) (ws_I_140 E _ _) dX13_undo_13 ?_
    refine g_aload_n X 0 (i0 := 0) dX13_undo_16 rfl rfl ?_
    refine g_get X (D := (setI D 140 (0 : Int32))) (v := .int (0 : Int32)) (T := TX13) 84 uX13 (wg_84 E _) rfl 0 (by decide) fl_X13_59 rfl rfl dX13_undo_17 ?_
    refine g_if_eq X (tgt := 25) dX13_undo_20 (by decide) (fun c1 => ?_) (fun c1 => ?_)
    · have h := (ite_s h).1 c1
      refine g_aload_n X 0 (i0 := 0) dX13_undo_25 rfl rfl ?_
      refine g_dup X dX13_undo_26 rfl ?_
      refine g_get X (D := (setI D 140 (0 : Int32))) (v := .int (D.1 141)) (T := TX13) 84 uX13 (wg_84 E _) rfl 1 (by decide) fl_X13_66 rfl rfl dX13_undo_27 ?_
      refine g_iconst X (v := (1 : Int32)) dX13_undo_30 (by decide) ?_
      refine g_isub X dX13_undo_31 ?_
      refine g_put X (D := (setI D 140 (0 : Int32))) (v := .int ((D.1 141) - (1 : Int32))) (T := TX13) (D' := (setI (setI D 140 (0 : Int32)) 141 ((D.1 141) - (1 : Int32)))) 84 uX13 tyX13 tyX13_ok nmX13 (wg_84 E _) rfl 1 (by decide) fl_X13_66 rfl rfl rfl rfl (Nat.le_of_ble_eq_true rfl) (ws_I_141 E _ _) dX13_undo_32 ?_
      refine g_iconst X (v := (0 : Int32)) dX13_undo_35 (by decide) ?_
      refine g_istore_n X (i0 := 1) (lv' := [(1, .int (0 : Int32)), (0, .ref (E.1 84))]) dX13_undo_36 rfl (by decide) rfl ?_
      refine g_sub (lv' := [(0, .ref (E.1 84)), (1, .int (0 : Int32))]) [1, 0] rfl ?_
      exact h1 _ (Option.some.inj h).symm
    · have h := (ite_s h).2 c1
      refine g_iconst X (v := (0 : Int32)) dX13_undo_23 (by decide) ?_
      exact g_iret X hr rfl dX13_undo_24 (h2 _ (Option.some.inj h).symm)
  · have h := (ite_s h).1 c3
    refine g_iconst X (v := (1 : Int32)) dX13_undo_8 (by decide) ?_
    refine g_goto X (tgt := 13) dX13_undo_9 (by decide) ?_
    refine g_put X (D := D) (v := .int (1 : Int32)) (T := TX13) (D' := (setI D 140 (1 : Int32))) 84 uX13 tyX13 tyX13_ok nmX13 (wg_84 E _) rfl 0 (by decide) fl_X13_59 rfl rfl rfl rfl (Nat.le_of_ble_eq_true rfl) (ws_I_140 E _ _) dX13_undo_13 ?_
    refine g_aload_n X 0 (i0 := 0) dX13_undo_16 rfl rfl ?_
    refine g_get X (D := (setI D 140 (1 : Int32))) (v := .int (1 : Int32)) (T := TX13) 84 uX13 (wg_84 E _) rfl 0 (by decide) fl_X13_59 rfl rfl dX13_undo_17 ?_
    refine g_if_eq X (tgt := 25) dX13_undo_20 (by decide) (fun c2 => ?_) (fun c2 => ?_)
    · have h := (ite_s h).1 c2
      refine g_aload_n X 0 (i0 := 0) dX13_undo_25 rfl rfl ?_
      refine g_dup X dX13_undo_26 rfl ?_
      refine g_get X (D := (setI D 140 (1 : Int32))) (v := .int (D.1 141)) (T := TX13) 84 uX13 (wg_84 E _) rfl 1 (by decide) fl_X13_66 rfl rfl dX13_undo_27 ?_
      refine g_iconst X (v := (1 : Int32)) dX13_undo_30 (by decide) ?_
      refine g_isub X dX13_undo_31 ?_
      refine g_put X (D := (setI D 140 (1 : Int32))) (v := .int ((D.1 141) - (1 : Int32))) (T := TX13) (D' := (setI (setI D 140 (1 : Int32)) 141 ((D.1 141) - (1 : Int32)))) 84 uX13 tyX13 tyX13_ok nmX13 (wg_84 E _) rfl 1 (by decide) fl_X13_66 rfl rfl rfl rfl (Nat.le_of_ble_eq_true rfl) (ws_I_141 E _ _) dX13_undo_32 ?_
      refine g_iconst X (v := (0 : Int32)) dX13_undo_35 (by decide) ?_
      refine g_istore_n X (i0 := 1) (lv' := [(1, .int (0 : Int32)), (0, .ref (E.1 84))]) dX13_undo_36 rfl (by decide) rfl ?_
      refine g_sub (lv' := [(0, .ref (E.1 84)), (1, .int (0 : Int32))]) [1, 0] rfl ?_
      exact h1 _ (Option.some.inj h).symm
    · have h := (ite_s h).2 c2
      refine g_iconst X (v := (0 : Int32)) dX13_undo_23 (by decide) ?_
      exact g_iret X hr rfl dX13_undo_24 (h2 _ (Option.some.inj h).symm)
set_option maxRecDepth 100000 in
set_option maxHeartbeats 4000000 in
theorem bl_X13_undo_1 {p : Program} {l : Launch} {e : Env} {s : State} {m : MethodId} {args : Array Value} {below : List Frame} {meth : Method} {c : Code} {G : va_G} {E : EE} {r : RT} (X : CX p s m args meth c cX13_undo RX13 2 G E) (hr : meth.sig.returnType = (some .int)) (x1 : Int32) (D : DD) (o : (Nat × List Int32 × DD) ⊕ RT) (h : b_X13_undo_1 x1 D = some o) (h1 : ∀ x, o = .inl x → hg_X13_undo p l e s m args below meth c G E r x.1 x.2.1 x.2.2) (h2 : ∀ x, o = .inr x → x = r) : GW p l e (rmm 0) s m args below meth c G E 2 (MQ below (QR G E s.heap.size r) args s 0 0 (fr E s.heap.size)) 0 0 D 37 [(0, .ref (E.1 84)), (1, .int x1)] [] := by
  unfold b_X13_undo_1 at h
  refine g_iload_n X 1 (i0 := 1) dX13_undo_37 rfl rfl ?_
  refine g_bipush X (v := (62 : Int32)) dX13_undo_38 (by decide) ?_
  refine g_icmp_ge X (tgt := 69) dX13_undo_40 (by decide) (fun c6 => ?_) (fun c6 => ?_)
  · have h := (ite_s h).1 c6
    refine g_aload_n X 0 (i0 := 0) dX13_undo_69 rfl rfl ?_
    refine g_get X (D := D) (v := .int (D.1 141)) (T := TX13) 84 uX13 (wg_84 E _) rfl 1 (by decide) fl_X13_66 rfl rfl dX13_undo_70 ?_
    exact g_iret X hr rfl dX13_undo_73 (h2 _ (Option.some.inj h).symm)
  · have h := (ite_s h).2 c6
    refine g_aload_n X 0 (i0 := 0) dX13_undo_43 rfl rfl ?_
    refine g_get X (D := D) (v := .ref (E.1 85)) (T := TX13) 84 uX13 (wg_84 E _) rfl 5 (by decide) fl_X13_16 rfl rfl dX13_undo_44 ?_
    refine g_iload_n X 1 (i0 := 1) dX13_undo_47 rfl rfl ?_
    refine g_aload_n X 0 (i0 := 0) dX13_undo_48 rfl rfl ?_
    refine g_get X (D := D) (v := .ref (E.1 88)) (T := TX13) 84 uX13 (wg_84 E _) rfl 8 (by decide) fl_X13_26 rfl rfl dX13_undo_49 ?_
    refine g_aload_n X 0 (i0 := 0) dX13_undo_52 rfl rfl ?_
    refine g_get X (D := D) (v := .int (D.1 141)) (T := TX13) 84 uX13 (wg_84 E _) rfl 1 (by decide) fl_X13_66 rfl rfl dX13_undo_53 ?_
    refine g_bipush X (v := (62 : Int32)) dX13_undo_56 (by decide) ?_
    refine g_imul X dX13_undo_58 ?_
    refine g_iload_n X 1 (i0 := 1) dX13_undo_59 rfl rfl ?_
    refine g_iadd X dX13_undo_60 ?_
    obtain ⟨b4, h⟩ := chk_s h
    refine g_iald X (D := D) (f := (D.2.2.1 73)) (i := (((D.1 141) * (62 : Int32)) + x1)) 88 (wg_88 E _) (inB_vp b4) dX13_undo_61 ?_
    obtain ⟨b5, h⟩ := chk_s h
    refine g_iast X (D := D) (f := (D.2.2.1 70)) (i := x1) (x := ((D.2.2.1 73) (((D.1 141) * (62 : Int32)) + x1).toNatClampNeg)) (D' := (setA D 70 (upd (D.2.2.1 70) x1.toNatClampNeg ((D.2.2.1 73) (((D.1 141) * (62 : Int32)) + x1).toNatClampNeg)))) 85 (wg_85 E _) (inB_vp b5) (ws_A_70 E _ _) dX13_undo_62 ?_
    refine g_iinc X 1 (v := (x1 + (1 : Int32))) (lv' := [(1, .int (x1 + (1 : Int32))), (0, .ref (E.1 84))]) dX13_undo_63 rfl rfl (by decide) rfl ?_
    refine g_goto X (tgt := 37) dX13_undo_66 (by decide) ?_
    refine g_sub (lv' := [(0, .ref (E.1 84)), (1, .int (x1 + (1 : Int32)))]) [1, 0] rfl ?_
    exact h1 _ (Option.some.inj h).symm
set_option maxRecDepth 100000 in
set_option maxHeartbeats 4000000 in
theorem c_X13_undo (l : Launch) (G : va_G) (E : EE)  (D : DD) (r : RT) (h : S_X13_undo  D = some r) : MM l G E yX13_undo cX13_undo 2 (some .int) (rmm 0) [.ref (E.1 84)] D r := by
  unfold S_X13_undo at h
  refine m_of rfl (Nat.le_of_ble_eq_true rfl) ?_
  intro p e s m args below meth c X hr
  exact run_G (T := T_X13_undo) (HG := hg_X13_undo p l e s m args below meth c G E r) (by
    intro k ls D o hT h1 h2
    unfold T_X13_undo at hT
    split at hT
    · exact bl_X13_undo_0 X hr  D o hT h1 h2
    · exact bl_X13_undo_1 X hr _ D o hT h1 h2
    · cases hT) FUEL 0 [] D h
theorem wg_87 (E : EE) (D : DD) : (wd E D)[87]? = some (E.1 87, .inl (E.2 0, 62, .inl (D.2.2.1 72))) := rfl
theorem ws_A_72 (E : EE) (D : DD) (f : Nat → Int32) : (wd E D).set 87 (E.1 87, .inl (E.2 0, 62, .inl f)) = wd E (setA D 72 f) := rfl
def b_X13_lays_m_saved_m_v_0  (D : DD) : Option ((Nat × List Int32 × DD) ⊕ RT) := some (.inl (1, [(0 : Int32)], D))
def b_X13_lays_m_saved_m_v_1 (x2 : Int32) (D : DD) : Option ((Nat × List Int32 × DD) ⊕ RT) := (if (62 : Int32) ≤ x2 then some (.inr (0, none, D)) else (if inB x2 62 = true then (if inB x2 62 = true then some (.inl (1, [(x2 + (1 : Int32))], (setA D 72 (upd (D.2.2.1 72) x2.toNatClampNeg ((D.2.2.1 70) x2.toNatClampNeg))))) else none) else none))
def T_X13_lays_m_saved_m_v (k : Nat) (ls : List Int32) (D : DD) : Option ((Nat × List Int32 × DD) ⊕ RT) := match k, ls with
  | 0, [] => b_X13_lays_m_saved_m_v_0  D
  | 1, [x2] => b_X13_lays_m_saved_m_v_1 x2 D
  | _, _ => none
def S_X13_lays_m_saved_m_v  (D : DD) : Option RT := run T_X13_lays_m_saved_m_v FUEL 0 [] D
def hg_X13_lays_m_saved_m_v (p : Program) (l : Launch) (e : Env) (s : State) (m : MethodId) (args : Array Value) (below : List Frame) (meth : Method) (c : Code) (G : va_G) (E : EE) (r : RT) (k : Nat) (ls : List Int32) (D : DD) : Prop := match k, ls with
  | 0, [] => GW p l e (rmm 0) s m args below meth c G E 3 (MQ below (QR G E s.heap.size r) args s 0 0 (fr E s.heap.size)) 0 0 D 0 [(0, .ref (E.1 87)), (1, .ref (E.1 85))] []
  | 1, [x2] => GW p l e (rmm 0) s m args below meth c G E 3 (MQ below (QR G E s.heap.size r) args s 0 0 (fr E s.heap.size)) 0 0 D 2 [(0, .ref (E.1 87)), (1, .ref (E.1 85)), (2, .int x2)] []
  | _, _ => True
set_option maxRecDepth 100000 in
set_option maxHeartbeats 4000000 in
theorem bl_X13_lays_m_saved_m_v_0 {p : Program} {l : Launch} {e : Env} {s : State} {m : MethodId} {args : Array Value} {below : List Frame} {meth : Method} {c : Code} {G : va_G} {E : EE} {r : RT} (X : CX p s m args meth c cX13_lays RX13 3 G E) (hr : meth.sig.returnType = none)  (D : DD) (o : (Nat × List Int32 × DD) ⊕ RT) (h : b_X13_lays_m_saved_m_v_0  D = some o) (h1 : ∀ x, o = .inl x → hg_X13_lays_m_saved_m_v p l e s m args below meth c G E r x.1 x.2.1 x.2.2) (h2 : ∀ x, o = .inr x → x = r) : GW p l e (rmm 0) s m args below meth c G E 3 (MQ below (QR G E s.heap.size r) args s 0 0 (fr E s.heap.size)) 0 0 D 0 [(0, .ref (E.1 87)), (1, .ref (E.1 85))] [] := by
  unfold b_X13_lays_m_saved_m_v_0 at h
  refine g_iconst X (v := (0 : Int32)) dX13_lays_0 (by decide) ?_
  refine g_istore_n X (i0 := 2) (lv' := [(2, .int (0 : Int32)), (0, .ref (E.1 87)), (1, .ref (E.1 85))]) dX13_lays_1 rfl (by decide) rfl ?_
  refine g_sub (lv' := [(0, .ref (E.1 87)), (1, .ref (E.1 85)), (2, .int (0 : Int32))]) [1, 2, 0] rfl ?_
  exact h1 _ (Option.some.inj h).symm
set_option maxRecDepth 100000 in
set_option maxHeartbeats 4000000 in
theorem bl_X13_lays_m_saved_m_v_1 {p : Program} {l : Launch} {e : Env} {s : State} {m : MethodId} {args : Array Value} {below : List Frame} {meth : Method} {c : Code} {G : va_G} {E : EE} {r : RT} (X : CX p s m args meth c cX13_lays RX13 3 G E) (hr : meth.sig.returnType = none) (x2 : Int32) (D : DD) (o : (Nat × List Int32 × DD) ⊕ RT) (h : b_X13_lays_m_saved_m_v_1 x2 D = some o) (h1 : ∀ x, o = .inl x → hg_X13_lays_m_saved_m_v p l e s m args below meth c G E r x.1 x.2.1 x.2.2) (h2 : ∀ x, o = .inr x → x = r) : GW p l e (rmm 0) s m args below meth c G E 3 (MQ below (QR G E s.heap.size r) args s 0 0 (fr E s.heap.size)) 0 0 D 2 [(0, .ref (E.1 87)), (1, .ref (E.1 85)), (2, .int x2)] [] := by
  unfold b_X13_lays_m_saved_m_v_1 at h
  refine g_iload_n X 2 (i0 := 2) dX13_lays_2 rfl rfl ?_
  refine g_bipush X (v := (62 : Int32)) dX13_lays_3 (by decide) ?_
  refine g_icmp_ge X (tgt := 20) dX13_lays_5 (by decide) (fun c3 => ?_) (fun c3 => ?_)
  · have h := (ite_s h).1 c3
    exact g_vret X hr dX13_lays_20 (h2 _ (Option.some.inj h).symm)
  · have h := (ite_s h).2 c3
    refine g_aload_n X 0 (i0 := 0) dX13_lays_8 rfl rfl ?_
    refine g_iload_n X 2 (i0 := 2) dX13_lays_9 rfl rfl ?_
    refine g_aload_n X 1 (i0 := 1) dX13_lays_10 rfl rfl ?_
    refine g_iload_n X 2 (i0 := 2) dX13_lays_11 rfl rfl ?_
    obtain ⟨b1, h⟩ := chk_s h
    refine g_iald X (D := D) (f := (D.2.2.1 70)) (i := x2) 85 (wg_85 E _) (inB_vp b1) dX13_lays_12 ?_
    obtain ⟨b2, h⟩ := chk_s h
    refine g_iast X (D := D) (f := (D.2.2.1 72)) (i := x2) (x := ((D.2.2.1 70) x2.toNatClampNeg)) (D' := (setA D 72 (upd (D.2.2.1 72) x2.toNatClampNeg ((D.2.2.1 70) x2.toNatClampNeg)))) 87 (wg_87 E _) (inB_vp b2) (ws_A_72 E _ _) dX13_lays_13 ?_
    refine g_iinc X 2 (v := (x2 + (1 : Int32))) (lv' := [(2, .int (x2 + (1 : Int32))), (0, .ref (E.1 87)), (1, .ref (E.1 85))]) dX13_lays_14 rfl rfl (by decide) rfl ?_
    refine g_goto X (tgt := 2) dX13_lays_17 (by decide) ?_
    refine g_sub (lv' := [(0, .ref (E.1 87)), (1, .ref (E.1 85)), (2, .int (x2 + (1 : Int32)))]) [1, 2, 0] rfl ?_
    exact h1 _ (Option.some.inj h).symm
set_option maxRecDepth 100000 in
set_option maxHeartbeats 4000000 in
theorem c_X13_lays_m_saved_m_v (l : Launch) (G : va_G) (E : EE)  (D : DD) (r : RT) (h : S_X13_lays_m_saved_m_v  D = some r) : MM l G E yX13_lays cX13_lays 3 none (rmm 0) [.ref (E.1 87), .ref (E.1 85)] D r := by
  unfold S_X13_lays_m_saved_m_v at h
  refine m_of rfl (Nat.le_of_ble_eq_true rfl) ?_
  intro p e s m args below meth c X hr
  exact run_G (T := T_X13_lays_m_saved_m_v) (HG := hg_X13_lays_m_saved_m_v p l e s m args below meth c G E r) (by
    intro k ls D o hT h1 h2
    unfold T_X13_lays_m_saved_m_v at hT
    split at hT
    · exact bl_X13_lays_m_saved_m_v_0 X hr  D o hT h1 h2
    · exact bl_X13_lays_m_saved_m_v_1 X hr _ D o hT h1 h2
    · cases hT) FUEL 0 [] D h
theorem fl_X13_23 : Cond.fieldLink RX13 23 "StoneQuarryModel" "saved" "[I" ∈ UT := ut 1357 (by decide +kernel) (by decide +kernel)
theorem fl_X13_246 : Cond.fieldLink RX13 246 "StoneQuarryModel" "isSaved" "Z" ∈ UT := ut 1354 (by decide +kernel) (by decide +kernel)
theorem ws_I_144 (E : EE) (D : DD) (v : Int32) : (wd E D).set 84 (E.1 84, .inr (13, [.int (D.1 140), .int (D.1 141), .int (D.1 142), .int (D.1 143), .int v, .ref (E.1 85), .ref (E.1 86), .ref (E.1 87), .ref (E.1 88), .ref (E.1 89), .ref (E.1 90), .ref (E.1 91), .ref (E.1 92), .ref (E.1 93), .ref (E.1 94), .ref (E.1 95), .ref (E.1 96), .ref (E.1 97), .ref (E.1 98), .int (D.1 145), .int (D.1 146), .int (D.1 147), .int (D.1 148), .int (D.1 149), .int (D.1 150)])) = wd E (setI D 144 v) := rfl
def S_X13_save  (D : DD) : Option RT := (cV (S_X13_lays_m_saved_m_v (setI D 140 (0 : Int32))) (fun D2 => some (0, some (.int ((D2.2.2.1 70) (3 : Int32).toNatClampNeg)), (setI D2 144 (1 : Int32)))))
set_option maxRecDepth 100000 in
set_option maxHeartbeats 4000000 in
theorem c_X13_save (l : Launch) (G : va_G) (E : EE)  (D : DD) (r : RT) (h : S_X13_save  D = some r) : MM l G E yX13_save cX13_save 1 (some .int) (rmm 1) [.ref (E.1 84)] D r := by
  refine m_of rfl (Nat.le_of_ble_eq_true rfl) ?_
  intro p e s m args below meth c X hr
  unfold S_X13_save at h
  refine g_aload_n X 0 (i0 := 0) dX13_save_0 rfl rfl ?_
  refine g_iconst X (v := (0 : Int32)) dX13_save_1 (by decide) ?_
  refine g_put X (D := D) (v := .int (0 : Int32)) (T := TX13) (D' := (setI D 140 (0 : Int32))) 84 uX13 tyX13 tyX13_ok nmX13 (wg_84 E _) rfl 0 (by decide) fl_X13_59 rfl rfl rfl rfl (Nat.le_of_ble_eq_true rfl) (ws_I_140 E _ _) dX13_save_2 ?_
  refine g_aload_n X 0 (i0 := 0) dX13_save_5 rfl rfl ?_
  refine g_get X (D := (setI D 140 (0 : Int32))) (v := .ref (E.1 87)) (T := TX13) 84 uX13 (wg_84 E _) rfl 7 (by decide) fl_X13_23 rfl rfl dX13_save_6 ?_
  refine g_aload_n X 0 (i0 := 0) dX13_save_9 rfl rfl ?_
  refine g_get X (D := (setI D 140 (0 : Int32))) (v := .ref (E.1 85)) (T := TX13) 84 uX13 (wg_84 E _) rfl 5 (by decide) fl_X13_16 rfl rfl dX13_save_10 ?_
  obtain ⟨D2, e1, h⟩ := cV_s h
  refine g_S X (As := [.ref (E.1 87), .ref (E.1 85)]) (rest := []) (c_X13_lays_m_saved_m_v l G E  _ _ e1) ks_X13_62 ⟨rfl, rfl⟩ hd_X13_lays (⟨Nat.le_of_ble_eq_true rfl, Nat.le_of_ble_eq_true rfl⟩) rfl rfl (Nat.le_of_ble_eq_true rfl) dX13_save_13 ?_
  refine g_aload_n X 0 (i0 := 0) dX13_save_16 rfl rfl ?_
  refine g_iconst X (v := (1 : Int32)) dX13_save_17 (by decide) ?_
  refine g_put X (D := D2) (v := .int (1 : Int32)) (T := TX13) (D' := (setI D2 144 (1 : Int32))) 84 uX13 tyX13 tyX13_ok nmX13 (wg_84 E _) rfl 4 (by decide) fl_X13_246 rfl rfl rfl rfl (Nat.le_of_ble_eq_true rfl) (ws_I_144 E _ _) dX13_save_18 ?_
  refine g_aload_n X 0 (i0 := 0) dX13_save_21 rfl rfl ?_
  refine g_get X (D := (setI D2 144 (1 : Int32))) (v := .ref (E.1 85)) (T := TX13) 84 uX13 (wg_84 E _) rfl 5 (by decide) fl_X13_16 rfl rfl dX13_save_22 ?_
  refine g_iconst X (v := (3 : Int32)) dX13_save_25 (by decide) ?_
  refine g_iald X (D := (setI D2 144 (1 : Int32))) (f := (D2.2.2.1 70)) (i := (3 : Int32)) 85 (wg_85 E _) (inB_vp (by decide)) dX13_save_26 ?_
  exact g_iret X hr rfl dX13_save_27 (Option.some.inj h)
def b_X13_lays_m_v_m_saved_0  (D : DD) : Option ((Nat × List Int32 × DD) ⊕ RT) := some (.inl (1, [(0 : Int32)], D))
def b_X13_lays_m_v_m_saved_1 (x2 : Int32) (D : DD) : Option ((Nat × List Int32 × DD) ⊕ RT) := (if (62 : Int32) ≤ x2 then some (.inr (0, none, D)) else (if inB x2 62 = true then (if inB x2 62 = true then some (.inl (1, [(x2 + (1 : Int32))], (setA D 70 (upd (D.2.2.1 70) x2.toNatClampNeg ((D.2.2.1 72) x2.toNatClampNeg))))) else none) else none))
def T_X13_lays_m_v_m_saved (k : Nat) (ls : List Int32) (D : DD) : Option ((Nat × List Int32 × DD) ⊕ RT) := match k, ls with
  | 0, [] => b_X13_lays_m_v_m_saved_0  D
  | 1, [x2] => b_X13_lays_m_v_m_saved_1 x2 D
  | _, _ => none
def S_X13_lays_m_v_m_saved  (D : DD) : Option RT := run T_X13_lays_m_v_m_saved FUEL 0 [] D
def hg_X13_lays_m_v_m_saved (p : Program) (l : Launch) (e : Env) (s : State) (m : MethodId) (args : Array Value) (below : List Frame) (meth : Method) (c : Code) (G : va_G) (E : EE) (r : RT) (k : Nat) (ls : List Int32) (D : DD) : Prop := match k, ls with
  | 0, [] => GW p l e (rmm 0) s m args below meth c G E 3 (MQ below (QR G E s.heap.size r) args s 0 0 (fr E s.heap.size)) 0 0 D 0 [(0, .ref (E.1 85)), (1, .ref (E.1 87))] []
  | 1, [x2] => GW p l e (rmm 0) s m args below meth c G E 3 (MQ below (QR G E s.heap.size r) args s 0 0 (fr E s.heap.size)) 0 0 D 2 [(0, .ref (E.1 85)), (1, .ref (E.1 87)), (2, .int x2)] []
  | _, _ => True
set_option maxRecDepth 100000 in
set_option maxHeartbeats 4000000 in
theorem bl_X13_lays_m_v_m_saved_0 {p : Program} {l : Launch} {e : Env} {s : State} {m : MethodId} {args : Array Value} {below : List Frame} {meth : Method} {c : Code} {G : va_G} {E : EE} {r : RT} (X : CX p s m args meth c cX13_lays RX13 3 G E) (hr : meth.sig.returnType = none)  (D : DD) (o : (Nat × List Int32 × DD) ⊕ RT) (h : b_X13_lays_m_v_m_saved_0  D = some o) (h1 : ∀ x, o = .inl x → hg_X13_lays_m_v_m_saved p l e s m args below meth c G E r x.1 x.2.1 x.2.2) (h2 : ∀ x, o = .inr x → x = r) : GW p l e (rmm 0) s m args below meth c G E 3 (MQ below (QR G E s.heap.size r) args s 0 0 (fr E s.heap.size)) 0 0 D 0 [(0, .ref (E.1 85)), (1, .ref (E.1 87))] [] := by
  unfold b_X13_lays_m_v_m_saved_0 at h
  refine g_iconst X (v := (0 : Int32)) dX13_lays_0 (by decide) ?_
  refine g_istore_n X (i0 := 2) (lv' := [(2, .int (0 : Int32)), (0, .ref (E.1 85)), (1, .ref (E.1 87))]) dX13_lays_1 rfl (by decide) rfl ?_
  refine g_sub (lv' := [(0, .ref (E.1 85)), (1, .ref (E.1 87)), (2, .int (0 : Int32))]) [1, 2, 0] rfl ?_
  exact h1 _ (Option.some.inj h).symm
set_option maxRecDepth 100000 in
set_option maxHeartbeats 4000000 in
theorem bl_X13_lays_m_v_m_saved_1 {p : Program} {l : Launch} {e : Env} {s : State} {m : MethodId} {args : Array Value} {below : List Frame} {meth : Method} {c : Code} {G : va_G} {E : EE} {r : RT} (X : CX p s m args meth c cX13_lays RX13 3 G E) (hr : meth.sig.returnType = none) (x2 : Int32) (D : DD) (o : (Nat × List Int32 × DD) ⊕ RT) (h : b_X13_lays_m_v_m_saved_1 x2 D = some o) (h1 : ∀ x, o = .inl x → hg_X13_lays_m_v_m_saved p l e s m args below meth c G E r x.1 x.2.1 x.2.2) (h2 : ∀ x, o = .inr x → x = r) : GW p l e (rmm 0) s m args below meth c G E 3 (MQ below (QR G E s.heap.size r) args s 0 0 (fr E s.heap.size)) 0 0 D 2 [(0, .ref (E.1 85)), (1, .ref (E.1 87)), (2, .int x2)] [] := by
  unfold b_X13_lays_m_v_m_saved_1 at h
  refine g_iload_n X 2 (i0 := 2) dX13_lays_2 rfl rfl ?_
  refine g_bipush X (v := (62 : Int32)) dX13_lays_3 (by decide) ?_
  refine g_icmp_ge X (tgt := 20) dX13_lays_5 (by decide) (fun c3 => ?_) (fun c3 => ?_)
  · have h := (ite_s h).1 c3
    exact g_vret X hr dX13_lays_20 (h2 _ (Option.some.inj h).symm)
  · have h := (ite_s h).2 c3
    refine g_aload_n X 0 (i0 := 0) dX13_lays_8 rfl rfl ?_
    refine g_iload_n X 2 (i0 := 2) dX13_lays_9 rfl rfl ?_
    refine g_aload_n X 1 (i0 := 1) dX13_lays_10 rfl rfl ?_
    refine g_iload_n X 2 (i0 := 2) dX13_lays_11 rfl rfl ?_
    obtain ⟨b1, h⟩ := chk_s h
    refine g_iald X (D := D) (f := (D.2.2.1 72)) (i := x2) 87 (wg_87 E _) (inB_vp b1) dX13_lays_12 ?_
    obtain ⟨b2, h⟩ := chk_s h
    refine g_iast X (D := D) (f := (D.2.2.1 70)) (i := x2) (x := ((D.2.2.1 72) x2.toNatClampNeg)) (D' := (setA D 70 (upd (D.2.2.1 70) x2.toNatClampNeg ((D.2.2.1 72) x2.toNatClampNeg)))) 85 (wg_85 E _) (inB_vp b2) (ws_A_70 E _ _) dX13_lays_13 ?_
    refine g_iinc X 2 (v := (x2 + (1 : Int32))) (lv' := [(2, .int (x2 + (1 : Int32))), (0, .ref (E.1 85)), (1, .ref (E.1 87))]) dX13_lays_14 rfl rfl (by decide) rfl ?_
    refine g_goto X (tgt := 2) dX13_lays_17 (by decide) ?_
    refine g_sub (lv' := [(0, .ref (E.1 85)), (1, .ref (E.1 87)), (2, .int (x2 + (1 : Int32)))]) [1, 2, 0] rfl ?_
    exact h1 _ (Option.some.inj h).symm
set_option maxRecDepth 100000 in
set_option maxHeartbeats 4000000 in
theorem c_X13_lays_m_v_m_saved (l : Launch) (G : va_G) (E : EE)  (D : DD) (r : RT) (h : S_X13_lays_m_v_m_saved  D = some r) : MM l G E yX13_lays cX13_lays 3 none (rmm 0) [.ref (E.1 85), .ref (E.1 87)] D r := by
  unfold S_X13_lays_m_v_m_saved at h
  refine m_of rfl (Nat.le_of_ble_eq_true rfl) ?_
  intro p e s m args below meth c X hr
  exact run_G (T := T_X13_lays_m_v_m_saved) (HG := hg_X13_lays_m_v_m_saved p l e s m args below meth c G E r) (by
    intro k ls D o hT h1 h2
    unfold T_X13_lays_m_v_m_saved at hT
    split at hT
    · exact bl_X13_lays_m_v_m_saved_0 X hr  D o hT h1 h2
    · exact bl_X13_lays_m_v_m_saved_1 X hr _ D o hT h1 h2
    · cases hT) FUEL 0 [] D h
def S_X13_restore  (D : DD) : Option RT := (if (D.1 144) = 0 then (if (1 : Int32) = 0 then (cV (S_X13_lays_m_v_m_saved (setI D 140 (1 : Int32))) (fun D2 => some (0, some (.int ((D2.2.2.1 70) (3 : Int32).toNatClampNeg)), (setI D2 141 (0 : Int32))))) else some (0, some (.int (0 : Int32)), (setI D 140 (1 : Int32)))) else (if (0 : Int32) = 0 then (cV (S_X13_lays_m_v_m_saved (setI D 140 (0 : Int32))) (fun D5 => some (0, some (.int ((D5.2.2.1 70) (3 : Int32).toNatClampNeg)), (setI D5 141 (0 : Int32))))) else some (0, some (.int (0 : Int32)), (setI D 140 (0 : Int32)))))
set_option maxRecDepth 100000 in
set_option maxHeartbeats 4000000 in
theorem c_X13_restore (l : Launch) (G : va_G) (E : EE)  (D : DD) (r : RT) (h : S_X13_restore  D = some r) : MM l G E yX13_restore cX13_restore 1 (some .int) (rmm 1) [.ref (E.1 84)] D r := by
  refine m_of rfl (Nat.le_of_ble_eq_true rfl) ?_
  intro p e s m args below meth c X hr
  unfold S_X13_restore at h
  refine g_aload_n X 0 (i0 := 0) dX13_restore_0 rfl rfl ?_
  refine g_aload_n X 0 (i0 := 0) dX13_restore_1 rfl rfl ?_
  refine g_get X (D := D) (v := .int (D.1 144)) (T := TX13) 84 uX13 (wg_84 E _) rfl 4 (by decide) fl_X13_246 rfl rfl dX13_restore_2 ?_
  refine g_if_eq X (tgt := 12) dX13_restore_5 (by decide) (fun c7 => ?_) (fun c7 => ?_)
  · have h := (ite_s h).1 c7
    refine g_iconst X (v := (1 : Int32)) dX13_restore_12 (by decide) ?_
    refine g_put X (D := D) (v := .int (1 : Int32)) (T := TX13) (D' := (setI D 140 (1 : Int32))) 84 uX13 tyX13 tyX13_ok nmX13 (wg_84 E _) rfl 0 (by decide) fl_X13_59 rfl rfl rfl rfl (Nat.le_of_ble_eq_true rfl) (ws_I_140 E _ _) dX13_restore_13 ?_
    refine g_aload_n X 0 (i0 := 0) dX13_restore_16 rfl rfl ?_
    refine g_get X (D := (setI D 140 (1 : Int32))) (v := .int (1 : Int32)) (T := TX13) 84 uX13 (wg_84 E _) rfl 0 (by decide) fl_X13_59 rfl rfl dX13_restore_17 ?_
    refine g_if_eq X (tgt := 25) dX13_restore_20 (by decide) (fun c3 => ?_) (fun c3 => ?_)
    · have h := (ite_s h).1 c3
      refine g_aload_n X 0 (i0 := 0) dX13_restore_25 rfl rfl ?_
      refine g_get X (D := (setI D 140 (1 : Int32))) (v := .ref (E.1 85)) (T := TX13) 84 uX13 (wg_84 E _) rfl 5 (by decide) fl_X13_16 rfl rfl dX13_restore_26 ?_
      refine g_aload_n X 0 (i0 := 0) dX13_restore_29 rfl rfl ?_
      refine g_get X (D := (setI D 140 (1 : Int32))) (v := .ref (E.1 87)) (T := TX13) 84 uX13 (wg_84 E _) rfl 7 (by decide) fl_X13_23 rfl rfl dX13_restore_30 ?_
      obtain ⟨D2, e1, h⟩ := cV_s h
      refine g_S X (As := [.ref (E.1 85), .ref (E.1 87)]) (rest := []) (c_X13_lays_m_v_m_saved l G E  _ _ e1) ks_X13_62 ⟨rfl, rfl⟩ hd_X13_lays (⟨Nat.le_of_ble_eq_true rfl, Nat.le_of_ble_eq_true rfl⟩) rfl rfl (Nat.le_of_ble_eq_true rfl) dX13_restore_33 ?_
      refine g_aload_n X 0 (i0 := 0) dX13_restore_36 rfl rfl ?_
      refine g_iconst X (v := (0 : Int32)) dX13_restore_37 (by decide) ?_
      refine g_put X (D := D2) (v := .int (0 : Int32)) (T := TX13) (D' := (setI D2 141 (0 : Int32))) 84 uX13 tyX13 tyX13_ok nmX13 (wg_84 E _) rfl 1 (by decide) fl_X13_66 rfl rfl rfl rfl (Nat.le_of_ble_eq_true rfl) (ws_I_141 E _ _) dX13_restore_38 ?_
      refine g_aload_n X 0 (i0 := 0) dX13_restore_41 rfl rfl ?_
      refine g_get X (D := (setI D2 141 (0 : Int32))) (v := .ref (E.1 85)) (T := TX13) 84 uX13 (wg_84 E _) rfl 5 (by decide) fl_X13_16 rfl rfl dX13_restore_42 ?_
      refine g_iconst X (v := (3 : Int32)) dX13_restore_45 (by decide) ?_
      refine g_iald X (D := (setI D2 141 (0 : Int32))) (f := (D2.2.2.1 70)) (i := (3 : Int32)) 85 (wg_85 E _) (inB_vp (by decide)) dX13_restore_46 ?_
      exact g_iret X hr rfl dX13_restore_47 (Option.some.inj h)
    · have h := (ite_s h).2 c3
      refine g_iconst X (v := (0 : Int32)) dX13_restore_23 (by decide) ?_
      exact g_iret X hr rfl dX13_restore_24 (Option.some.inj h)
  · have h := (ite_s h).2 c7
    refine g_iconst X (v := (0 : Int32)) dX13_restore_8 (by decide) ?_
    refine g_goto X (tgt := 13) dX13_restore_9 (by decide) ?_
    refine g_put X (D := D) (v := .int (0 : Int32)) (T := TX13) (D' := (setI D 140 (0 : Int32))) 84 uX13 tyX13 tyX13_ok nmX13 (wg_84 E _) rfl 0 (by decide) fl_X13_59 rfl rfl rfl rfl (Nat.le_of_ble_eq_true rfl) (ws_I_140 E _ _) dX13_restore_13 ?_
    refine g_aload_n X 0 (i0 := 0) dX13_restore_16 rfl rfl ?_
    refine g_get X (D := (setI D 140 (0 : Int32))) (v := .int (0 : Int32)) (T := TX13) 84 uX13 (wg_84 E _) rfl 0 (by decide) fl_X13_59 rfl rfl dX13_restore_17 ?_
    refine g_if_eq X (tgt := 25) dX13_restore_20 (by decide) (fun c6 => ?_) (fun c6 => ?_)
    · have h := (ite_s h).1 c6
      refine g_aload_n X 0 (i0 := 0) dX13_restore_25 rfl rfl ?_
      refine g_get X (D := (setI D 140 (0 : Int32))) (v := .ref (E.1 85)) (T := TX13) 84 uX13 (wg_84 E _) rfl 5 (by decide) fl_X13_16 rfl rfl dX13_restore_26 ?_
      refine g_aload_n X 0 (i0 := 0) dX13_restore_29 rfl rfl ?_
      refine g_get X (D := (setI D 140 (0 : Int32))) (v := .ref (E.1 87)) (T := TX13) 84 uX13 (wg_84 E _) rfl 7 (by decide) fl_X13_23 rfl rfl dX13_restore_30 ?_
      obtain ⟨D5, e4, h⟩ := cV_s h
      refine g_S X (As := [.ref (E.1 85), .ref (E.1 87)]) (rest := []) (c_X13_lays_m_v_m_saved l G E  _ _ e4) ks_X13_62 ⟨rfl, rfl⟩ hd_X13_lays (⟨Nat.le_of_ble_eq_true rfl, Nat.le_of_ble_eq_true rfl⟩) rfl rfl (Nat.le_of_ble_eq_true rfl) dX13_restore_33 ?_
      refine g_aload_n X 0 (i0 := 0) dX13_restore_36 rfl rfl ?_
      refine g_iconst X (v := (0 : Int32)) dX13_restore_37 (by decide) ?_
      refine g_put X (D := D5) (v := .int (0 : Int32)) (T := TX13) (D' := (setI D5 141 (0 : Int32))) 84 uX13 tyX13 tyX13_ok nmX13 (wg_84 E _) rfl 1 (by decide) fl_X13_66 rfl rfl rfl rfl (Nat.le_of_ble_eq_true rfl) (ws_I_141 E _ _) dX13_restore_38 ?_
      refine g_aload_n X 0 (i0 := 0) dX13_restore_41 rfl rfl ?_
      refine g_get X (D := (setI D5 141 (0 : Int32))) (v := .ref (E.1 85)) (T := TX13) 84 uX13 (wg_84 E _) rfl 5 (by decide) fl_X13_16 rfl rfl dX13_restore_42 ?_
      refine g_iconst X (v := (3 : Int32)) dX13_restore_45 (by decide) ?_
      refine g_iald X (D := (setI D5 141 (0 : Int32))) (f := (D5.2.2.1 70)) (i := (3 : Int32)) 85 (wg_85 E _) (inB_vp (by decide)) dX13_restore_46 ?_
      exact g_iret X hr rfl dX13_restore_47 (Option.some.inj h)
    · have h := (ite_s h).2 c6
      refine g_iconst X (v := (0 : Int32)) dX13_restore_23 (by decide) ?_
      exact g_iret X hr rfl dX13_restore_24 (Option.some.inj h)
