set_option maxRecDepth 100000 in
set_option maxHeartbeats 8000000 in
theorem bl_law_22 {p : Program} {l : Launch} {e : Env} {s : State} {m : MethodId} {b Ln : Nat} {xs : Nat → Int32} {below : List Frame} {meth : Method} {c : Code} {G : va_G} {E : EE} (X : CX p s m #[Value.ref b] meth c code RL 10 G E) (hfl : l.stackTraces = false) (hr : meth.sig.returnType = ret) (hX : va_X b Ln xs s s.heap) (hbl : b < s.heap.size) (hbA : ¬ fr E s.heap.size b) (hE : ∀ k, k < 101 → s.heap.size ≤ E.1 k) (K S : Nat) (hK : K + 1 ≤ 603072) (hS : S + 6 ≤ 7194730) (x5 : Int32) (D : DD) (o : (Nat × Int32 × DD) ⊕ Int32) (h : b_law_22 xs Ln x5 D = some o) (h1 : ∀ x, o = .inl x → hg_law p l e s m b below meth c G E (K + 1) (S + 6) x.1 x.2.1 x.2.2) (h2 : ∀ x, o = .inr x → x = 1) : GW p l e room_1 s m #[Value.ref b] below meth c G E 10 (lw_Z below #[Value.ref b] s) K S D 1299 [(0, .ref b), (1, .ref (E.1 0)), (2, .ref (E.1 84)), (3, .ref (E.1 99)), (4, .ref (E.1 100)), (5, .int x5)] [] := by
  have hk0 : K + 0 ≤ room_1.cells ∧ S + 0 ≤ room_1.slots := ⟨by show K + 0 ≤ 603072; omega, by show S + 0 ≤ 7194730; omega⟩
  have hk1 : (K + 1) + 0 ≤ room_1.cells ∧ (S + 6) + 0 ≤ room_1.slots := ⟨by show K + 1 + 0 ≤ 603072; omega, by show S + 6 + 0 ≤ 7194730; omega⟩
  have hkw : K + 1 ≤ room_1.cells ∧ S + 6 ≤ room_1.slots := ⟨hK, hS⟩
  unfold b_law_22 at h
  refine g_aload_n X 1 (i0 := 1) dL_law_1299 rfl rfl ?_
  obtain ⟨r327, D326, e325, h⟩ := cI_s h
  refine g_Vk X (As := []) (rest := []) (c_X12_slabsByCells l G E  _ _ e325) 0 (wg_0 E _) rfl rfl kv_L_207 ⟨rfl, rfl⟩ ⟨rfl, hd_X12_slabsByCells⟩ (⟨Nat.le_of_ble_eq_true rfl, Nat.le_of_ble_eq_true rfl⟩) hk0 rfl rfl (Nat.le_of_ble_eq_true rfl) dL_law_1300 ?_
  refine g_aload_n X 2 (i0 := 2) dL_law_1303 rfl rfl ?_
  obtain ⟨r330, D329, e328, h⟩ := cI_s h
  refine g_Vk X (As := []) (rest := [.int r327]) (c_X13_slabsByCells l G E  _ _ e328) 84 (wg_84 E _) rfl rfl kv_L_210 ⟨rfl, rfl⟩ ⟨rfl, hd_X13_slabsByCells⟩ (⟨Nat.le_of_ble_eq_true rfl, Nat.le_of_ble_eq_true rfl⟩) hk0 rfl rfl (Nat.le_of_ble_eq_true rfl) dL_law_1304 ?_
  refine g_icmp_eq X (tgt := 2319) dL_law_1307 (by decide) (fun c331 => ?_) (fun c331 => ?_)
  · have h := (ite_s h).1 c331
    refine g_iinc X 5 (v := (x5 + (4 : Int32))) (lv' := [(5, .int (x5 + (4 : Int32))), (0, .ref b), (1, .ref (E.1 0)), (2, .ref (E.1 84)), (3, .ref (E.1 99)), (4, .ref (E.1 100))]) dL_law_2319 rfl rfl (by decide) rfl ?_
    refine g_goto X (tgt := 28) dL_law_2322 (by decide) ?_
    refine g_sub (lv' := [(0, .ref b), (1, .ref (E.1 0)), (2, .ref (E.1 84)), (3, .ref (E.1 99)), (4, .ref (E.1 100)), (5, .int (x5 + (4 : Int32)))]) [1, 2, 3, 4, 5, 0] rfl ?_
    refine g_widen (k2 := K + 1) (s2 := S + 6) (by omega) (by omega) ?_
    exact h1 _ (Option.some.inj h).symm
  · have h := (ite_s h).2 c331
    refine g_iconst X (v := (0 : Int32)) dL_law_1310 (by decide) ?_
    exact g_lawret l X hr hE (by omega) (by omega) dL_law_1311 (h2 _ (Option.some.inj h).symm)
set_option maxRecDepth 100000 in
set_option maxHeartbeats 8000000 in
theorem bl_law_23 {p : Program} {l : Launch} {e : Env} {s : State} {m : MethodId} {b Ln : Nat} {xs : Nat → Int32} {below : List Frame} {meth : Method} {c : Code} {G : va_G} {E : EE} (X : CX p s m #[Value.ref b] meth c code RL 10 G E) (hfl : l.stackTraces = false) (hr : meth.sig.returnType = ret) (hX : va_X b Ln xs s s.heap) (hbl : b < s.heap.size) (hbA : ¬ fr E s.heap.size b) (hE : ∀ k, k < 101 → s.heap.size ≤ E.1 k) (K S : Nat) (hK : K + 1 ≤ 603072) (hS : S + 6 ≤ 7194730) (x5 : Int32) (D : DD) (o : (Nat × Int32 × DD) ⊕ Int32) (h : b_law_23 xs Ln x5 D = some o) (h1 : ∀ x, o = .inl x → hg_law p l e s m b below meth c G E (K + 1) (S + 6) x.1 x.2.1 x.2.2) (h2 : ∀ x, o = .inr x → x = 1) : GW p l e room_1 s m #[Value.ref b] below meth c G E 10 (lw_Z below #[Value.ref b] s) K S D 1312 [(0, .ref b), (1, .ref (E.1 0)), (2, .ref (E.1 84)), (3, .ref (E.1 99)), (4, .ref (E.1 100)), (5, .int x5)] [] := by
  have hk0 : K + 0 ≤ room_1.cells ∧ S + 0 ≤ room_1.slots := ⟨by show K + 0 ≤ 603072; omega, by show S + 0 ≤ 7194730; omega⟩
  have hk1 : (K + 1) + 0 ≤ room_1.cells ∧ (S + 6) + 0 ≤ room_1.slots := ⟨by show K + 1 + 0 ≤ 603072; omega, by show S + 6 + 0 ≤ 7194730; omega⟩
  have hkw : K + 1 ≤ room_1.cells ∧ S + 6 ≤ room_1.slots := ⟨hK, hS⟩
  unfold b_law_23 at h
  refine g_aload_n X 1 (i0 := 1) dL_law_1312 rfl rfl ?_
  obtain ⟨r334, D333, e332, h⟩ := cI_s h
  refine g_Vk X (As := []) (rest := []) (c_X12_largestBlock l G E  _ _ e332) 0 (wg_0 E _) rfl rfl kv_L_211 ⟨rfl, rfl⟩ ⟨rfl, hd_X12_largestBlock⟩ (⟨Nat.le_of_ble_eq_true rfl, Nat.le_of_ble_eq_true rfl⟩) hk0 rfl rfl (Nat.le_of_ble_eq_true rfl) dL_law_1313 ?_
  refine g_aload_n X 2 (i0 := 2) dL_law_1316 rfl rfl ?_
  obtain ⟨r337, D336, e335, h⟩ := cI_s h
  refine g_Vk X (As := []) (rest := [.int r334]) (c_X13_largestBlock l G E  _ _ e335) 84 (wg_84 E _) rfl rfl kv_L_214 ⟨rfl, rfl⟩ ⟨rfl, hd_X13_largestBlock⟩ (⟨Nat.le_of_ble_eq_true rfl, Nat.le_of_ble_eq_true rfl⟩) hk0 rfl rfl (Nat.le_of_ble_eq_true rfl) dL_law_1317 ?_
  refine g_icmp_eq X (tgt := 2319) dL_law_1320 (by decide) (fun c338 => ?_) (fun c338 => ?_)
  · have h := (ite_s h).1 c338
    refine g_iinc X 5 (v := (x5 + (4 : Int32))) (lv' := [(5, .int (x5 + (4 : Int32))), (0, .ref b), (1, .ref (E.1 0)), (2, .ref (E.1 84)), (3, .ref (E.1 99)), (4, .ref (E.1 100))]) dL_law_2319 rfl rfl (by decide) rfl ?_
    refine g_goto X (tgt := 28) dL_law_2322 (by decide) ?_
    refine g_sub (lv' := [(0, .ref b), (1, .ref (E.1 0)), (2, .ref (E.1 84)), (3, .ref (E.1 99)), (4, .ref (E.1 100)), (5, .int (x5 + (4 : Int32)))]) [1, 2, 3, 4, 5, 0] rfl ?_
    refine g_widen (k2 := K + 1) (s2 := S + 6) (by omega) (by omega) ?_
    exact h1 _ (Option.some.inj h).symm
  · have h := (ite_s h).2 c338
    refine g_iconst X (v := (0 : Int32)) dL_law_1323 (by decide) ?_
    exact g_lawret l X hr hE (by omega) (by omega) dL_law_1324 (h2 _ (Option.some.inj h).symm)
set_option maxRecDepth 100000 in
set_option maxHeartbeats 8000000 in
theorem bl_law_24 {p : Program} {l : Launch} {e : Env} {s : State} {m : MethodId} {b Ln : Nat} {xs : Nat → Int32} {below : List Frame} {meth : Method} {c : Code} {G : va_G} {E : EE} (X : CX p s m #[Value.ref b] meth c code RL 10 G E) (hfl : l.stackTraces = false) (hr : meth.sig.returnType = ret) (hX : va_X b Ln xs s s.heap) (hbl : b < s.heap.size) (hbA : ¬ fr E s.heap.size b) (hE : ∀ k, k < 101 → s.heap.size ≤ E.1 k) (K S : Nat) (hK : K + 1 ≤ 603072) (hS : S + 6 ≤ 7194730) (x5 : Int32) (D : DD) (o : (Nat × Int32 × DD) ⊕ Int32) (h : b_law_24 xs Ln x5 D = some o) (h1 : ∀ x, o = .inl x → hg_law p l e s m b below meth c G E (K + 1) (S + 6) x.1 x.2.1 x.2.2) (h2 : ∀ x, o = .inr x → x = 1) : GW p l e room_1 s m #[Value.ref b] below meth c G E 10 (lw_Z below #[Value.ref b] s) K S D 1325 [(0, .ref b), (1, .ref (E.1 0)), (2, .ref (E.1 84)), (3, .ref (E.1 99)), (4, .ref (E.1 100)), (5, .int x5)] [] := by
  have hk0 : K + 0 ≤ room_1.cells ∧ S + 0 ≤ room_1.slots := ⟨by show K + 0 ≤ 603072; omega, by show S + 0 ≤ 7194730; omega⟩
  have hk1 : (K + 1) + 0 ≤ room_1.cells ∧ (S + 6) + 0 ≤ room_1.slots := ⟨by show K + 1 + 0 ≤ 603072; omega, by show S + 6 + 0 ≤ 7194730; omega⟩
  have hkw : K + 1 ≤ room_1.cells ∧ S + 6 ≤ room_1.slots := ⟨hK, hS⟩
  unfold b_law_24 at h
  refine g_aload_n X 1 (i0 := 1) dL_law_1325 rfl rfl ?_
  obtain ⟨r341, D340, e339, h⟩ := cI_s h
  refine g_Vk X (As := []) (rest := []) (c_X12_blockByHeights l G E  _ _ e339) 0 (wg_0 E _) rfl rfl kv_L_215 ⟨rfl, rfl⟩ ⟨rfl, hd_X12_blockByHeights⟩ (⟨Nat.le_of_ble_eq_true rfl, Nat.le_of_ble_eq_true rfl⟩) hk0 rfl rfl (Nat.le_of_ble_eq_true rfl) dL_law_1326 ?_
  refine g_aload_n X 2 (i0 := 2) dL_law_1329 rfl rfl ?_
  obtain ⟨r344, D343, e342, h⟩ := cI_s h
  refine g_Vk X (As := []) (rest := [.int r341]) (c_X13_blockByHeights l G E  _ _ e342) 84 (wg_84 E _) rfl rfl kv_L_218 ⟨rfl, rfl⟩ ⟨rfl, hd_X13_blockByHeights⟩ (⟨Nat.le_of_ble_eq_true rfl, Nat.le_of_ble_eq_true rfl⟩) hk0 rfl rfl (Nat.le_of_ble_eq_true rfl) dL_law_1330 ?_
  refine g_icmp_eq X (tgt := 2319) dL_law_1333 (by decide) (fun c345 => ?_) (fun c345 => ?_)
  · have h := (ite_s h).1 c345
    refine g_iinc X 5 (v := (x5 + (4 : Int32))) (lv' := [(5, .int (x5 + (4 : Int32))), (0, .ref b), (1, .ref (E.1 0)), (2, .ref (E.1 84)), (3, .ref (E.1 99)), (4, .ref (E.1 100))]) dL_law_2319 rfl rfl (by decide) rfl ?_
    refine g_goto X (tgt := 28) dL_law_2322 (by decide) ?_
    refine g_sub (lv' := [(0, .ref b), (1, .ref (E.1 0)), (2, .ref (E.1 84)), (3, .ref (E.1 99)), (4, .ref (E.1 100)), (5, .int (x5 + (4 : Int32)))]) [1, 2, 3, 4, 5, 0] rfl ?_
    refine g_widen (k2 := K + 1) (s2 := S + 6) (by omega) (by omega) ?_
    exact h1 _ (Option.some.inj h).symm
  · have h := (ite_s h).2 c345
    refine g_iconst X (v := (0 : Int32)) dL_law_1336 (by decide) ?_
    exact g_lawret l X hr hE (by omega) (by omega) dL_law_1337 (h2 _ (Option.some.inj h).symm)
set_option maxRecDepth 100000 in
set_option maxHeartbeats 8000000 in
theorem bl_law_25 {p : Program} {l : Launch} {e : Env} {s : State} {m : MethodId} {b Ln : Nat} {xs : Nat → Int32} {below : List Frame} {meth : Method} {c : Code} {G : va_G} {E : EE} (X : CX p s m #[Value.ref b] meth c code RL 10 G E) (hfl : l.stackTraces = false) (hr : meth.sig.returnType = ret) (hX : va_X b Ln xs s s.heap) (hbl : b < s.heap.size) (hbA : ¬ fr E s.heap.size b) (hE : ∀ k, k < 101 → s.heap.size ≤ E.1 k) (K S : Nat) (hK : K + 1 ≤ 603072) (hS : S + 6 ≤ 7194730) (x5 : Int32) (D : DD) (o : (Nat × Int32 × DD) ⊕ Int32) (h : b_law_25 xs Ln x5 D = some o) (h1 : ∀ x, o = .inl x → hg_law p l e s m b below meth c G E (K + 1) (S + 6) x.1 x.2.1 x.2.2) (h2 : ∀ x, o = .inr x → x = 1) : GW p l e room_1 s m #[Value.ref b] below meth c G E 10 (lw_Z below #[Value.ref b] s) K S D 1338 [(0, .ref b), (1, .ref (E.1 0)), (2, .ref (E.1 84)), (3, .ref (E.1 99)), (4, .ref (E.1 100)), (5, .int x5)] [] := by
  have hk0 : K + 0 ≤ room_1.cells ∧ S + 0 ≤ room_1.slots := ⟨by show K + 0 ≤ 603072; omega, by show S + 0 ≤ 7194730; omega⟩
  have hk1 : (K + 1) + 0 ≤ room_1.cells ∧ (S + 6) + 0 ≤ room_1.slots := ⟨by show K + 1 + 0 ≤ 603072; omega, by show S + 6 + 0 ≤ 7194730; omega⟩
  have hkw : K + 1 ≤ room_1.cells ∧ S + 6 ≤ room_1.slots := ⟨hK, hS⟩
  unfold b_law_25 at h
  refine g_aload_n X 1 (i0 := 1) dL_law_1338 rfl rfl ?_
  refine g_aload_n X 0 (i0 := 0) dL_law_1339 rfl rfl ?_
  refine g_iload X 5 dL_law_1340 rfl ?_
  refine g_iconst X (v := (1 : Int32)) dL_law_1342 (by decide) ?_
  refine g_iadd X dL_law_1343 ?_
  obtain ⟨b346, h⟩ := chk_s h
  refine g_sld X hX hbl hbA (i := (x5 + (1 : Int32))) (inB_vp b346) dL_law_1344 ?_
  refine g_aload_n X 0 (i0 := 0) dL_law_1345 rfl rfl ?_
  refine g_iload X 5 dL_law_1346 rfl ?_
  refine g_iconst X (v := (2 : Int32)) dL_law_1348 (by decide) ?_
  refine g_iadd X dL_law_1349 ?_
  obtain ⟨b347, h⟩ := chk_s h
  refine g_sld X hX hbl hbA (i := (x5 + (2 : Int32))) (inB_vp b347) dL_law_1350 ?_
  refine g_aload_n X 3 (i0 := 3) dL_law_1351 rfl rfl ?_
  obtain ⟨r350, D349, e348, h⟩ := cI_s h
  refine g_SWk X (As := [.ref (E.1 0), .int (xs (x5 + (1 : Int32)).toNatClampNeg), .int (xs (x5 + (2 : Int32)).toNatClampNeg), .ref (E.1 99)]) (rest := []) (c_L_setPrice l hfl G E (xs (x5 + (1 : Int32)).toNatClampNeg) (xs (x5 + (2 : Int32)).toNatClampNeg) _ _ e348) kw_L_219 ⟨rfl, rfl⟩ hd_L_setPrice (⟨Nat.le_of_ble_eq_true rfl, Nat.le_of_ble_eq_true rfl⟩) hkw rfl rfl (Nat.le_of_ble_eq_true rfl) dL_law_1352 ?_
  refine g_istore X (lv' := [(6, .int r350), (0, .ref b), (1, .ref (E.1 0)), (2, .ref (E.1 84)), (3, .ref (E.1 99)), (4, .ref (E.1 100)), (5, .int x5)]) dL_law_1355 (by decide) rfl ?_
  refine g_aload_n X 3 (i0 := 2) dL_law_1357 rfl rfl ?_
  refine g_aload_n X 1 (i0 := 0) dL_law_1358 rfl rfl ?_
  refine g_iload X 6 dL_law_1359 rfl ?_
  refine g_iconst X (v := (1 : Int32)) dL_law_1361 (by decide) ?_
  refine g_iadd X dL_law_1362 ?_
  obtain ⟨b351, h⟩ := chk_s h
  refine g_sld X hX hbl hbA (i := (x5 + (1 : Int32))) (inB_vp b351) dL_law_1363 ?_
  refine g_aload_n X 1 (i0 := 0) dL_law_1364 rfl rfl ?_
  refine g_iload X 6 dL_law_1365 rfl ?_
  refine g_iconst X (v := (2 : Int32)) dL_law_1367 (by decide) ?_
  refine g_iadd X dL_law_1368 ?_
  obtain ⟨b352, h⟩ := chk_s h
  refine g_sld X hX hbl hbA (i := (x5 + (2 : Int32))) (inB_vp b352) dL_law_1369 ?_
  obtain ⟨r355, D354, e353, h⟩ := cI_s h
  refine g_Vk X (As := [.int (xs (x5 + (1 : Int32)).toNatClampNeg), .int (xs (x5 + (2 : Int32)).toNatClampNeg)]) (rest := []) (c_X13_setPrice l G E (xs (x5 + (1 : Int32)).toNatClampNeg) (xs (x5 + (2 : Int32)).toNatClampNeg) _ _ e353) 84 (wg_84 E _) rfl rfl kv_L_221 ⟨rfl, rfl⟩ ⟨rfl, hd_X13_setPrice⟩ (⟨Nat.le_of_ble_eq_true rfl, Nat.le_of_ble_eq_true rfl⟩) hk1 rfl rfl (Nat.le_of_ble_eq_true rfl) dL_law_1370 ?_
  refine g_istore X (lv' := [(7, .int r355), (6, .int r350), (0, .ref b), (1, .ref (E.1 0)), (2, .ref (E.1 84)), (3, .ref (E.1 99)), (4, .ref (E.1 100)), (5, .int x5)]) dL_law_1373 (by decide) rfl ?_
  refine g_aload_n X 4 (i0 := 2) dL_law_1375 rfl rfl ?_
  obtain ⟨r358, D357, e356, h⟩ := cI_s h
  refine g_Vk X (As := []) (rest := []) (c_X13_thrown l G E  _ _ e356) 84 (wg_84 E _) rfl rfl kv_L_136 ⟨rfl, rfl⟩ ⟨rfl, hd_X13_thrown⟩ (⟨Nat.le_of_ble_eq_true rfl, Nat.le_of_ble_eq_true rfl⟩) hk1 rfl rfl (Nat.le_of_ble_eq_true rfl) dL_law_1376 ?_
  refine g_iload X 1 dL_law_1379 rfl ?_
  refine g_icmp_eq X (tgt := 1386) dL_law_1381 (by decide) (fun c361 => ?_) (fun c361 => ?_)
  · have h := (ite_s h).1 c361
    refine g_iload X 1 dL_law_1386 rfl ?_
    refine g_if_ne X (tgt := 1403) dL_law_1388 (by decide) (fun c360 => ?_) (fun c360 => ?_)
    · have h := (ite_s h).2 c360
      refine g_goto X (tgt := 2319) dL_law_1403 (by decide) ?_
      refine g_iinc X 7 (v := (x5 + (4 : Int32))) (lv' := [(5, .int (x5 + (4 : Int32))), (7, .int r355), (6, .int r350), (0, .ref b), (1, .ref (E.1 0)), (2, .ref (E.1 84)), (3, .ref (E.1 99)), (4, .ref (E.1 100))]) dL_law_2319 rfl rfl (by decide) rfl ?_
      refine g_goto X (tgt := 28) dL_law_2322 (by decide) ?_
      refine g_sub (lv' := [(0, .ref b), (1, .ref (E.1 0)), (2, .ref (E.1 84)), (3, .ref (E.1 99)), (4, .ref (E.1 100)), (5, .int (x5 + (4 : Int32)))]) [3, 4, 5, 6, 7, 0] rfl ?_
      exact h1 _ (Option.some.inj h).symm
    · have h := (ite_s h).1 c360
      refine g_aload_n X 5 (i0 := 3) dL_law_1391 rfl rfl ?_
      refine g_iconst X (v := (0 : Int32)) dL_law_1392 (by decide) ?_
      refine g_lald X (D := D357) (f := (D357.2.2.2.1 0)) (i := (0 : Int32)) 99 (wg_99 E _) (inB_vp (by decide)) dL_law_1393 ?_
      refine g_iload X 0 dL_law_1394 rfl ?_
      refine g_i2l X dL_law_1396 ?_
      refine g_lcmp X dL_law_1397 ?_
      refine g_if_eq X (tgt := 1403) dL_law_1398 (by decide) (fun c359 => ?_) (fun c359 => ?_)
      · have h := (ite_s h).1 c359
        refine g_goto X (tgt := 2319) dL_law_1403 (by decide) ?_
        refine g_iinc X 7 (v := (x5 + (4 : Int32))) (lv' := [(5, .int (x5 + (4 : Int32))), (7, .int r355), (6, .int r350), (0, .ref b), (1, .ref (E.1 0)), (2, .ref (E.1 84)), (3, .ref (E.1 99)), (4, .ref (E.1 100))]) dL_law_2319 rfl rfl (by decide) rfl ?_
        refine g_goto X (tgt := 28) dL_law_2322 (by decide) ?_
        refine g_sub (lv' := [(0, .ref b), (1, .ref (E.1 0)), (2, .ref (E.1 84)), (3, .ref (E.1 99)), (4, .ref (E.1 100)), (5, .int (x5 + (4 : Int32)))]) [3, 4, 5, 6, 7, 0] rfl ?_
        exact h1 _ (Option.some.inj h).symm
      · have h := (ite_s h).2 c359
        refine g_iconst X (v := (0 : Int32)) dL_law_1401 (by decide) ?_
        exact g_lawret l X hr hE (by omega) (by omega) dL_law_1402 (h2 _ (Option.some.inj h).symm)
  · have h := (ite_s h).2 c361
    refine g_iconst X (v := (0 : Int32)) dL_law_1384 (by decide) ?_
    exact g_lawret l X hr hE (by omega) (by omega) dL_law_1385 (h2 _ (Option.some.inj h).symm)
set_option maxRecDepth 100000 in
set_option maxHeartbeats 8000000 in
theorem bl_law_26 {p : Program} {l : Launch} {e : Env} {s : State} {m : MethodId} {b Ln : Nat} {xs : Nat → Int32} {below : List Frame} {meth : Method} {c : Code} {G : va_G} {E : EE} (X : CX p s m #[Value.ref b] meth c code RL 10 G E) (hfl : l.stackTraces = false) (hr : meth.sig.returnType = ret) (hX : va_X b Ln xs s s.heap) (hbl : b < s.heap.size) (hbA : ¬ fr E s.heap.size b) (hE : ∀ k, k < 101 → s.heap.size ≤ E.1 k) (K S : Nat) (hK : K + 1 ≤ 603072) (hS : S + 6 ≤ 7194730) (x5 : Int32) (D : DD) (o : (Nat × Int32 × DD) ⊕ Int32) (h : b_law_26 xs Ln x5 D = some o) (h1 : ∀ x, o = .inl x → hg_law p l e s m b below meth c G E (K + 1) (S + 6) x.1 x.2.1 x.2.2) (h2 : ∀ x, o = .inr x → x = 1) : GW p l e room_1 s m #[Value.ref b] below meth c G E 10 (lw_Z below #[Value.ref b] s) K S D 1406 [(0, .ref b), (1, .ref (E.1 0)), (2, .ref (E.1 84)), (3, .ref (E.1 99)), (4, .ref (E.1 100)), (5, .int x5)] [] := by
  have hk0 : K + 0 ≤ room_1.cells ∧ S + 0 ≤ room_1.slots := ⟨by show K + 0 ≤ 603072; omega, by show S + 0 ≤ 7194730; omega⟩
  have hk1 : (K + 1) + 0 ≤ room_1.cells ∧ (S + 6) + 0 ≤ room_1.slots := ⟨by show K + 1 + 0 ≤ 603072; omega, by show S + 6 + 0 ≤ 7194730; omega⟩
  have hkw : K + 1 ≤ room_1.cells ∧ S + 6 ≤ room_1.slots := ⟨hK, hS⟩
  unfold b_law_26 at h
  refine g_aload_n X 1 (i0 := 1) dL_law_1406 rfl rfl ?_
  refine g_aload_n X 0 (i0 := 0) dL_law_1407 rfl rfl ?_
  refine g_iload X 5 dL_law_1408 rfl ?_
  refine g_iconst X (v := (1 : Int32)) dL_law_1410 (by decide) ?_
  refine g_iadd X dL_law_1411 ?_
  obtain ⟨b362, h⟩ := chk_s h
  refine g_sld X hX hbl hbA (i := (x5 + (1 : Int32))) (inB_vp b362) dL_law_1412 ?_
  refine g_aload_n X 3 (i0 := 3) dL_law_1413 rfl rfl ?_
  obtain ⟨r365, D364, e363, h⟩ := cI_s h
  refine g_SWk X (As := [.ref (E.1 0), .int (xs (x5 + (1 : Int32)).toNatClampNeg), .ref (E.1 99)]) (rest := []) (c_L_priceOf l hfl G E (xs (x5 + (1 : Int32)).toNatClampNeg) _ _ e363) kw_L_222 ⟨rfl, rfl⟩ hd_L_priceOf (⟨Nat.le_of_ble_eq_true rfl, Nat.le_of_ble_eq_true rfl⟩) hkw rfl rfl (Nat.le_of_ble_eq_true rfl) dL_law_1414 ?_
  refine g_istore X (lv' := [(6, .int r365), (0, .ref b), (1, .ref (E.1 0)), (2, .ref (E.1 84)), (3, .ref (E.1 99)), (4, .ref (E.1 100)), (5, .int x5)]) dL_law_1417 (by decide) rfl ?_
  refine g_aload_n X 3 (i0 := 2) dL_law_1419 rfl rfl ?_
  refine g_aload_n X 1 (i0 := 0) dL_law_1420 rfl rfl ?_
  refine g_iload X 6 dL_law_1421 rfl ?_
  refine g_iconst X (v := (1 : Int32)) dL_law_1423 (by decide) ?_
  refine g_iadd X dL_law_1424 ?_
  obtain ⟨b366, h⟩ := chk_s h
  refine g_sld X hX hbl hbA (i := (x5 + (1 : Int32))) (inB_vp b366) dL_law_1425 ?_
  obtain ⟨r369, D368, e367, h⟩ := cI_s h
  refine g_Vk X (As := [.int (xs (x5 + (1 : Int32)).toNatClampNeg)]) (rest := []) (c_X13_priceOf l G E (xs (x5 + (1 : Int32)).toNatClampNeg) _ _ e367) 84 (wg_84 E _) rfl rfl kv_L_224 ⟨rfl, rfl⟩ ⟨rfl, hd_X13_priceOf⟩ (⟨Nat.le_of_ble_eq_true rfl, Nat.le_of_ble_eq_true rfl⟩) hk1 rfl rfl (Nat.le_of_ble_eq_true rfl) dL_law_1426 ?_
  refine g_istore X (lv' := [(7, .int r369), (6, .int r365), (0, .ref b), (1, .ref (E.1 0)), (2, .ref (E.1 84)), (3, .ref (E.1 99)), (4, .ref (E.1 100)), (5, .int x5)]) dL_law_1429 (by decide) rfl ?_
  refine g_aload_n X 4 (i0 := 2) dL_law_1431 rfl rfl ?_
  obtain ⟨r372, D371, e370, h⟩ := cI_s h
  refine g_Vk X (As := []) (rest := []) (c_X13_thrown l G E  _ _ e370) 84 (wg_84 E _) rfl rfl kv_L_136 ⟨rfl, rfl⟩ ⟨rfl, hd_X13_thrown⟩ (⟨Nat.le_of_ble_eq_true rfl, Nat.le_of_ble_eq_true rfl⟩) hk1 rfl rfl (Nat.le_of_ble_eq_true rfl) dL_law_1432 ?_
  refine g_iload X 1 dL_law_1435 rfl ?_
  refine g_icmp_eq X (tgt := 1442) dL_law_1437 (by decide) (fun c375 => ?_) (fun c375 => ?_)
  · have h := (ite_s h).1 c375
    refine g_iload X 1 dL_law_1442 rfl ?_
    refine g_if_ne X (tgt := 1459) dL_law_1444 (by decide) (fun c374 => ?_) (fun c374 => ?_)
    · have h := (ite_s h).2 c374
      refine g_goto X (tgt := 2319) dL_law_1459 (by decide) ?_
      refine g_iinc X 7 (v := (x5 + (4 : Int32))) (lv' := [(5, .int (x5 + (4 : Int32))), (7, .int r369), (6, .int r365), (0, .ref b), (1, .ref (E.1 0)), (2, .ref (E.1 84)), (3, .ref (E.1 99)), (4, .ref (E.1 100))]) dL_law_2319 rfl rfl (by decide) rfl ?_
      refine g_goto X (tgt := 28) dL_law_2322 (by decide) ?_
      refine g_sub (lv' := [(0, .ref b), (1, .ref (E.1 0)), (2, .ref (E.1 84)), (3, .ref (E.1 99)), (4, .ref (E.1 100)), (5, .int (x5 + (4 : Int32)))]) [3, 4, 5, 6, 7, 0] rfl ?_
      exact h1 _ (Option.some.inj h).symm
    · have h := (ite_s h).1 c374
      refine g_aload_n X 5 (i0 := 3) dL_law_1447 rfl rfl ?_
      refine g_iconst X (v := (0 : Int32)) dL_law_1448 (by decide) ?_
      refine g_lald X (D := D371) (f := (D371.2.2.2.1 0)) (i := (0 : Int32)) 99 (wg_99 E _) (inB_vp (by decide)) dL_law_1449 ?_
      refine g_iload X 0 dL_law_1450 rfl ?_
      refine g_i2l X dL_law_1452 ?_
      refine g_lcmp X dL_law_1453 ?_
      refine g_if_eq X (tgt := 1459) dL_law_1454 (by decide) (fun c373 => ?_) (fun c373 => ?_)
      · have h := (ite_s h).1 c373
        refine g_goto X (tgt := 2319) dL_law_1459 (by decide) ?_
        refine g_iinc X 7 (v := (x5 + (4 : Int32))) (lv' := [(5, .int (x5 + (4 : Int32))), (7, .int r369), (6, .int r365), (0, .ref b), (1, .ref (E.1 0)), (2, .ref (E.1 84)), (3, .ref (E.1 99)), (4, .ref (E.1 100))]) dL_law_2319 rfl rfl (by decide) rfl ?_
        refine g_goto X (tgt := 28) dL_law_2322 (by decide) ?_
        refine g_sub (lv' := [(0, .ref b), (1, .ref (E.1 0)), (2, .ref (E.1 84)), (3, .ref (E.1 99)), (4, .ref (E.1 100)), (5, .int (x5 + (4 : Int32)))]) [3, 4, 5, 6, 7, 0] rfl ?_
        exact h1 _ (Option.some.inj h).symm
      · have h := (ite_s h).2 c373
        refine g_iconst X (v := (0 : Int32)) dL_law_1457 (by decide) ?_
        exact g_lawret l X hr hE (by omega) (by omega) dL_law_1458 (h2 _ (Option.some.inj h).symm)
  · have h := (ite_s h).2 c375
    refine g_iconst X (v := (0 : Int32)) dL_law_1440 (by decide) ?_
    exact g_lawret l X hr hE (by omega) (by omega) dL_law_1441 (h2 _ (Option.some.inj h).symm)
set_option maxRecDepth 100000 in
set_option maxHeartbeats 8000000 in
theorem bl_law_27 {p : Program} {l : Launch} {e : Env} {s : State} {m : MethodId} {b Ln : Nat} {xs : Nat → Int32} {below : List Frame} {meth : Method} {c : Code} {G : va_G} {E : EE} (X : CX p s m #[Value.ref b] meth c code RL 10 G E) (hfl : l.stackTraces = false) (hr : meth.sig.returnType = ret) (hX : va_X b Ln xs s s.heap) (hbl : b < s.heap.size) (hbA : ¬ fr E s.heap.size b) (hE : ∀ k, k < 101 → s.heap.size ≤ E.1 k) (K S : Nat) (hK : K + 1 ≤ 603072) (hS : S + 6 ≤ 7194730) (x5 : Int32) (D : DD) (o : (Nat × Int32 × DD) ⊕ Int32) (h : b_law_27 xs Ln x5 D = some o) (h1 : ∀ x, o = .inl x → hg_law p l e s m b below meth c G E (K + 1) (S + 6) x.1 x.2.1 x.2.2) (h2 : ∀ x, o = .inr x → x = 1) : GW p l e room_1 s m #[Value.ref b] below meth c G E 10 (lw_Z below #[Value.ref b] s) K S D 1462 [(0, .ref b), (1, .ref (E.1 0)), (2, .ref (E.1 84)), (3, .ref (E.1 99)), (4, .ref (E.1 100)), (5, .int x5)] [] := by
  have hk0 : K + 0 ≤ room_1.cells ∧ S + 0 ≤ room_1.slots := ⟨by show K + 0 ≤ 603072; omega, by show S + 0 ≤ 7194730; omega⟩
  have hk1 : (K + 1) + 0 ≤ room_1.cells ∧ (S + 6) + 0 ≤ room_1.slots := ⟨by show K + 1 + 0 ≤ 603072; omega, by show S + 6 + 0 ≤ 7194730; omega⟩
  have hkw : K + 1 ≤ room_1.cells ∧ S + 6 ≤ room_1.slots := ⟨hK, hS⟩
  unfold b_law_27 at h
  refine g_aload_n X 1 (i0 := 1) dL_law_1462 rfl rfl ?_
  refine g_aload_n X 0 (i0 := 0) dL_law_1463 rfl rfl ?_
  refine g_iload X 5 dL_law_1464 rfl ?_
  refine g_iconst X (v := (1 : Int32)) dL_law_1466 (by decide) ?_
  refine g_iadd X dL_law_1467 ?_
  obtain ⟨b376, h⟩ := chk_s h
  refine g_sld X hX hbl hbA (i := (x5 + (1 : Int32))) (inB_vp b376) dL_law_1468 ?_
  refine g_aload_n X 3 (i0 := 3) dL_law_1469 rfl rfl ?_
  obtain ⟨r379, D378, e377, h⟩ := cI_s h
  refine g_SWk X (As := [.ref (E.1 0), .int (xs (x5 + (1 : Int32)).toNatClampNeg), .ref (E.1 99)]) (rest := []) (c_L_bestCut l hfl G E (xs (x5 + (1 : Int32)).toNatClampNeg) _ _ e377) kw_L_225 ⟨rfl, rfl⟩ hd_L_bestCut (⟨Nat.le_of_ble_eq_true rfl, Nat.le_of_ble_eq_true rfl⟩) hkw rfl rfl (Nat.le_of_ble_eq_true rfl) dL_law_1470 ?_
  refine g_istore X (lv' := [(6, .int r379), (0, .ref b), (1, .ref (E.1 0)), (2, .ref (E.1 84)), (3, .ref (E.1 99)), (4, .ref (E.1 100)), (5, .int x5)]) dL_law_1473 (by decide) rfl ?_
  refine g_aload_n X 3 (i0 := 2) dL_law_1475 rfl rfl ?_
  refine g_aload_n X 1 (i0 := 0) dL_law_1476 rfl rfl ?_
  refine g_iload X 6 dL_law_1477 rfl ?_
  refine g_iconst X (v := (1 : Int32)) dL_law_1479 (by decide) ?_
  refine g_iadd X dL_law_1480 ?_
  obtain ⟨b380, h⟩ := chk_s h
  refine g_sld X hX hbl hbA (i := (x5 + (1 : Int32))) (inB_vp b380) dL_law_1481 ?_
  obtain ⟨r383, D382, e381, h⟩ := cI_s h
  refine g_Vk X (As := [.int (xs (x5 + (1 : Int32)).toNatClampNeg)]) (rest := []) (c_X13_bestCut l G E (xs (x5 + (1 : Int32)).toNatClampNeg) _ _ e381) 84 (wg_84 E _) rfl rfl kv_L_227 ⟨rfl, rfl⟩ ⟨rfl, hd_X13_bestCut⟩ (⟨Nat.le_of_ble_eq_true rfl, Nat.le_of_ble_eq_true rfl⟩) hk1 rfl rfl (Nat.le_of_ble_eq_true rfl) dL_law_1482 ?_
  refine g_istore X (lv' := [(7, .int r383), (6, .int r379), (0, .ref b), (1, .ref (E.1 0)), (2, .ref (E.1 84)), (3, .ref (E.1 99)), (4, .ref (E.1 100)), (5, .int x5)]) dL_law_1485 (by decide) rfl ?_
  refine g_aload_n X 4 (i0 := 2) dL_law_1487 rfl rfl ?_
  obtain ⟨r386, D385, e384, h⟩ := cI_s h
  refine g_Vk X (As := []) (rest := []) (c_X13_thrown l G E  _ _ e384) 84 (wg_84 E _) rfl rfl kv_L_136 ⟨rfl, rfl⟩ ⟨rfl, hd_X13_thrown⟩ (⟨Nat.le_of_ble_eq_true rfl, Nat.le_of_ble_eq_true rfl⟩) hk1 rfl rfl (Nat.le_of_ble_eq_true rfl) dL_law_1488 ?_
  refine g_iload X 1 dL_law_1491 rfl ?_
  refine g_icmp_eq X (tgt := 1498) dL_law_1493 (by decide) (fun c389 => ?_) (fun c389 => ?_)
  · have h := (ite_s h).1 c389
    refine g_iload X 1 dL_law_1498 rfl ?_
    refine g_if_ne X (tgt := 1515) dL_law_1500 (by decide) (fun c388 => ?_) (fun c388 => ?_)
    · have h := (ite_s h).2 c388
      refine g_goto X (tgt := 2319) dL_law_1515 (by decide) ?_
      refine g_iinc X 7 (v := (x5 + (4 : Int32))) (lv' := [(5, .int (x5 + (4 : Int32))), (7, .int r383), (6, .int r379), (0, .ref b), (1, .ref (E.1 0)), (2, .ref (E.1 84)), (3, .ref (E.1 99)), (4, .ref (E.1 100))]) dL_law_2319 rfl rfl (by decide) rfl ?_
      refine g_goto X (tgt := 28) dL_law_2322 (by decide) ?_
      refine g_sub (lv' := [(0, .ref b), (1, .ref (E.1 0)), (2, .ref (E.1 84)), (3, .ref (E.1 99)), (4, .ref (E.1 100)), (5, .int (x5 + (4 : Int32)))]) [3, 4, 5, 6, 7, 0] rfl ?_
      exact h1 _ (Option.some.inj h).symm
    · have h := (ite_s h).1 c388
      refine g_aload_n X 5 (i0 := 3) dL_law_1503 rfl rfl ?_
      refine g_iconst X (v := (0 : Int32)) dL_law_1504 (by decide) ?_
      refine g_lald X (D := D385) (f := (D385.2.2.2.1 0)) (i := (0 : Int32)) 99 (wg_99 E _) (inB_vp (by decide)) dL_law_1505 ?_
      refine g_iload X 0 dL_law_1506 rfl ?_
      refine g_i2l X dL_law_1508 ?_
      refine g_lcmp X dL_law_1509 ?_
      refine g_if_eq X (tgt := 1515) dL_law_1510 (by decide) (fun c387 => ?_) (fun c387 => ?_)
      · have h := (ite_s h).1 c387
        refine g_goto X (tgt := 2319) dL_law_1515 (by decide) ?_
        refine g_iinc X 7 (v := (x5 + (4 : Int32))) (lv' := [(5, .int (x5 + (4 : Int32))), (7, .int r383), (6, .int r379), (0, .ref b), (1, .ref (E.1 0)), (2, .ref (E.1 84)), (3, .ref (E.1 99)), (4, .ref (E.1 100))]) dL_law_2319 rfl rfl (by decide) rfl ?_
        refine g_goto X (tgt := 28) dL_law_2322 (by decide) ?_
        refine g_sub (lv' := [(0, .ref b), (1, .ref (E.1 0)), (2, .ref (E.1 84)), (3, .ref (E.1 99)), (4, .ref (E.1 100)), (5, .int (x5 + (4 : Int32)))]) [3, 4, 5, 6, 7, 0] rfl ?_
        exact h1 _ (Option.some.inj h).symm
      · have h := (ite_s h).2 c387
        refine g_iconst X (v := (0 : Int32)) dL_law_1513 (by decide) ?_
        exact g_lawret l X hr hE (by omega) (by omega) dL_law_1514 (h2 _ (Option.some.inj h).symm)
  · have h := (ite_s h).2 c389
    refine g_iconst X (v := (0 : Int32)) dL_law_1496 (by decide) ?_
    exact g_lawret l X hr hE (by omega) (by omega) dL_law_1497 (h2 _ (Option.some.inj h).symm)
set_option maxRecDepth 100000 in
set_option maxHeartbeats 8000000 in
theorem bl_law_28 {p : Program} {l : Launch} {e : Env} {s : State} {m : MethodId} {b Ln : Nat} {xs : Nat → Int32} {below : List Frame} {meth : Method} {c : Code} {G : va_G} {E : EE} (X : CX p s m #[Value.ref b] meth c code RL 10 G E) (hfl : l.stackTraces = false) (hr : meth.sig.returnType = ret) (hX : va_X b Ln xs s s.heap) (hbl : b < s.heap.size) (hbA : ¬ fr E s.heap.size b) (hE : ∀ k, k < 101 → s.heap.size ≤ E.1 k) (K S : Nat) (hK : K + 1 ≤ 603072) (hS : S + 6 ≤ 7194730) (x5 : Int32) (D : DD) (o : (Nat × Int32 × DD) ⊕ Int32) (h : b_law_28 xs Ln x5 D = some o) (h1 : ∀ x, o = .inl x → hg_law p l e s m b below meth c G E (K + 1) (S + 6) x.1 x.2.1 x.2.2) (h2 : ∀ x, o = .inr x → x = 1) : GW p l e room_1 s m #[Value.ref b] below meth c G E 10 (lw_Z below #[Value.ref b] s) K S D 1518 [(0, .ref b), (1, .ref (E.1 0)), (2, .ref (E.1 84)), (3, .ref (E.1 99)), (4, .ref (E.1 100)), (5, .int x5)] [] := by
  have hk0 : K + 0 ≤ room_1.cells ∧ S + 0 ≤ room_1.slots := ⟨by show K + 0 ≤ 603072; omega, by show S + 0 ≤ 7194730; omega⟩
  have hk1 : (K + 1) + 0 ≤ room_1.cells ∧ (S + 6) + 0 ≤ room_1.slots := ⟨by show K + 1 + 0 ≤ 603072; omega, by show S + 6 + 0 ≤ 7194730; omega⟩
  have hkw : K + 1 ≤ room_1.cells ∧ S + 6 ≤ room_1.slots := ⟨hK, hS⟩
  unfold b_law_28 at h
  refine g_aload_n X 1 (i0 := 1) dL_law_1518 rfl rfl ?_
  refine g_aload_n X 0 (i0 := 0) dL_law_1519 rfl rfl ?_
  refine g_iload X 5 dL_law_1520 rfl ?_
  refine g_iconst X (v := (1 : Int32)) dL_law_1522 (by decide) ?_
  refine g_iadd X dL_law_1523 ?_
  obtain ⟨b390, h⟩ := chk_s h
  refine g_sld X hX hbl hbA (i := (x5 + (1 : Int32))) (inB_vp b390) dL_law_1524 ?_
  refine g_aload_n X 3 (i0 := 3) dL_law_1525 rfl rfl ?_
  obtain ⟨r393, D392, e391, h⟩ := cI_s h
  refine g_SWk X (As := [.ref (E.1 0), .int (xs (x5 + (1 : Int32)).toNatClampNeg), .ref (E.1 99)]) (rest := []) (c_L_bestCutByTrial l hfl G E (xs (x5 + (1 : Int32)).toNatClampNeg) _ _ e391) kw_L_228 ⟨rfl, rfl⟩ hd_L_bestCutByTrial (⟨Nat.le_of_ble_eq_true rfl, Nat.le_of_ble_eq_true rfl⟩) hkw rfl rfl (Nat.le_of_ble_eq_true rfl) dL_law_1526 ?_
  refine g_istore X (lv' := [(6, .int r393), (0, .ref b), (1, .ref (E.1 0)), (2, .ref (E.1 84)), (3, .ref (E.1 99)), (4, .ref (E.1 100)), (5, .int x5)]) dL_law_1529 (by decide) rfl ?_
  refine g_aload_n X 3 (i0 := 2) dL_law_1531 rfl rfl ?_
  refine g_aload_n X 1 (i0 := 0) dL_law_1532 rfl rfl ?_
  refine g_iload X 6 dL_law_1533 rfl ?_
  refine g_iconst X (v := (1 : Int32)) dL_law_1535 (by decide) ?_
  refine g_iadd X dL_law_1536 ?_
  obtain ⟨b394, h⟩ := chk_s h
  refine g_sld X hX hbl hbA (i := (x5 + (1 : Int32))) (inB_vp b394) dL_law_1537 ?_
  obtain ⟨r397, D396, e395, h⟩ := cI_s h
  refine g_Vk X (As := [.int (xs (x5 + (1 : Int32)).toNatClampNeg)]) (rest := []) (c_X13_bestCutByTrial l G E (xs (x5 + (1 : Int32)).toNatClampNeg) _ _ e395) 84 (wg_84 E _) rfl rfl kv_L_230 ⟨rfl, rfl⟩ ⟨rfl, hd_X13_bestCutByTrial⟩ (⟨Nat.le_of_ble_eq_true rfl, Nat.le_of_ble_eq_true rfl⟩) hk1 rfl rfl (Nat.le_of_ble_eq_true rfl) dL_law_1538 ?_
  refine g_istore X (lv' := [(7, .int r397), (6, .int r393), (0, .ref b), (1, .ref (E.1 0)), (2, .ref (E.1 84)), (3, .ref (E.1 99)), (4, .ref (E.1 100)), (5, .int x5)]) dL_law_1541 (by decide) rfl ?_
  refine g_aload_n X 4 (i0 := 2) dL_law_1543 rfl rfl ?_
  obtain ⟨r400, D399, e398, h⟩ := cI_s h
  refine g_Vk X (As := []) (rest := []) (c_X13_thrown l G E  _ _ e398) 84 (wg_84 E _) rfl rfl kv_L_136 ⟨rfl, rfl⟩ ⟨rfl, hd_X13_thrown⟩ (⟨Nat.le_of_ble_eq_true rfl, Nat.le_of_ble_eq_true rfl⟩) hk1 rfl rfl (Nat.le_of_ble_eq_true rfl) dL_law_1544 ?_
  refine g_iload X 1 dL_law_1547 rfl ?_
  refine g_icmp_eq X (tgt := 1554) dL_law_1549 (by decide) (fun c403 => ?_) (fun c403 => ?_)
  · have h := (ite_s h).1 c403
    refine g_iload X 1 dL_law_1554 rfl ?_
    refine g_if_ne X (tgt := 1571) dL_law_1556 (by decide) (fun c402 => ?_) (fun c402 => ?_)
    · have h := (ite_s h).2 c402
      refine g_goto X (tgt := 2319) dL_law_1571 (by decide) ?_
      refine g_iinc X 7 (v := (x5 + (4 : Int32))) (lv' := [(5, .int (x5 + (4 : Int32))), (7, .int r397), (6, .int r393), (0, .ref b), (1, .ref (E.1 0)), (2, .ref (E.1 84)), (3, .ref (E.1 99)), (4, .ref (E.1 100))]) dL_law_2319 rfl rfl (by decide) rfl ?_
      refine g_goto X (tgt := 28) dL_law_2322 (by decide) ?_
      refine g_sub (lv' := [(0, .ref b), (1, .ref (E.1 0)), (2, .ref (E.1 84)), (3, .ref (E.1 99)), (4, .ref (E.1 100)), (5, .int (x5 + (4 : Int32)))]) [3, 4, 5, 6, 7, 0] rfl ?_
      exact h1 _ (Option.some.inj h).symm
    · have h := (ite_s h).1 c402
      refine g_aload_n X 5 (i0 := 3) dL_law_1559 rfl rfl ?_
      refine g_iconst X (v := (0 : Int32)) dL_law_1560 (by decide) ?_
      refine g_lald X (D := D399) (f := (D399.2.2.2.1 0)) (i := (0 : Int32)) 99 (wg_99 E _) (inB_vp (by decide)) dL_law_1561 ?_
      refine g_iload X 0 dL_law_1562 rfl ?_
      refine g_i2l X dL_law_1564 ?_
      refine g_lcmp X dL_law_1565 ?_
      refine g_if_eq X (tgt := 1571) dL_law_1566 (by decide) (fun c401 => ?_) (fun c401 => ?_)
      · have h := (ite_s h).1 c401
        refine g_goto X (tgt := 2319) dL_law_1571 (by decide) ?_
        refine g_iinc X 7 (v := (x5 + (4 : Int32))) (lv' := [(5, .int (x5 + (4 : Int32))), (7, .int r397), (6, .int r393), (0, .ref b), (1, .ref (E.1 0)), (2, .ref (E.1 84)), (3, .ref (E.1 99)), (4, .ref (E.1 100))]) dL_law_2319 rfl rfl (by decide) rfl ?_
        refine g_goto X (tgt := 28) dL_law_2322 (by decide) ?_
        refine g_sub (lv' := [(0, .ref b), (1, .ref (E.1 0)), (2, .ref (E.1 84)), (3, .ref (E.1 99)), (4, .ref (E.1 100)), (5, .int (x5 + (4 : Int32)))]) [3, 4, 5, 6, 7, 0] rfl ?_
        exact h1 _ (Option.some.inj h).symm
      · have h := (ite_s h).2 c401
        refine g_iconst X (v := (0 : Int32)) dL_law_1569 (by decide) ?_
        exact g_lawret l X hr hE (by omega) (by omega) dL_law_1570 (h2 _ (Option.some.inj h).symm)
  · have h := (ite_s h).2 c403
    refine g_iconst X (v := (0 : Int32)) dL_law_1552 (by decide) ?_
    exact g_lawret l X hr hE (by omega) (by omega) dL_law_1553 (h2 _ (Option.some.inj h).symm)
set_option maxRecDepth 100000 in
set_option maxHeartbeats 8000000 in
theorem bl_law_29 {p : Program} {l : Launch} {e : Env} {s : State} {m : MethodId} {b Ln : Nat} {xs : Nat → Int32} {below : List Frame} {meth : Method} {c : Code} {G : va_G} {E : EE} (X : CX p s m #[Value.ref b] meth c code RL 10 G E) (hfl : l.stackTraces = false) (hr : meth.sig.returnType = ret) (hX : va_X b Ln xs s s.heap) (hbl : b < s.heap.size) (hbA : ¬ fr E s.heap.size b) (hE : ∀ k, k < 101 → s.heap.size ≤ E.1 k) (K S : Nat) (hK : K + 1 ≤ 603072) (hS : S + 6 ≤ 7194730) (x5 : Int32) (D : DD) (o : (Nat × Int32 × DD) ⊕ Int32) (h : b_law_29 xs Ln x5 D = some o) (h1 : ∀ x, o = .inl x → hg_law p l e s m b below meth c G E (K + 1) (S + 6) x.1 x.2.1 x.2.2) (h2 : ∀ x, o = .inr x → x = 1) : GW p l e room_1 s m #[Value.ref b] below meth c G E 10 (lw_Z below #[Value.ref b] s) K S D 1574 [(0, .ref b), (1, .ref (E.1 0)), (2, .ref (E.1 84)), (3, .ref (E.1 99)), (4, .ref (E.1 100)), (5, .int x5)] [] := by
  have hk0 : K + 0 ≤ room_1.cells ∧ S + 0 ≤ room_1.slots := ⟨by show K + 0 ≤ 603072; omega, by show S + 0 ≤ 7194730; omega⟩
  have hk1 : (K + 1) + 0 ≤ room_1.cells ∧ (S + 6) + 0 ≤ room_1.slots := ⟨by show K + 1 + 0 ≤ 603072; omega, by show S + 6 + 0 ≤ 7194730; omega⟩
  have hkw : K + 1 ≤ room_1.cells ∧ S + 6 ≤ room_1.slots := ⟨hK, hS⟩
  unfold b_law_29 at h
  refine g_aload_n X 1 (i0 := 1) dL_law_1574 rfl rfl ?_
  refine g_aload_n X 0 (i0 := 0) dL_law_1575 rfl rfl ?_
  refine g_iload X 5 dL_law_1576 rfl ?_
  refine g_iconst X (v := (1 : Int32)) dL_law_1578 (by decide) ?_
  refine g_iadd X dL_law_1579 ?_
  obtain ⟨b404, h⟩ := chk_s h
  refine g_sld X hX hbl hbA (i := (x5 + (1 : Int32))) (inB_vp b404) dL_law_1580 ?_
  refine g_aload_n X 3 (i0 := 3) dL_law_1581 rfl rfl ?_
  obtain ⟨r407, D406, e405, h⟩ := cI_s h
  refine g_SWk X (As := [.ref (E.1 0), .int (xs (x5 + (1 : Int32)).toNatClampNeg), .ref (E.1 99)]) (rest := []) (c_L_fewestPieces l hfl G E (xs (x5 + (1 : Int32)).toNatClampNeg) _ _ e405) kw_L_231 ⟨rfl, rfl⟩ hd_L_fewestPieces (⟨Nat.le_of_ble_eq_true rfl, Nat.le_of_ble_eq_true rfl⟩) hkw rfl rfl (Nat.le_of_ble_eq_true rfl) dL_law_1582 ?_
  refine g_istore X (lv' := [(6, .int r407), (0, .ref b), (1, .ref (E.1 0)), (2, .ref (E.1 84)), (3, .ref (E.1 99)), (4, .ref (E.1 100)), (5, .int x5)]) dL_law_1585 (by decide) rfl ?_
  refine g_aload_n X 3 (i0 := 2) dL_law_1587 rfl rfl ?_
  refine g_aload_n X 1 (i0 := 0) dL_law_1588 rfl rfl ?_
  refine g_iload X 6 dL_law_1589 rfl ?_
  refine g_iconst X (v := (1 : Int32)) dL_law_1591 (by decide) ?_
  refine g_iadd X dL_law_1592 ?_
  obtain ⟨b408, h⟩ := chk_s h
  refine g_sld X hX hbl hbA (i := (x5 + (1 : Int32))) (inB_vp b408) dL_law_1593 ?_
  obtain ⟨r411, D410, e409, h⟩ := cI_s h
  refine g_Vk X (As := [.int (xs (x5 + (1 : Int32)).toNatClampNeg)]) (rest := []) (c_X13_fewestPieces l G E (xs (x5 + (1 : Int32)).toNatClampNeg) _ _ e409) 84 (wg_84 E _) rfl rfl kv_L_233 ⟨rfl, rfl⟩ ⟨rfl, hd_X13_fewestPieces⟩ (⟨Nat.le_of_ble_eq_true rfl, Nat.le_of_ble_eq_true rfl⟩) hk1 rfl rfl (Nat.le_of_ble_eq_true rfl) dL_law_1594 ?_
  refine g_istore X (lv' := [(7, .int r411), (6, .int r407), (0, .ref b), (1, .ref (E.1 0)), (2, .ref (E.1 84)), (3, .ref (E.1 99)), (4, .ref (E.1 100)), (5, .int x5)]) dL_law_1597 (by decide) rfl ?_
  refine g_aload_n X 4 (i0 := 2) dL_law_1599 rfl rfl ?_
  obtain ⟨r414, D413, e412, h⟩ := cI_s h
  refine g_Vk X (As := []) (rest := []) (c_X13_thrown l G E  _ _ e412) 84 (wg_84 E _) rfl rfl kv_L_136 ⟨rfl, rfl⟩ ⟨rfl, hd_X13_thrown⟩ (⟨Nat.le_of_ble_eq_true rfl, Nat.le_of_ble_eq_true rfl⟩) hk1 rfl rfl (Nat.le_of_ble_eq_true rfl) dL_law_1600 ?_
  refine g_iload X 1 dL_law_1603 rfl ?_
  refine g_icmp_eq X (tgt := 1610) dL_law_1605 (by decide) (fun c417 => ?_) (fun c417 => ?_)
  · have h := (ite_s h).1 c417
    refine g_iload X 1 dL_law_1610 rfl ?_
    refine g_if_ne X (tgt := 1627) dL_law_1612 (by decide) (fun c416 => ?_) (fun c416 => ?_)
    · have h := (ite_s h).2 c416
      refine g_goto X (tgt := 2319) dL_law_1627 (by decide) ?_
      refine g_iinc X 7 (v := (x5 + (4 : Int32))) (lv' := [(5, .int (x5 + (4 : Int32))), (7, .int r411), (6, .int r407), (0, .ref b), (1, .ref (E.1 0)), (2, .ref (E.1 84)), (3, .ref (E.1 99)), (4, .ref (E.1 100))]) dL_law_2319 rfl rfl (by decide) rfl ?_
      refine g_goto X (tgt := 28) dL_law_2322 (by decide) ?_
      refine g_sub (lv' := [(0, .ref b), (1, .ref (E.1 0)), (2, .ref (E.1 84)), (3, .ref (E.1 99)), (4, .ref (E.1 100)), (5, .int (x5 + (4 : Int32)))]) [3, 4, 5, 6, 7, 0] rfl ?_
      exact h1 _ (Option.some.inj h).symm
    · have h := (ite_s h).1 c416
      refine g_aload_n X 5 (i0 := 3) dL_law_1615 rfl rfl ?_
      refine g_iconst X (v := (0 : Int32)) dL_law_1616 (by decide) ?_
      refine g_lald X (D := D413) (f := (D413.2.2.2.1 0)) (i := (0 : Int32)) 99 (wg_99 E _) (inB_vp (by decide)) dL_law_1617 ?_
      refine g_iload X 0 dL_law_1618 rfl ?_
      refine g_i2l X dL_law_1620 ?_
      refine g_lcmp X dL_law_1621 ?_
      refine g_if_eq X (tgt := 1627) dL_law_1622 (by decide) (fun c415 => ?_) (fun c415 => ?_)
      · have h := (ite_s h).1 c415
        refine g_goto X (tgt := 2319) dL_law_1627 (by decide) ?_
        refine g_iinc X 7 (v := (x5 + (4 : Int32))) (lv' := [(5, .int (x5 + (4 : Int32))), (7, .int r411), (6, .int r407), (0, .ref b), (1, .ref (E.1 0)), (2, .ref (E.1 84)), (3, .ref (E.1 99)), (4, .ref (E.1 100))]) dL_law_2319 rfl rfl (by decide) rfl ?_
        refine g_goto X (tgt := 28) dL_law_2322 (by decide) ?_
        refine g_sub (lv' := [(0, .ref b), (1, .ref (E.1 0)), (2, .ref (E.1 84)), (3, .ref (E.1 99)), (4, .ref (E.1 100)), (5, .int (x5 + (4 : Int32)))]) [3, 4, 5, 6, 7, 0] rfl ?_
        exact h1 _ (Option.some.inj h).symm
      · have h := (ite_s h).2 c415
        refine g_iconst X (v := (0 : Int32)) dL_law_1625 (by decide) ?_
        exact g_lawret l X hr hE (by omega) (by omega) dL_law_1626 (h2 _ (Option.some.inj h).symm)
  · have h := (ite_s h).2 c417
    refine g_iconst X (v := (0 : Int32)) dL_law_1608 (by decide) ?_
    exact g_lawret l X hr hE (by omega) (by omega) dL_law_1609 (h2 _ (Option.some.inj h).symm)
set_option maxRecDepth 100000 in
set_option maxHeartbeats 8000000 in
theorem bl_law_30 {p : Program} {l : Launch} {e : Env} {s : State} {m : MethodId} {b Ln : Nat} {xs : Nat → Int32} {below : List Frame} {meth : Method} {c : Code} {G : va_G} {E : EE} (X : CX p s m #[Value.ref b] meth c code RL 10 G E) (hfl : l.stackTraces = false) (hr : meth.sig.returnType = ret) (hX : va_X b Ln xs s s.heap) (hbl : b < s.heap.size) (hbA : ¬ fr E s.heap.size b) (hE : ∀ k, k < 101 → s.heap.size ≤ E.1 k) (K S : Nat) (hK : K + 1 ≤ 603072) (hS : S + 6 ≤ 7194730) (x5 : Int32) (D : DD) (o : (Nat × Int32 × DD) ⊕ Int32) (h : b_law_30 xs Ln x5 D = some o) (h1 : ∀ x, o = .inl x → hg_law p l e s m b below meth c G E (K + 1) (S + 6) x.1 x.2.1 x.2.2) (h2 : ∀ x, o = .inr x → x = 1) : GW p l e room_1 s m #[Value.ref b] below meth c G E 10 (lw_Z below #[Value.ref b] s) K S D 1630 [(0, .ref b), (1, .ref (E.1 0)), (2, .ref (E.1 84)), (3, .ref (E.1 99)), (4, .ref (E.1 100)), (5, .int x5)] [] := by
  have hk0 : K + 0 ≤ room_1.cells ∧ S + 0 ≤ room_1.slots := ⟨by show K + 0 ≤ 603072; omega, by show S + 0 ≤ 7194730; omega⟩
  have hk1 : (K + 1) + 0 ≤ room_1.cells ∧ (S + 6) + 0 ≤ room_1.slots := ⟨by show K + 1 + 0 ≤ 603072; omega, by show S + 6 + 0 ≤ 7194730; omega⟩
  have hkw : K + 1 ≤ room_1.cells ∧ S + 6 ≤ room_1.slots := ⟨hK, hS⟩
  unfold b_law_30 at h
  refine g_aload_n X 1 (i0 := 1) dL_law_1630 rfl rfl ?_
  refine g_aload_n X 0 (i0 := 0) dL_law_1631 rfl rfl ?_
  refine g_iload X 5 dL_law_1632 rfl ?_
  refine g_iconst X (v := (1 : Int32)) dL_law_1634 (by decide) ?_
  refine g_iadd X dL_law_1635 ?_
  obtain ⟨b418, h⟩ := chk_s h
  refine g_sld X hX hbl hbA (i := (x5 + (1 : Int32))) (inB_vp b418) dL_law_1636 ?_
  refine g_aload_n X 3 (i0 := 3) dL_law_1637 rfl rfl ?_
  obtain ⟨r421, D420, e419, h⟩ := cI_s h
  refine g_SWk X (As := [.ref (E.1 0), .int (xs (x5 + (1 : Int32)).toNatClampNeg), .ref (E.1 99)]) (rest := []) (c_L_sell l hfl G E (xs (x5 + (1 : Int32)).toNatClampNeg) _ _ e419) kw_L_234 ⟨rfl, rfl⟩ hd_L_sell (⟨Nat.le_of_ble_eq_true rfl, Nat.le_of_ble_eq_true rfl⟩) hkw rfl rfl (Nat.le_of_ble_eq_true rfl) dL_law_1638 ?_
  refine g_istore X (lv' := [(6, .int r421), (0, .ref b), (1, .ref (E.1 0)), (2, .ref (E.1 84)), (3, .ref (E.1 99)), (4, .ref (E.1 100)), (5, .int x5)]) dL_law_1641 (by decide) rfl ?_
  refine g_aload_n X 3 (i0 := 2) dL_law_1643 rfl rfl ?_
  refine g_aload_n X 1 (i0 := 0) dL_law_1644 rfl rfl ?_
  refine g_iload X 6 dL_law_1645 rfl ?_
  refine g_iconst X (v := (1 : Int32)) dL_law_1647 (by decide) ?_
  refine g_iadd X dL_law_1648 ?_
  obtain ⟨b422, h⟩ := chk_s h
  refine g_sld X hX hbl hbA (i := (x5 + (1 : Int32))) (inB_vp b422) dL_law_1649 ?_
  obtain ⟨r425, D424, e423, h⟩ := cI_s h
  refine g_Vk X (As := [.int (xs (x5 + (1 : Int32)).toNatClampNeg)]) (rest := []) (c_X13_sell l G E (xs (x5 + (1 : Int32)).toNatClampNeg) _ _ e423) 84 (wg_84 E _) rfl rfl kv_L_236 ⟨rfl, rfl⟩ ⟨rfl, hd_X13_sell⟩ (⟨Nat.le_of_ble_eq_true rfl, Nat.le_of_ble_eq_true rfl⟩) hk1 rfl rfl (Nat.le_of_ble_eq_true rfl) dL_law_1650 ?_
  refine g_istore X (lv' := [(7, .int r425), (6, .int r421), (0, .ref b), (1, .ref (E.1 0)), (2, .ref (E.1 84)), (3, .ref (E.1 99)), (4, .ref (E.1 100)), (5, .int x5)]) dL_law_1653 (by decide) rfl ?_
  refine g_aload_n X 4 (i0 := 2) dL_law_1655 rfl rfl ?_
  obtain ⟨r428, D427, e426, h⟩ := cI_s h
  refine g_Vk X (As := []) (rest := []) (c_X13_thrown l G E  _ _ e426) 84 (wg_84 E _) rfl rfl kv_L_136 ⟨rfl, rfl⟩ ⟨rfl, hd_X13_thrown⟩ (⟨Nat.le_of_ble_eq_true rfl, Nat.le_of_ble_eq_true rfl⟩) hk1 rfl rfl (Nat.le_of_ble_eq_true rfl) dL_law_1656 ?_
  refine g_iload X 1 dL_law_1659 rfl ?_
  refine g_icmp_eq X (tgt := 1666) dL_law_1661 (by decide) (fun c431 => ?_) (fun c431 => ?_)
  · have h := (ite_s h).1 c431
    refine g_iload X 1 dL_law_1666 rfl ?_
    refine g_if_ne X (tgt := 1683) dL_law_1668 (by decide) (fun c430 => ?_) (fun c430 => ?_)
    · have h := (ite_s h).2 c430
      refine g_goto X (tgt := 2319) dL_law_1683 (by decide) ?_
      refine g_iinc X 7 (v := (x5 + (4 : Int32))) (lv' := [(5, .int (x5 + (4 : Int32))), (7, .int r425), (6, .int r421), (0, .ref b), (1, .ref (E.1 0)), (2, .ref (E.1 84)), (3, .ref (E.1 99)), (4, .ref (E.1 100))]) dL_law_2319 rfl rfl (by decide) rfl ?_
      refine g_goto X (tgt := 28) dL_law_2322 (by decide) ?_
      refine g_sub (lv' := [(0, .ref b), (1, .ref (E.1 0)), (2, .ref (E.1 84)), (3, .ref (E.1 99)), (4, .ref (E.1 100)), (5, .int (x5 + (4 : Int32)))]) [3, 4, 5, 6, 7, 0] rfl ?_
      exact h1 _ (Option.some.inj h).symm
    · have h := (ite_s h).1 c430
      refine g_aload_n X 5 (i0 := 3) dL_law_1671 rfl rfl ?_
      refine g_iconst X (v := (0 : Int32)) dL_law_1672 (by decide) ?_
      refine g_lald X (D := D427) (f := (D427.2.2.2.1 0)) (i := (0 : Int32)) 99 (wg_99 E _) (inB_vp (by decide)) dL_law_1673 ?_
      refine g_iload X 0 dL_law_1674 rfl ?_
      refine g_i2l X dL_law_1676 ?_
      refine g_lcmp X dL_law_1677 ?_
      refine g_if_eq X (tgt := 1683) dL_law_1678 (by decide) (fun c429 => ?_) (fun c429 => ?_)
      · have h := (ite_s h).1 c429
        refine g_goto X (tgt := 2319) dL_law_1683 (by decide) ?_
        refine g_iinc X 7 (v := (x5 + (4 : Int32))) (lv' := [(5, .int (x5 + (4 : Int32))), (7, .int r425), (6, .int r421), (0, .ref b), (1, .ref (E.1 0)), (2, .ref (E.1 84)), (3, .ref (E.1 99)), (4, .ref (E.1 100))]) dL_law_2319 rfl rfl (by decide) rfl ?_
        refine g_goto X (tgt := 28) dL_law_2322 (by decide) ?_
        refine g_sub (lv' := [(0, .ref b), (1, .ref (E.1 0)), (2, .ref (E.1 84)), (3, .ref (E.1 99)), (4, .ref (E.1 100)), (5, .int (x5 + (4 : Int32)))]) [3, 4, 5, 6, 7, 0] rfl ?_
        exact h1 _ (Option.some.inj h).symm
      · have h := (ite_s h).2 c429
        refine g_iconst X (v := (0 : Int32)) dL_law_1681 (by decide) ?_
        exact g_lawret l X hr hE (by omega) (by omega) dL_law_1682 (h2 _ (Option.some.inj h).symm)
  · have h := (ite_s h).2 c431
    refine g_iconst X (v := (0 : Int32)) dL_law_1664 (by decide) ?_
    exact g_lawret l X hr hE (by omega) (by omega) dL_law_1665 (h2 _ (Option.some.inj h).symm)
set_option maxRecDepth 100000 in
set_option maxHeartbeats 8000000 in
theorem bl_law_31 {p : Program} {l : Launch} {e : Env} {s : State} {m : MethodId} {b Ln : Nat} {xs : Nat → Int32} {below : List Frame} {meth : Method} {c : Code} {G : va_G} {E : EE} (X : CX p s m #[Value.ref b] meth c code RL 10 G E) (hfl : l.stackTraces = false) (hr : meth.sig.returnType = ret) (hX : va_X b Ln xs s s.heap) (hbl : b < s.heap.size) (hbA : ¬ fr E s.heap.size b) (hE : ∀ k, k < 101 → s.heap.size ≤ E.1 k) (K S : Nat) (hK : K + 1 ≤ 603072) (hS : S + 6 ≤ 7194730) (x5 : Int32) (D : DD) (o : (Nat × Int32 × DD) ⊕ Int32) (h : b_law_31 xs Ln x5 D = some o) (h1 : ∀ x, o = .inl x → hg_law p l e s m b below meth c G E (K + 1) (S + 6) x.1 x.2.1 x.2.2) (h2 : ∀ x, o = .inr x → x = 1) : GW p l e room_1 s m #[Value.ref b] below meth c G E 10 (lw_Z below #[Value.ref b] s) K S D 1686 [(0, .ref b), (1, .ref (E.1 0)), (2, .ref (E.1 84)), (3, .ref (E.1 99)), (4, .ref (E.1 100)), (5, .int x5)] [] := by
  have hk0 : K + 0 ≤ room_1.cells ∧ S + 0 ≤ room_1.slots := ⟨by show K + 0 ≤ 603072; omega, by show S + 0 ≤ 7194730; omega⟩
  have hk1 : (K + 1) + 0 ≤ room_1.cells ∧ (S + 6) + 0 ≤ room_1.slots := ⟨by show K + 1 + 0 ≤ 603072; omega, by show S + 6 + 0 ≤ 7194730; omega⟩
  have hkw : K + 1 ≤ room_1.cells ∧ S + 6 ≤ room_1.slots := ⟨hK, hS⟩
  unfold b_law_31 at h
  refine g_aload_n X 1 (i0 := 1) dL_law_1686 rfl rfl ?_
  obtain ⟨r434, D433, e432, h⟩ := cI_s h
  refine g_Vk X (As := []) (rest := []) (c_X12_stone l G E  _ _ e432) 0 (wg_0 E _) rfl rfl kv_L_237 ⟨rfl, rfl⟩ ⟨rfl, hd_X12_stone⟩ (⟨Nat.le_of_ble_eq_true rfl, Nat.le_of_ble_eq_true rfl⟩) hk0 rfl rfl (Nat.le_of_ble_eq_true rfl) dL_law_1687 ?_
  refine g_aload_n X 2 (i0 := 2) dL_law_1690 rfl rfl ?_
  obtain ⟨r437, D436, e435, h⟩ := cI_s h
  refine g_Vk X (As := []) (rest := [.int r434]) (c_X13_stone l G E  _ _ e435) 84 (wg_84 E _) rfl rfl kv_L_240 ⟨rfl, rfl⟩ ⟨rfl, hd_X13_stone⟩ (⟨Nat.le_of_ble_eq_true rfl, Nat.le_of_ble_eq_true rfl⟩) hk0 rfl rfl (Nat.le_of_ble_eq_true rfl) dL_law_1691 ?_
  refine g_icmp_eq X (tgt := 2319) dL_law_1694 (by decide) (fun c438 => ?_) (fun c438 => ?_)
  · have h := (ite_s h).1 c438
    refine g_iinc X 5 (v := (x5 + (4 : Int32))) (lv' := [(5, .int (x5 + (4 : Int32))), (0, .ref b), (1, .ref (E.1 0)), (2, .ref (E.1 84)), (3, .ref (E.1 99)), (4, .ref (E.1 100))]) dL_law_2319 rfl rfl (by decide) rfl ?_
    refine g_goto X (tgt := 28) dL_law_2322 (by decide) ?_
    refine g_sub (lv' := [(0, .ref b), (1, .ref (E.1 0)), (2, .ref (E.1 84)), (3, .ref (E.1 99)), (4, .ref (E.1 100)), (5, .int (x5 + (4 : Int32)))]) [1, 2, 3, 4, 5, 0] rfl ?_
    refine g_widen (k2 := K + 1) (s2 := S + 6) (by omega) (by omega) ?_
    exact h1 _ (Option.some.inj h).symm
  · have h := (ite_s h).2 c438
    refine g_iconst X (v := (0 : Int32)) dL_law_1697 (by decide) ?_
    exact g_lawret l X hr hE (by omega) (by omega) dL_law_1698 (h2 _ (Option.some.inj h).symm)
set_option maxRecDepth 100000 in
set_option maxHeartbeats 8000000 in
theorem bl_law_32 {p : Program} {l : Launch} {e : Env} {s : State} {m : MethodId} {b Ln : Nat} {xs : Nat → Int32} {below : List Frame} {meth : Method} {c : Code} {G : va_G} {E : EE} (X : CX p s m #[Value.ref b] meth c code RL 10 G E) (hfl : l.stackTraces = false) (hr : meth.sig.returnType = ret) (hX : va_X b Ln xs s s.heap) (hbl : b < s.heap.size) (hbA : ¬ fr E s.heap.size b) (hE : ∀ k, k < 101 → s.heap.size ≤ E.1 k) (K S : Nat) (hK : K + 1 ≤ 603072) (hS : S + 6 ≤ 7194730) (x5 : Int32) (D : DD) (o : (Nat × Int32 × DD) ⊕ Int32) (h : b_law_32 xs Ln x5 D = some o) (h1 : ∀ x, o = .inl x → hg_law p l e s m b below meth c G E (K + 1) (S + 6) x.1 x.2.1 x.2.2) (h2 : ∀ x, o = .inr x → x = 1) : GW p l e room_1 s m #[Value.ref b] below meth c G E 10 (lw_Z below #[Value.ref b] s) K S D 1699 [(0, .ref b), (1, .ref (E.1 0)), (2, .ref (E.1 84)), (3, .ref (E.1 99)), (4, .ref (E.1 100)), (5, .int x5)] [] := by
  have hk0 : K + 0 ≤ room_1.cells ∧ S + 0 ≤ room_1.slots := ⟨by show K + 0 ≤ 603072; omega, by show S + 0 ≤ 7194730; omega⟩
  have hk1 : (K + 1) + 0 ≤ room_1.cells ∧ (S + 6) + 0 ≤ room_1.slots := ⟨by show K + 1 + 0 ≤ 603072; omega, by show S + 6 + 0 ≤ 7194730; omega⟩
  have hkw : K + 1 ≤ room_1.cells ∧ S + 6 ≤ room_1.slots := ⟨hK, hS⟩
  unfold b_law_32 at h
  refine g_aload_n X 1 (i0 := 1) dL_law_1699 rfl rfl ?_
  obtain ⟨r441, D440, e439, h⟩ := cI_s h
  refine g_Vk X (As := []) (rest := []) (c_X12_quarried l G E  _ _ e439) 0 (wg_0 E _) rfl rfl kv_L_241 ⟨rfl, rfl⟩ ⟨rfl, hd_X12_quarried⟩ (⟨Nat.le_of_ble_eq_true rfl, Nat.le_of_ble_eq_true rfl⟩) hk0 rfl rfl (Nat.le_of_ble_eq_true rfl) dL_law_1700 ?_
  refine g_aload_n X 2 (i0 := 2) dL_law_1703 rfl rfl ?_
  obtain ⟨r444, D443, e442, h⟩ := cI_s h
  refine g_Vk X (As := []) (rest := [.int r441]) (c_X13_quarried l G E  _ _ e442) 84 (wg_84 E _) rfl rfl kv_L_244 ⟨rfl, rfl⟩ ⟨rfl, hd_X13_quarried⟩ (⟨Nat.le_of_ble_eq_true rfl, Nat.le_of_ble_eq_true rfl⟩) hk0 rfl rfl (Nat.le_of_ble_eq_true rfl) dL_law_1704 ?_
  refine g_icmp_eq X (tgt := 2319) dL_law_1707 (by decide) (fun c445 => ?_) (fun c445 => ?_)
  · have h := (ite_s h).1 c445
    refine g_iinc X 5 (v := (x5 + (4 : Int32))) (lv' := [(5, .int (x5 + (4 : Int32))), (0, .ref b), (1, .ref (E.1 0)), (2, .ref (E.1 84)), (3, .ref (E.1 99)), (4, .ref (E.1 100))]) dL_law_2319 rfl rfl (by decide) rfl ?_
    refine g_goto X (tgt := 28) dL_law_2322 (by decide) ?_
    refine g_sub (lv' := [(0, .ref b), (1, .ref (E.1 0)), (2, .ref (E.1 84)), (3, .ref (E.1 99)), (4, .ref (E.1 100)), (5, .int (x5 + (4 : Int32)))]) [1, 2, 3, 4, 5, 0] rfl ?_
    refine g_widen (k2 := K + 1) (s2 := S + 6) (by omega) (by omega) ?_
    exact h1 _ (Option.some.inj h).symm
  · have h := (ite_s h).2 c445
    refine g_iconst X (v := (0 : Int32)) dL_law_1710 (by decide) ?_
    exact g_lawret l X hr hE (by omega) (by omega) dL_law_1711 (h2 _ (Option.some.inj h).symm)
set_option maxRecDepth 100000 in
set_option maxHeartbeats 8000000 in
theorem bl_law_33 {p : Program} {l : Launch} {e : Env} {s : State} {m : MethodId} {b Ln : Nat} {xs : Nat → Int32} {below : List Frame} {meth : Method} {c : Code} {G : va_G} {E : EE} (X : CX p s m #[Value.ref b] meth c code RL 10 G E) (hfl : l.stackTraces = false) (hr : meth.sig.returnType = ret) (hX : va_X b Ln xs s s.heap) (hbl : b < s.heap.size) (hbA : ¬ fr E s.heap.size b) (hE : ∀ k, k < 101 → s.heap.size ≤ E.1 k) (K S : Nat) (hK : K + 1 ≤ 603072) (hS : S + 6 ≤ 7194730) (x5 : Int32) (D : DD) (o : (Nat × Int32 × DD) ⊕ Int32) (h : b_law_33 xs Ln x5 D = some o) (h1 : ∀ x, o = .inl x → hg_law p l e s m b below meth c G E (K + 1) (S + 6) x.1 x.2.1 x.2.2) (h2 : ∀ x, o = .inr x → x = 1) : GW p l e room_1 s m #[Value.ref b] below meth c G E 10 (lw_Z below #[Value.ref b] s) K S D 1712 [(0, .ref b), (1, .ref (E.1 0)), (2, .ref (E.1 84)), (3, .ref (E.1 99)), (4, .ref (E.1 100)), (5, .int x5)] [] := by
  have hk0 : K + 0 ≤ room_1.cells ∧ S + 0 ≤ room_1.slots := ⟨by show K + 0 ≤ 603072; omega, by show S + 0 ≤ 7194730; omega⟩
  have hk1 : (K + 1) + 0 ≤ room_1.cells ∧ (S + 6) + 0 ≤ room_1.slots := ⟨by show K + 1 + 0 ≤ 603072; omega, by show S + 6 + 0 ≤ 7194730; omega⟩
  have hkw : K + 1 ≤ room_1.cells ∧ S + 6 ≤ room_1.slots := ⟨hK, hS⟩
  unfold b_law_33 at h
  refine g_aload_n X 1 (i0 := 1) dL_law_1712 rfl rfl ?_
  obtain ⟨r448, D447, e446, h⟩ := cI_s h
  refine g_Vk X (As := []) (rest := []) (c_X12_sold l G E  _ _ e446) 0 (wg_0 E _) rfl rfl kv_L_245 ⟨rfl, rfl⟩ ⟨rfl, hd_X12_sold⟩ (⟨Nat.le_of_ble_eq_true rfl, Nat.le_of_ble_eq_true rfl⟩) hk0 rfl rfl (Nat.le_of_ble_eq_true rfl) dL_law_1713 ?_
  refine g_aload_n X 2 (i0 := 2) dL_law_1716 rfl rfl ?_
  obtain ⟨r451, D450, e449, h⟩ := cI_s h
  refine g_Vk X (As := []) (rest := [.int r448]) (c_X13_sold l G E  _ _ e449) 84 (wg_84 E _) rfl rfl kv_L_248 ⟨rfl, rfl⟩ ⟨rfl, hd_X13_sold⟩ (⟨Nat.le_of_ble_eq_true rfl, Nat.le_of_ble_eq_true rfl⟩) hk0 rfl rfl (Nat.le_of_ble_eq_true rfl) dL_law_1717 ?_
  refine g_icmp_eq X (tgt := 2319) dL_law_1720 (by decide) (fun c452 => ?_) (fun c452 => ?_)
  · have h := (ite_s h).1 c452
    refine g_iinc X 5 (v := (x5 + (4 : Int32))) (lv' := [(5, .int (x5 + (4 : Int32))), (0, .ref b), (1, .ref (E.1 0)), (2, .ref (E.1 84)), (3, .ref (E.1 99)), (4, .ref (E.1 100))]) dL_law_2319 rfl rfl (by decide) rfl ?_
    refine g_goto X (tgt := 28) dL_law_2322 (by decide) ?_
    refine g_sub (lv' := [(0, .ref b), (1, .ref (E.1 0)), (2, .ref (E.1 84)), (3, .ref (E.1 99)), (4, .ref (E.1 100)), (5, .int (x5 + (4 : Int32)))]) [1, 2, 3, 4, 5, 0] rfl ?_
    refine g_widen (k2 := K + 1) (s2 := S + 6) (by omega) (by omega) ?_
    exact h1 _ (Option.some.inj h).symm
  · have h := (ite_s h).2 c452
    refine g_iconst X (v := (0 : Int32)) dL_law_1723 (by decide) ?_
    exact g_lawret l X hr hE (by omega) (by omega) dL_law_1724 (h2 _ (Option.some.inj h).symm)
set_option maxRecDepth 100000 in
set_option maxHeartbeats 8000000 in
theorem bl_law_34 {p : Program} {l : Launch} {e : Env} {s : State} {m : MethodId} {b Ln : Nat} {xs : Nat → Int32} {below : List Frame} {meth : Method} {c : Code} {G : va_G} {E : EE} (X : CX p s m #[Value.ref b] meth c code RL 10 G E) (hfl : l.stackTraces = false) (hr : meth.sig.returnType = ret) (hX : va_X b Ln xs s s.heap) (hbl : b < s.heap.size) (hbA : ¬ fr E s.heap.size b) (hE : ∀ k, k < 101 → s.heap.size ≤ E.1 k) (K S : Nat) (hK : K + 1 ≤ 603072) (hS : S + 6 ≤ 7194730) (x5 : Int32) (D : DD) (o : (Nat × Int32 × DD) ⊕ Int32) (h : b_law_34 xs Ln x5 D = some o) (h1 : ∀ x, o = .inl x → hg_law p l e s m b below meth c G E (K + 1) (S + 6) x.1 x.2.1 x.2.2) (h2 : ∀ x, o = .inr x → x = 1) : GW p l e room_1 s m #[Value.ref b] below meth c G E 10 (lw_Z below #[Value.ref b] s) K S D 1725 [(0, .ref b), (1, .ref (E.1 0)), (2, .ref (E.1 84)), (3, .ref (E.1 99)), (4, .ref (E.1 100)), (5, .int x5)] [] := by
  have hk0 : K + 0 ≤ room_1.cells ∧ S + 0 ≤ room_1.slots := ⟨by show K + 0 ≤ 603072; omega, by show S + 0 ≤ 7194730; omega⟩
  have hk1 : (K + 1) + 0 ≤ room_1.cells ∧ (S + 6) + 0 ≤ room_1.slots := ⟨by show K + 1 + 0 ≤ 603072; omega, by show S + 6 + 0 ≤ 7194730; omega⟩
  have hkw : K + 1 ≤ room_1.cells ∧ S + 6 ≤ room_1.slots := ⟨hK, hS⟩
  unfold b_law_34 at h
  refine g_aload_n X 1 (i0 := 1) dL_law_1725 rfl rfl ?_
  obtain ⟨r455, D454, e453, h⟩ := cL_s h
  refine g_Vk X (As := []) (rest := []) (c_X12_coins l G E  _ _ e453) 0 (wg_0 E _) rfl rfl kv_L_249 ⟨rfl, rfl⟩ ⟨rfl, hd_X12_coins⟩ (⟨Nat.le_of_ble_eq_true rfl, Nat.le_of_ble_eq_true rfl⟩) hk0 rfl rfl (Nat.le_of_ble_eq_true rfl) dL_law_1726 ?_
  refine g_aload_n X 2 (i0 := 2) dL_law_1729 rfl rfl ?_
  obtain ⟨r458, D457, e456, h⟩ := cL_s h
  refine g_Vk X (As := []) (rest := [.long r455]) (c_X13_coins l G E  _ _ e456) 84 (wg_84 E _) rfl rfl kv_L_253 ⟨rfl, rfl⟩ ⟨rfl, hd_X13_coins⟩ (⟨Nat.le_of_ble_eq_true rfl, Nat.le_of_ble_eq_true rfl⟩) hk0 rfl rfl (Nat.le_of_ble_eq_true rfl) dL_law_1730 ?_
  refine g_lcmp X dL_law_1733 ?_
  refine g_if_eq X (tgt := 2319) dL_law_1734 (by decide) (fun c459 => ?_) (fun c459 => ?_)
  · have h := (ite_s h).1 c459
    refine g_iinc X 5 (v := (x5 + (4 : Int32))) (lv' := [(5, .int (x5 + (4 : Int32))), (0, .ref b), (1, .ref (E.1 0)), (2, .ref (E.1 84)), (3, .ref (E.1 99)), (4, .ref (E.1 100))]) dL_law_2319 rfl rfl (by decide) rfl ?_
    refine g_goto X (tgt := 28) dL_law_2322 (by decide) ?_
    refine g_sub (lv' := [(0, .ref b), (1, .ref (E.1 0)), (2, .ref (E.1 84)), (3, .ref (E.1 99)), (4, .ref (E.1 100)), (5, .int (x5 + (4 : Int32)))]) [1, 2, 3, 4, 5, 0] rfl ?_
    refine g_widen (k2 := K + 1) (s2 := S + 6) (by omega) (by omega) ?_
    exact h1 _ (Option.some.inj h).symm
  · have h := (ite_s h).2 c459
    refine g_iconst X (v := (0 : Int32)) dL_law_1737 (by decide) ?_
    exact g_lawret l X hr hE (by omega) (by omega) dL_law_1738 (h2 _ (Option.some.inj h).symm)
set_option maxRecDepth 100000 in
set_option maxHeartbeats 8000000 in
theorem bl_law_35 {p : Program} {l : Launch} {e : Env} {s : State} {m : MethodId} {b Ln : Nat} {xs : Nat → Int32} {below : List Frame} {meth : Method} {c : Code} {G : va_G} {E : EE} (X : CX p s m #[Value.ref b] meth c code RL 10 G E) (hfl : l.stackTraces = false) (hr : meth.sig.returnType = ret) (hX : va_X b Ln xs s s.heap) (hbl : b < s.heap.size) (hbA : ¬ fr E s.heap.size b) (hE : ∀ k, k < 101 → s.heap.size ≤ E.1 k) (K S : Nat) (hK : K + 1 ≤ 603072) (hS : S + 6 ≤ 7194730) (x5 : Int32) (D : DD) (o : (Nat × Int32 × DD) ⊕ Int32) (h : b_law_35 xs Ln x5 D = some o) (h1 : ∀ x, o = .inl x → hg_law p l e s m b below meth c G E (K + 1) (S + 6) x.1 x.2.1 x.2.2) (h2 : ∀ x, o = .inr x → x = 1) : GW p l e room_1 s m #[Value.ref b] below meth c G E 10 (lw_Z below #[Value.ref b] s) K S D 1739 [(0, .ref b), (1, .ref (E.1 0)), (2, .ref (E.1 84)), (3, .ref (E.1 99)), (4, .ref (E.1 100)), (5, .int x5)] [] := by
  have hk0 : K + 0 ≤ room_1.cells ∧ S + 0 ≤ room_1.slots := ⟨by show K + 0 ≤ 603072; omega, by show S + 0 ≤ 7194730; omega⟩
  have hk1 : (K + 1) + 0 ≤ room_1.cells ∧ (S + 6) + 0 ≤ room_1.slots := ⟨by show K + 1 + 0 ≤ 603072; omega, by show S + 6 + 0 ≤ 7194730; omega⟩
  have hkw : K + 1 ≤ room_1.cells ∧ S + 6 ≤ room_1.slots := ⟨hK, hS⟩
  unfold b_law_35 at h
  refine g_aload_n X 1 (i0 := 1) dL_law_1739 rfl rfl ?_
  refine g_aload X 4 dL_law_1740 rfl ?_
  obtain ⟨r462, D461, e460, h⟩ := cI_s h
  refine g_SWk X (As := [.ref (E.1 0), .ref (E.1 100)]) (rest := []) (c_L_meanHardness l hfl G E  _ _ e460) kw_L_254 ⟨rfl, rfl⟩ hd_L_meanHardness (⟨Nat.le_of_ble_eq_true rfl, Nat.le_of_ble_eq_true rfl⟩) hkw rfl rfl (Nat.le_of_ble_eq_true rfl) dL_law_1742 ?_
  refine g_istore X (lv' := [(6, .int r462), (0, .ref b), (1, .ref (E.1 0)), (2, .ref (E.1 84)), (3, .ref (E.1 99)), (4, .ref (E.1 100)), (5, .int x5)]) dL_law_1745 (by decide) rfl ?_
  refine g_aload_n X 3 (i0 := 2) dL_law_1747 rfl rfl ?_
  obtain ⟨r465, D464, e463, h⟩ := cD_s h
  refine g_Vk X (As := []) (rest := []) (c_X13_meanHardness l G E  _ _ e463) 84 (wg_84 E _) rfl rfl kv_L_257 ⟨rfl, rfl⟩ ⟨rfl, hd_X13_meanHardness⟩ (⟨Nat.le_of_ble_eq_true rfl, Nat.le_of_ble_eq_true rfl⟩) hk1 rfl rfl (Nat.le_of_ble_eq_true rfl) dL_law_1748 ?_
  refine g_dstore X (lv' := [(7, .double r465), (6, .int r462), (0, .ref b), (1, .ref (E.1 0)), (2, .ref (E.1 84)), (3, .ref (E.1 99)), (4, .ref (E.1 100)), (5, .int x5)]) dL_law_1751 (by decide) rfl ?_
  refine g_aload_n X 4 (i0 := 2) dL_law_1753 rfl rfl ?_
  obtain ⟨r468, D467, e466, h⟩ := cI_s h
  refine g_Vk X (As := []) (rest := []) (c_X13_thrown l G E  _ _ e466) 84 (wg_84 E _) rfl rfl kv_L_136 ⟨rfl, rfl⟩ ⟨rfl, hd_X13_thrown⟩ (⟨Nat.le_of_ble_eq_true rfl, Nat.le_of_ble_eq_true rfl⟩) hk1 rfl rfl (Nat.le_of_ble_eq_true rfl) dL_law_1754 ?_
  refine g_iload X 1 dL_law_1757 rfl ?_
  refine g_icmp_eq X (tgt := 1764) dL_law_1759 (by decide) (fun c473 => ?_) (fun c473 => ?_)
  · have h := (ite_s h).1 c473
    refine g_iload X 1 dL_law_1764 rfl ?_
    refine g_if_ne X (tgt := 1801) dL_law_1766 (by decide) (fun c472 => ?_) (fun c472 => ?_)
    · have h := (ite_s h).2 c472
      refine g_goto X (tgt := 2319) dL_law_1801 (by decide) ?_
      refine g_iinc X 7 (v := (x5 + (4 : Int32))) (lv' := [(5, .int (x5 + (4 : Int32))), (7, .double r465), (6, .int r462), (0, .ref b), (1, .ref (E.1 0)), (2, .ref (E.1 84)), (3, .ref (E.1 99)), (4, .ref (E.1 100))]) dL_law_2319 rfl rfl (by decide) rfl ?_
      refine g_goto X (tgt := 28) dL_law_2322 (by decide) ?_
      refine g_sub (lv' := [(0, .ref b), (1, .ref (E.1 0)), (2, .ref (E.1 84)), (3, .ref (E.1 99)), (4, .ref (E.1 100)), (5, .int (x5 + (4 : Int32)))]) [3, 4, 5, 6, 7, 0] rfl ?_
      exact h1 _ (Option.some.inj h).symm
    · have h := (ite_s h).1 c472
      refine g_aload X 6 dL_law_1769 rfl ?_
      refine g_iconst X (v := (0 : Int32)) dL_law_1771 (by decide) ?_
      refine g_dald X (D := D467) (f := (D467.2.2.2.2.1 0)) (i := (0 : Int32)) 100 (wg_100 E _) (inB_vp (by decide)) dL_law_1772 ?_
      refine g_dload X 0 dL_law_1773 rfl ?_
      refine g_dcmp X dL_law_1775 ?_
      refine g_if_eq X (tgt := 1801) dL_law_1776 (by decide) (fun c471 => ?_) (fun c471 => ?_)
      · have h := (ite_s h).1 c471
        refine g_goto X (tgt := 2319) dL_law_1801 (by decide) ?_
        refine g_iinc X 7 (v := (x5 + (4 : Int32))) (lv' := [(5, .int (x5 + (4 : Int32))), (7, .double r465), (6, .int r462), (0, .ref b), (1, .ref (E.1 0)), (2, .ref (E.1 84)), (3, .ref (E.1 99)), (4, .ref (E.1 100))]) dL_law_2319 rfl rfl (by decide) rfl ?_
        refine g_goto X (tgt := 28) dL_law_2322 (by decide) ?_
        refine g_sub (lv' := [(0, .ref b), (1, .ref (E.1 0)), (2, .ref (E.1 84)), (3, .ref (E.1 99)), (4, .ref (E.1 100)), (5, .int (x5 + (4 : Int32)))]) [3, 4, 5, 6, 7, 0] rfl ?_
        exact h1 _ (Option.some.inj h).symm
      · have h := (ite_s h).2 c471
        refine g_aload X 6 dL_law_1779 rfl ?_
        refine g_iconst X (v := (0 : Int32)) dL_law_1781 (by decide) ?_
        refine g_dald X (D := D467) (f := (D467.2.2.2.2.1 0)) (i := (0 : Int32)) 100 (wg_100 E _) (inB_vp (by decide)) dL_law_1782 ?_
        refine g_aload X 6 dL_law_1783 rfl ?_
        refine g_iconst X (v := (0 : Int32)) dL_law_1785 (by decide) ?_
        refine g_dald X (D := D467) (f := (D467.2.2.2.2.1 0)) (i := (0 : Int32)) 100 (wg_100 E _) (inB_vp (by decide)) dL_law_1786 ?_
        refine g_dcmp X dL_law_1787 ?_
        refine g_if_eq X (tgt := 1799) dL_law_1788 (by decide) (fun c470 => ?_) (fun c470 => ?_)
        · have h := (ite_s h).1 c470
          refine g_iconst X (v := (0 : Int32)) dL_law_1799 (by decide) ?_
          exact g_lawret l X hr hE (by omega) (by omega) dL_law_1800 (h2 _ (Option.some.inj h).symm)
        · have h := (ite_s h).2 c470
          refine g_dload X 0 dL_law_1791 rfl ?_
          refine g_dload X 0 dL_law_1793 rfl ?_
          refine g_dcmp X dL_law_1795 ?_
          refine g_if_ne X (tgt := 1801) dL_law_1796 (by decide) (fun c469 => ?_) (fun c469 => ?_)
          · have h := (ite_s h).2 c469
            refine g_goto X (tgt := 2319) dL_law_1801 (by decide) ?_
            refine g_iinc X 7 (v := (x5 + (4 : Int32))) (lv' := [(5, .int (x5 + (4 : Int32))), (7, .double r465), (6, .int r462), (0, .ref b), (1, .ref (E.1 0)), (2, .ref (E.1 84)), (3, .ref (E.1 99)), (4, .ref (E.1 100))]) dL_law_2319 rfl rfl (by decide) rfl ?_
            refine g_goto X (tgt := 28) dL_law_2322 (by decide) ?_
            refine g_sub (lv' := [(0, .ref b), (1, .ref (E.1 0)), (2, .ref (E.1 84)), (3, .ref (E.1 99)), (4, .ref (E.1 100)), (5, .int (x5 + (4 : Int32)))]) [3, 4, 5, 6, 7, 0] rfl ?_
            exact h1 _ (Option.some.inj h).symm
          · have h := (ite_s h).1 c469
            refine g_iconst X (v := (0 : Int32)) dL_law_1799 (by decide) ?_
            exact g_lawret l X hr hE (by omega) (by omega) dL_law_1800 (h2 _ (Option.some.inj h).symm)
  · have h := (ite_s h).2 c473
    refine g_iconst X (v := (0 : Int32)) dL_law_1762 (by decide) ?_
    exact g_lawret l X hr hE (by omega) (by omega) dL_law_1763 (h2 _ (Option.some.inj h).symm)
set_option maxRecDepth 100000 in
set_option maxHeartbeats 8000000 in
theorem bl_law_36 {p : Program} {l : Launch} {e : Env} {s : State} {m : MethodId} {b Ln : Nat} {xs : Nat → Int32} {below : List Frame} {meth : Method} {c : Code} {G : va_G} {E : EE} (X : CX p s m #[Value.ref b] meth c code RL 10 G E) (hfl : l.stackTraces = false) (hr : meth.sig.returnType = ret) (hX : va_X b Ln xs s s.heap) (hbl : b < s.heap.size) (hbA : ¬ fr E s.heap.size b) (hE : ∀ k, k < 101 → s.heap.size ≤ E.1 k) (K S : Nat) (hK : K + 1 ≤ 603072) (hS : S + 6 ≤ 7194730) (x5 : Int32) (D : DD) (o : (Nat × Int32 × DD) ⊕ Int32) (h : b_law_36 xs Ln x5 D = some o) (h1 : ∀ x, o = .inl x → hg_law p l e s m b below meth c G E (K + 1) (S + 6) x.1 x.2.1 x.2.2) (h2 : ∀ x, o = .inr x → x = 1) : GW p l e room_1 s m #[Value.ref b] below meth c G E 10 (lw_Z below #[Value.ref b] s) K S D 1804 [(0, .ref b), (1, .ref (E.1 0)), (2, .ref (E.1 84)), (3, .ref (E.1 99)), (4, .ref (E.1 100)), (5, .int x5)] [] := by
  have hk0 : K + 0 ≤ room_1.cells ∧ S + 0 ≤ room_1.slots := ⟨by show K + 0 ≤ 603072; omega, by show S + 0 ≤ 7194730; omega⟩
  have hk1 : (K + 1) + 0 ≤ room_1.cells ∧ (S + 6) + 0 ≤ room_1.slots := ⟨by show K + 1 + 0 ≤ 603072; omega, by show S + 6 + 0 ≤ 7194730; omega⟩
  have hkw : K + 1 ≤ room_1.cells ∧ S + 6 ≤ room_1.slots := ⟨hK, hS⟩
  unfold b_law_36 at h
  refine g_aload_n X 1 (i0 := 1) dL_law_1804 rfl rfl ?_
  obtain ⟨r476, D475, e474, h⟩ := cF_s h
  refine g_Vk X (As := []) (rest := []) (c_X12_openShare l G E  _ _ e474) 0 (wg_0 E _) rfl rfl kv_L_258 ⟨rfl, rfl⟩ ⟨rfl, hd_X12_openShare⟩ (⟨Nat.le_of_ble_eq_true rfl, Nat.le_of_ble_eq_true rfl⟩) hk0 rfl rfl (Nat.le_of_ble_eq_true rfl) dL_law_1805 ?_
  obtain ⟨v477, h⟩ := chk_s h
  refine g_f2d X v477 dL_law_1808 ?_
  refine g_dstore X (lv' := [(6, .double (FP.f2d r476)), (0, .ref b), (1, .ref (E.1 0)), (2, .ref (E.1 84)), (3, .ref (E.1 99)), (4, .ref (E.1 100)), (5, .int x5)]) dL_law_1809 (by decide) rfl ?_
  refine g_aload_n X 3 (i0 := 2) dL_law_1811 rfl rfl ?_
  obtain ⟨r480, D479, e478, h⟩ := cF_s h
  refine g_Vk X (As := []) (rest := []) (c_X13_openShare l G E  _ _ e478) 84 (wg_84 E _) rfl rfl kv_L_262 ⟨rfl, rfl⟩ ⟨rfl, hd_X13_openShare⟩ (⟨Nat.le_of_ble_eq_true rfl, Nat.le_of_ble_eq_true rfl⟩) hk0 rfl rfl (Nat.le_of_ble_eq_true rfl) dL_law_1812 ?_
  obtain ⟨v481, h⟩ := chk_s h
  refine g_f2d X v481 dL_law_1815 ?_
  refine g_dstore X (lv' := [(8, .double (FP.f2d r480)), (6, .double (FP.f2d r476)), (0, .ref b), (1, .ref (E.1 0)), (2, .ref (E.1 84)), (3, .ref (E.1 99)), (4, .ref (E.1 100)), (5, .int x5)]) dL_law_1816 (by decide) rfl ?_
  refine g_dload X 1 dL_law_1818 rfl ?_
  refine g_dload X 0 dL_law_1820 rfl ?_
  refine g_dcmp X dL_law_1822 ?_
  refine g_if_eq X (tgt := 1844) dL_law_1823 (by decide) (fun c484 => ?_) (fun c484 => ?_)
  · have h := (ite_s h).1 c484
    refine g_goto X (tgt := 2319) dL_law_1844 (by decide) ?_
    refine g_iinc X 7 (v := (x5 + (4 : Int32))) (lv' := [(5, .int (x5 + (4 : Int32))), (8, .double (FP.f2d r480)), (6, .double (FP.f2d r476)), (0, .ref b), (1, .ref (E.1 0)), (2, .ref (E.1 84)), (3, .ref (E.1 99)), (4, .ref (E.1 100))]) dL_law_2319 rfl rfl (by decide) rfl ?_
    refine g_goto X (tgt := 28) dL_law_2322 (by decide) ?_
    refine g_sub (lv' := [(0, .ref b), (1, .ref (E.1 0)), (2, .ref (E.1 84)), (3, .ref (E.1 99)), (4, .ref (E.1 100)), (5, .int (x5 + (4 : Int32)))]) [3, 4, 5, 6, 7, 0] rfl ?_
    refine g_widen (k2 := K + 1) (s2 := S + 6) (by omega) (by omega) ?_
    exact h1 _ (Option.some.inj h).symm
  · have h := (ite_s h).2 c484
    refine g_dload X 1 dL_law_1826 rfl ?_
    refine g_dload X 1 dL_law_1828 rfl ?_
    refine g_dcmp X dL_law_1830 ?_
    refine g_if_eq X (tgt := 1842) dL_law_1831 (by decide) (fun c483 => ?_) (fun c483 => ?_)
    · have h := (ite_s h).1 c483
      refine g_iconst X (v := (0 : Int32)) dL_law_1842 (by decide) ?_
      exact g_lawret l X hr hE (by omega) (by omega) dL_law_1843 (h2 _ (Option.some.inj h).symm)
    · have h := (ite_s h).2 c483
      refine g_dload X 0 dL_law_1834 rfl ?_
      refine g_dload X 0 dL_law_1836 rfl ?_
      refine g_dcmp X dL_law_1838 ?_
      refine g_if_ne X (tgt := 1844) dL_law_1839 (by decide) (fun c482 => ?_) (fun c482 => ?_)
      · have h := (ite_s h).2 c482
        refine g_goto X (tgt := 2319) dL_law_1844 (by decide) ?_
        refine g_iinc X 7 (v := (x5 + (4 : Int32))) (lv' := [(5, .int (x5 + (4 : Int32))), (8, .double (FP.f2d r480)), (6, .double (FP.f2d r476)), (0, .ref b), (1, .ref (E.1 0)), (2, .ref (E.1 84)), (3, .ref (E.1 99)), (4, .ref (E.1 100))]) dL_law_2319 rfl rfl (by decide) rfl ?_
        refine g_goto X (tgt := 28) dL_law_2322 (by decide) ?_
        refine g_sub (lv' := [(0, .ref b), (1, .ref (E.1 0)), (2, .ref (E.1 84)), (3, .ref (E.1 99)), (4, .ref (E.1 100)), (5, .int (x5 + (4 : Int32)))]) [3, 4, 5, 6, 7, 0] rfl ?_
        refine g_widen (k2 := K + 1) (s2 := S + 6) (by omega) (by omega) ?_
        exact h1 _ (Option.some.inj h).symm
      · have h := (ite_s h).1 c482
        refine g_iconst X (v := (0 : Int32)) dL_law_1842 (by decide) ?_
        exact g_lawret l X hr hE (by omega) (by omega) dL_law_1843 (h2 _ (Option.some.inj h).symm)
set_option maxRecDepth 100000 in
set_option maxHeartbeats 8000000 in
theorem bl_law_37 {p : Program} {l : Launch} {e : Env} {s : State} {m : MethodId} {b Ln : Nat} {xs : Nat → Int32} {below : List Frame} {meth : Method} {c : Code} {G : va_G} {E : EE} (X : CX p s m #[Value.ref b] meth c code RL 10 G E) (hfl : l.stackTraces = false) (hr : meth.sig.returnType = ret) (hX : va_X b Ln xs s s.heap) (hbl : b < s.heap.size) (hbA : ¬ fr E s.heap.size b) (hE : ∀ k, k < 101 → s.heap.size ≤ E.1 k) (K S : Nat) (hK : K + 1 ≤ 603072) (hS : S + 6 ≤ 7194730) (x5 : Int32) (D : DD) (o : (Nat × Int32 × DD) ⊕ Int32) (h : b_law_37 xs Ln x5 D = some o) (h1 : ∀ x, o = .inl x → hg_law p l e s m b below meth c G E (K + 1) (S + 6) x.1 x.2.1 x.2.2) (h2 : ∀ x, o = .inr x → x = 1) : GW p l e room_1 s m #[Value.ref b] below meth c G E 10 (lw_Z below #[Value.ref b] s) K S D 1847 [(0, .ref b), (1, .ref (E.1 0)), (2, .ref (E.1 84)), (3, .ref (E.1 99)), (4, .ref (E.1 100)), (5, .int x5)] [] := by
  have hk0 : K + 0 ≤ room_1.cells ∧ S + 0 ≤ room_1.slots := ⟨by show K + 0 ≤ 603072; omega, by show S + 0 ≤ 7194730; omega⟩
  have hk1 : (K + 1) + 0 ≤ room_1.cells ∧ (S + 6) + 0 ≤ room_1.slots := ⟨by show K + 1 + 0 ≤ 603072; omega, by show S + 6 + 0 ≤ 7194730; omega⟩
  have hkw : K + 1 ≤ room_1.cells ∧ S + 6 ≤ room_1.slots := ⟨hK, hS⟩
  unfold b_law_37 at h
  refine g_aload_n X 1 (i0 := 1) dL_law_1847 rfl rfl ?_
  refine g_aload_n X 0 (i0 := 0) dL_law_1848 rfl rfl ?_
  refine g_iload X 5 dL_law_1849 rfl ?_
  refine g_iconst X (v := (1 : Int32)) dL_law_1851 (by decide) ?_
  refine g_iadd X dL_law_1852 ?_
  obtain ⟨b485, h⟩ := chk_s h
  refine g_sld X hX hbl hbA (i := (x5 + (1 : Int32))) (inB_vp b485) dL_law_1853 ?_
  refine g_aload_n X 3 (i0 := 3) dL_law_1854 rfl rfl ?_
  obtain ⟨r488, D487, e486, h⟩ := cI_s h
  refine g_SWk X (As := [.ref (E.1 0), .int (xs (x5 + (1 : Int32)).toNatClampNeg), .ref (E.1 99)]) (rest := []) (c_L_writeRow l hfl G E (xs (x5 + (1 : Int32)).toNatClampNeg) _ _ e486) kw_L_263 ⟨rfl, rfl⟩ hd_L_writeRow (⟨Nat.le_of_ble_eq_true rfl, Nat.le_of_ble_eq_true rfl⟩) hkw rfl rfl (Nat.le_of_ble_eq_true rfl) dL_law_1855 ?_
  refine g_istore X (lv' := [(6, .int r488), (0, .ref b), (1, .ref (E.1 0)), (2, .ref (E.1 84)), (3, .ref (E.1 99)), (4, .ref (E.1 100)), (5, .int x5)]) dL_law_1858 (by decide) rfl ?_
  refine g_aload_n X 3 (i0 := 2) dL_law_1860 rfl rfl ?_
  refine g_aload_n X 1 (i0 := 0) dL_law_1861 rfl rfl ?_
  refine g_iload X 6 dL_law_1862 rfl ?_
  refine g_iconst X (v := (1 : Int32)) dL_law_1864 (by decide) ?_
  refine g_iadd X dL_law_1865 ?_
  obtain ⟨b489, h⟩ := chk_s h
  refine g_sld X hX hbl hbA (i := (x5 + (1 : Int32))) (inB_vp b489) dL_law_1866 ?_
  obtain ⟨r492, D491, e490, h⟩ := cI_s h
  refine g_Vk X (As := [.int (xs (x5 + (1 : Int32)).toNatClampNeg)]) (rest := []) (c_X13_writeRow l G E (xs (x5 + (1 : Int32)).toNatClampNeg) _ _ e490) 84 (wg_84 E _) rfl rfl kv_L_265 ⟨rfl, rfl⟩ ⟨rfl, hd_X13_writeRow⟩ (⟨Nat.le_of_ble_eq_true rfl, Nat.le_of_ble_eq_true rfl⟩) hk1 rfl rfl (Nat.le_of_ble_eq_true rfl) dL_law_1867 ?_
  refine g_istore X (lv' := [(7, .int r492), (6, .int r488), (0, .ref b), (1, .ref (E.1 0)), (2, .ref (E.1 84)), (3, .ref (E.1 99)), (4, .ref (E.1 100)), (5, .int x5)]) dL_law_1870 (by decide) rfl ?_
  refine g_aload_n X 4 (i0 := 2) dL_law_1872 rfl rfl ?_
  obtain ⟨r495, D494, e493, h⟩ := cI_s h
  refine g_Vk X (As := []) (rest := []) (c_X13_thrown l G E  _ _ e493) 84 (wg_84 E _) rfl rfl kv_L_136 ⟨rfl, rfl⟩ ⟨rfl, hd_X13_thrown⟩ (⟨Nat.le_of_ble_eq_true rfl, Nat.le_of_ble_eq_true rfl⟩) hk1 rfl rfl (Nat.le_of_ble_eq_true rfl) dL_law_1873 ?_
  refine g_iload X 1 dL_law_1876 rfl ?_
  refine g_icmp_eq X (tgt := 1883) dL_law_1878 (by decide) (fun c498 => ?_) (fun c498 => ?_)
  · have h := (ite_s h).1 c498
    refine g_iload X 1 dL_law_1883 rfl ?_
    refine g_if_ne X (tgt := 1900) dL_law_1885 (by decide) (fun c497 => ?_) (fun c497 => ?_)
    · have h := (ite_s h).2 c497
      refine g_goto X (tgt := 2319) dL_law_1900 (by decide) ?_
      refine g_iinc X 7 (v := (x5 + (4 : Int32))) (lv' := [(5, .int (x5 + (4 : Int32))), (7, .int r492), (6, .int r488), (0, .ref b), (1, .ref (E.1 0)), (2, .ref (E.1 84)), (3, .ref (E.1 99)), (4, .ref (E.1 100))]) dL_law_2319 rfl rfl (by decide) rfl ?_
      refine g_goto X (tgt := 28) dL_law_2322 (by decide) ?_
      refine g_sub (lv' := [(0, .ref b), (1, .ref (E.1 0)), (2, .ref (E.1 84)), (3, .ref (E.1 99)), (4, .ref (E.1 100)), (5, .int (x5 + (4 : Int32)))]) [3, 4, 5, 6, 7, 0] rfl ?_
      exact h1 _ (Option.some.inj h).symm
    · have h := (ite_s h).1 c497
      refine g_aload_n X 5 (i0 := 3) dL_law_1888 rfl rfl ?_
      refine g_iconst X (v := (0 : Int32)) dL_law_1889 (by decide) ?_
      refine g_lald X (D := D494) (f := (D494.2.2.2.1 0)) (i := (0 : Int32)) 99 (wg_99 E _) (inB_vp (by decide)) dL_law_1890 ?_
      refine g_iload X 0 dL_law_1891 rfl ?_
      refine g_i2l X dL_law_1893 ?_
      refine g_lcmp X dL_law_1894 ?_
      refine g_if_eq X (tgt := 1900) dL_law_1895 (by decide) (fun c496 => ?_) (fun c496 => ?_)
      · have h := (ite_s h).1 c496
        refine g_goto X (tgt := 2319) dL_law_1900 (by decide) ?_
        refine g_iinc X 7 (v := (x5 + (4 : Int32))) (lv' := [(5, .int (x5 + (4 : Int32))), (7, .int r492), (6, .int r488), (0, .ref b), (1, .ref (E.1 0)), (2, .ref (E.1 84)), (3, .ref (E.1 99)), (4, .ref (E.1 100))]) dL_law_2319 rfl rfl (by decide) rfl ?_
        refine g_goto X (tgt := 28) dL_law_2322 (by decide) ?_
        refine g_sub (lv' := [(0, .ref b), (1, .ref (E.1 0)), (2, .ref (E.1 84)), (3, .ref (E.1 99)), (4, .ref (E.1 100)), (5, .int (x5 + (4 : Int32)))]) [3, 4, 5, 6, 7, 0] rfl ?_
        exact h1 _ (Option.some.inj h).symm
      · have h := (ite_s h).2 c496
        refine g_iconst X (v := (0 : Int32)) dL_law_1898 (by decide) ?_
        exact g_lawret l X hr hE (by omega) (by omega) dL_law_1899 (h2 _ (Option.some.inj h).symm)
  · have h := (ite_s h).2 c498
    refine g_iconst X (v := (0 : Int32)) dL_law_1881 (by decide) ?_
    exact g_lawret l X hr hE (by omega) (by omega) dL_law_1882 (h2 _ (Option.some.inj h).symm)
set_option maxRecDepth 100000 in
set_option maxHeartbeats 8000000 in
theorem bl_law_38 {p : Program} {l : Launch} {e : Env} {s : State} {m : MethodId} {b Ln : Nat} {xs : Nat → Int32} {below : List Frame} {meth : Method} {c : Code} {G : va_G} {E : EE} (X : CX p s m #[Value.ref b] meth c code RL 10 G E) (hfl : l.stackTraces = false) (hr : meth.sig.returnType = ret) (hX : va_X b Ln xs s s.heap) (hbl : b < s.heap.size) (hbA : ¬ fr E s.heap.size b) (hE : ∀ k, k < 101 → s.heap.size ≤ E.1 k) (K S : Nat) (hK : K + 1 ≤ 603072) (hS : S + 6 ≤ 7194730) (x5 : Int32) (D : DD) (o : (Nat × Int32 × DD) ⊕ Int32) (h : b_law_38 xs Ln x5 D = some o) (h1 : ∀ x, o = .inl x → hg_law p l e s m b below meth c G E (K + 1) (S + 6) x.1 x.2.1 x.2.2) (h2 : ∀ x, o = .inr x → x = 1) : GW p l e room_1 s m #[Value.ref b] below meth c G E 10 (lw_Z below #[Value.ref b] s) K S D 1903 [(0, .ref b), (1, .ref (E.1 0)), (2, .ref (E.1 84)), (3, .ref (E.1 99)), (4, .ref (E.1 100)), (5, .int x5)] [] := by
  have hk0 : K + 0 ≤ room_1.cells ∧ S + 0 ≤ room_1.slots := ⟨by show K + 0 ≤ 603072; omega, by show S + 0 ≤ 7194730; omega⟩
  have hk1 : (K + 1) + 0 ≤ room_1.cells ∧ (S + 6) + 0 ≤ room_1.slots := ⟨by show K + 1 + 0 ≤ 603072; omega, by show S + 6 + 0 ≤ 7194730; omega⟩
  have hkw : K + 1 ≤ room_1.cells ∧ S + 6 ≤ room_1.slots := ⟨hK, hS⟩
  unfold b_law_38 at h
  refine g_aload_n X 1 (i0 := 1) dL_law_1903 rfl rfl ?_
  refine g_aload_n X 0 (i0 := 0) dL_law_1904 rfl rfl ?_
  refine g_iload X 5 dL_law_1905 rfl ?_
  refine g_iconst X (v := (1 : Int32)) dL_law_1907 (by decide) ?_
  refine g_iadd X dL_law_1908 ?_
  obtain ⟨b499, h⟩ := chk_s h
  refine g_sld X hX hbl hbA (i := (x5 + (1 : Int32))) (inB_vp b499) dL_law_1909 ?_
  refine g_aload_n X 3 (i0 := 3) dL_law_1910 rfl rfl ?_
  obtain ⟨r502, D501, e500, h⟩ := cI_s h
  refine g_SWk X (As := [.ref (E.1 0), .int (xs (x5 + (1 : Int32)).toNatClampNeg), .ref (E.1 99)]) (rest := []) (c_L_writeCharge l hfl G E (xs (x5 + (1 : Int32)).toNatClampNeg) _ _ e500) kw_L_266 ⟨rfl, rfl⟩ hd_L_writeCharge (⟨Nat.le_of_ble_eq_true rfl, Nat.le_of_ble_eq_true rfl⟩) hkw rfl rfl (Nat.le_of_ble_eq_true rfl) dL_law_1911 ?_
  refine g_istore X (lv' := [(6, .int r502), (0, .ref b), (1, .ref (E.1 0)), (2, .ref (E.1 84)), (3, .ref (E.1 99)), (4, .ref (E.1 100)), (5, .int x5)]) dL_law_1914 (by decide) rfl ?_
  refine g_aload_n X 3 (i0 := 2) dL_law_1916 rfl rfl ?_
  refine g_aload_n X 1 (i0 := 0) dL_law_1917 rfl rfl ?_
  refine g_iload X 6 dL_law_1918 rfl ?_
  refine g_iconst X (v := (1 : Int32)) dL_law_1920 (by decide) ?_
  refine g_iadd X dL_law_1921 ?_
  obtain ⟨b503, h⟩ := chk_s h
  refine g_sld X hX hbl hbA (i := (x5 + (1 : Int32))) (inB_vp b503) dL_law_1922 ?_
  obtain ⟨r506, D505, e504, h⟩ := cI_s h
  refine g_Vk X (As := [.int (xs (x5 + (1 : Int32)).toNatClampNeg)]) (rest := []) (c_X13_writeCharge l G E (xs (x5 + (1 : Int32)).toNatClampNeg) _ _ e504) 84 (wg_84 E _) rfl rfl kv_L_268 ⟨rfl, rfl⟩ ⟨rfl, hd_X13_writeCharge⟩ (⟨Nat.le_of_ble_eq_true rfl, Nat.le_of_ble_eq_true rfl⟩) hk1 rfl rfl (Nat.le_of_ble_eq_true rfl) dL_law_1923 ?_
  refine g_istore X (lv' := [(7, .int r506), (6, .int r502), (0, .ref b), (1, .ref (E.1 0)), (2, .ref (E.1 84)), (3, .ref (E.1 99)), (4, .ref (E.1 100)), (5, .int x5)]) dL_law_1926 (by decide) rfl ?_
  refine g_aload_n X 4 (i0 := 2) dL_law_1928 rfl rfl ?_
  obtain ⟨r509, D508, e507, h⟩ := cI_s h
  refine g_Vk X (As := []) (rest := []) (c_X13_thrown l G E  _ _ e507) 84 (wg_84 E _) rfl rfl kv_L_136 ⟨rfl, rfl⟩ ⟨rfl, hd_X13_thrown⟩ (⟨Nat.le_of_ble_eq_true rfl, Nat.le_of_ble_eq_true rfl⟩) hk1 rfl rfl (Nat.le_of_ble_eq_true rfl) dL_law_1929 ?_
  refine g_iload X 1 dL_law_1932 rfl ?_
  refine g_icmp_eq X (tgt := 1939) dL_law_1934 (by decide) (fun c512 => ?_) (fun c512 => ?_)
  · have h := (ite_s h).1 c512
    refine g_iload X 1 dL_law_1939 rfl ?_
    refine g_if_ne X (tgt := 1956) dL_law_1941 (by decide) (fun c511 => ?_) (fun c511 => ?_)
    · have h := (ite_s h).2 c511
      refine g_goto X (tgt := 2319) dL_law_1956 (by decide) ?_
      refine g_iinc X 7 (v := (x5 + (4 : Int32))) (lv' := [(5, .int (x5 + (4 : Int32))), (7, .int r506), (6, .int r502), (0, .ref b), (1, .ref (E.1 0)), (2, .ref (E.1 84)), (3, .ref (E.1 99)), (4, .ref (E.1 100))]) dL_law_2319 rfl rfl (by decide) rfl ?_
      refine g_goto X (tgt := 28) dL_law_2322 (by decide) ?_
      refine g_sub (lv' := [(0, .ref b), (1, .ref (E.1 0)), (2, .ref (E.1 84)), (3, .ref (E.1 99)), (4, .ref (E.1 100)), (5, .int (x5 + (4 : Int32)))]) [3, 4, 5, 6, 7, 0] rfl ?_
      exact h1 _ (Option.some.inj h).symm
    · have h := (ite_s h).1 c511
      refine g_aload_n X 5 (i0 := 3) dL_law_1944 rfl rfl ?_
      refine g_iconst X (v := (0 : Int32)) dL_law_1945 (by decide) ?_
      refine g_lald X (D := D508) (f := (D508.2.2.2.1 0)) (i := (0 : Int32)) 99 (wg_99 E _) (inB_vp (by decide)) dL_law_1946 ?_
      refine g_iload X 0 dL_law_1947 rfl ?_
      refine g_i2l X dL_law_1949 ?_
      refine g_lcmp X dL_law_1950 ?_
      refine g_if_eq X (tgt := 1956) dL_law_1951 (by decide) (fun c510 => ?_) (fun c510 => ?_)
      · have h := (ite_s h).1 c510
        refine g_goto X (tgt := 2319) dL_law_1956 (by decide) ?_
        refine g_iinc X 7 (v := (x5 + (4 : Int32))) (lv' := [(5, .int (x5 + (4 : Int32))), (7, .int r506), (6, .int r502), (0, .ref b), (1, .ref (E.1 0)), (2, .ref (E.1 84)), (3, .ref (E.1 99)), (4, .ref (E.1 100))]) dL_law_2319 rfl rfl (by decide) rfl ?_
        refine g_goto X (tgt := 28) dL_law_2322 (by decide) ?_
        refine g_sub (lv' := [(0, .ref b), (1, .ref (E.1 0)), (2, .ref (E.1 84)), (3, .ref (E.1 99)), (4, .ref (E.1 100)), (5, .int (x5 + (4 : Int32)))]) [3, 4, 5, 6, 7, 0] rfl ?_
        exact h1 _ (Option.some.inj h).symm
      · have h := (ite_s h).2 c510
        refine g_iconst X (v := (0 : Int32)) dL_law_1954 (by decide) ?_
        exact g_lawret l X hr hE (by omega) (by omega) dL_law_1955 (h2 _ (Option.some.inj h).symm)
  · have h := (ite_s h).2 c512
    refine g_iconst X (v := (0 : Int32)) dL_law_1937 (by decide) ?_
    exact g_lawret l X hr hE (by omega) (by omega) dL_law_1938 (h2 _ (Option.some.inj h).symm)
set_option maxRecDepth 100000 in
set_option maxHeartbeats 8000000 in
theorem bl_law_39 {p : Program} {l : Launch} {e : Env} {s : State} {m : MethodId} {b Ln : Nat} {xs : Nat → Int32} {below : List Frame} {meth : Method} {c : Code} {G : va_G} {E : EE} (X : CX p s m #[Value.ref b] meth c code RL 10 G E) (hfl : l.stackTraces = false) (hr : meth.sig.returnType = ret) (hX : va_X b Ln xs s s.heap) (hbl : b < s.heap.size) (hbA : ¬ fr E s.heap.size b) (hE : ∀ k, k < 101 → s.heap.size ≤ E.1 k) (K S : Nat) (hK : K + 1 ≤ 603072) (hS : S + 6 ≤ 7194730) (x5 : Int32) (D : DD) (o : (Nat × Int32 × DD) ⊕ Int32) (h : b_law_39 xs Ln x5 D = some o) (h1 : ∀ x, o = .inl x → hg_law p l e s m b below meth c G E (K + 1) (S + 6) x.1 x.2.1 x.2.2) (h2 : ∀ x, o = .inr x → x = 1) : GW p l e room_1 s m #[Value.ref b] below meth c G E 10 (lw_Z below #[Value.ref b] s) K S D 1959 [(0, .ref b), (1, .ref (E.1 0)), (2, .ref (E.1 84)), (3, .ref (E.1 99)), (4, .ref (E.1 100)), (5, .int x5)] [] := by
  have hk0 : K + 0 ≤ room_1.cells ∧ S + 0 ≤ room_1.slots := ⟨by show K + 0 ≤ 603072; omega, by show S + 0 ≤ 7194730; omega⟩
  have hk1 : (K + 1) + 0 ≤ room_1.cells ∧ (S + 6) + 0 ≤ room_1.slots := ⟨by show K + 1 + 0 ≤ 603072; omega, by show S + 6 + 0 ≤ 7194730; omega⟩
  have hkw : K + 1 ≤ room_1.cells ∧ S + 6 ≤ room_1.slots := ⟨hK, hS⟩
  unfold b_law_39 at h
  refine g_aload_n X 1 (i0 := 1) dL_law_1959 rfl rfl ?_
  refine g_aload_n X 0 (i0 := 0) dL_law_1960 rfl rfl ?_
  refine g_iload X 5 dL_law_1961 rfl ?_
  refine g_iconst X (v := (1 : Int32)) dL_law_1963 (by decide) ?_
  refine g_iadd X dL_law_1964 ?_
  obtain ⟨b513, h⟩ := chk_s h
  refine g_sld X hX hbl hbA (i := (x5 + (1 : Int32))) (inB_vp b513) dL_law_1965 ?_
  refine g_aload_n X 3 (i0 := 3) dL_law_1966 rfl rfl ?_
  obtain ⟨r516, D515, e514, h⟩ := cI_s h
  refine g_SWk X (As := [.ref (E.1 0), .int (xs (x5 + (1 : Int32)).toNatClampNeg), .ref (E.1 99)]) (rest := []) (c_L_lineAt l hfl G E (xs (x5 + (1 : Int32)).toNatClampNeg) _ _ e514) kw_L_269 ⟨rfl, rfl⟩ hd_L_lineAt (⟨Nat.le_of_ble_eq_true rfl, Nat.le_of_ble_eq_true rfl⟩) hkw rfl rfl (Nat.le_of_ble_eq_true rfl) dL_law_1967 ?_
  refine g_istore X (lv' := [(6, .int r516), (0, .ref b), (1, .ref (E.1 0)), (2, .ref (E.1 84)), (3, .ref (E.1 99)), (4, .ref (E.1 100)), (5, .int x5)]) dL_law_1970 (by decide) rfl ?_
  refine g_aload_n X 3 (i0 := 2) dL_law_1972 rfl rfl ?_
  refine g_aload_n X 1 (i0 := 0) dL_law_1973 rfl rfl ?_
  refine g_iload X 6 dL_law_1974 rfl ?_
  refine g_iconst X (v := (1 : Int32)) dL_law_1976 (by decide) ?_
  refine g_iadd X dL_law_1977 ?_
  obtain ⟨b517, h⟩ := chk_s h
  refine g_sld X hX hbl hbA (i := (x5 + (1 : Int32))) (inB_vp b517) dL_law_1978 ?_
  obtain ⟨r520, D519, e518, h⟩ := cI_s h
  refine g_Vk X (As := [.int (xs (x5 + (1 : Int32)).toNatClampNeg)]) (rest := []) (c_X13_lineAt l G E (xs (x5 + (1 : Int32)).toNatClampNeg) _ _ e518) 84 (wg_84 E _) rfl rfl kv_L_271 ⟨rfl, rfl⟩ ⟨rfl, hd_X13_lineAt⟩ (⟨Nat.le_of_ble_eq_true rfl, Nat.le_of_ble_eq_true rfl⟩) hk1 rfl rfl (Nat.le_of_ble_eq_true rfl) dL_law_1979 ?_
  refine g_istore X (lv' := [(7, .int r520), (6, .int r516), (0, .ref b), (1, .ref (E.1 0)), (2, .ref (E.1 84)), (3, .ref (E.1 99)), (4, .ref (E.1 100)), (5, .int x5)]) dL_law_1982 (by decide) rfl ?_
  refine g_aload_n X 4 (i0 := 2) dL_law_1984 rfl rfl ?_
  obtain ⟨r523, D522, e521, h⟩ := cI_s h
  refine g_Vk X (As := []) (rest := []) (c_X13_thrown l G E  _ _ e521) 84 (wg_84 E _) rfl rfl kv_L_136 ⟨rfl, rfl⟩ ⟨rfl, hd_X13_thrown⟩ (⟨Nat.le_of_ble_eq_true rfl, Nat.le_of_ble_eq_true rfl⟩) hk1 rfl rfl (Nat.le_of_ble_eq_true rfl) dL_law_1985 ?_
  refine g_iload X 1 dL_law_1988 rfl ?_
  refine g_icmp_eq X (tgt := 1995) dL_law_1990 (by decide) (fun c526 => ?_) (fun c526 => ?_)
  · have h := (ite_s h).1 c526
    refine g_iload X 1 dL_law_1995 rfl ?_
    refine g_if_ne X (tgt := 2012) dL_law_1997 (by decide) (fun c525 => ?_) (fun c525 => ?_)
    · have h := (ite_s h).2 c525
      refine g_goto X (tgt := 2319) dL_law_2012 (by decide) ?_
      refine g_iinc X 7 (v := (x5 + (4 : Int32))) (lv' := [(5, .int (x5 + (4 : Int32))), (7, .int r520), (6, .int r516), (0, .ref b), (1, .ref (E.1 0)), (2, .ref (E.1 84)), (3, .ref (E.1 99)), (4, .ref (E.1 100))]) dL_law_2319 rfl rfl (by decide) rfl ?_
      refine g_goto X (tgt := 28) dL_law_2322 (by decide) ?_
      refine g_sub (lv' := [(0, .ref b), (1, .ref (E.1 0)), (2, .ref (E.1 84)), (3, .ref (E.1 99)), (4, .ref (E.1 100)), (5, .int (x5 + (4 : Int32)))]) [3, 4, 5, 6, 7, 0] rfl ?_
      exact h1 _ (Option.some.inj h).symm
    · have h := (ite_s h).1 c525
      refine g_aload_n X 5 (i0 := 3) dL_law_2000 rfl rfl ?_
      refine g_iconst X (v := (0 : Int32)) dL_law_2001 (by decide) ?_
      refine g_lald X (D := D522) (f := (D522.2.2.2.1 0)) (i := (0 : Int32)) 99 (wg_99 E _) (inB_vp (by decide)) dL_law_2002 ?_
      refine g_iload X 0 dL_law_2003 rfl ?_
      refine g_i2l X dL_law_2005 ?_
      refine g_lcmp X dL_law_2006 ?_
      refine g_if_eq X (tgt := 2012) dL_law_2007 (by decide) (fun c524 => ?_) (fun c524 => ?_)
      · have h := (ite_s h).1 c524
        refine g_goto X (tgt := 2319) dL_law_2012 (by decide) ?_
        refine g_iinc X 7 (v := (x5 + (4 : Int32))) (lv' := [(5, .int (x5 + (4 : Int32))), (7, .int r520), (6, .int r516), (0, .ref b), (1, .ref (E.1 0)), (2, .ref (E.1 84)), (3, .ref (E.1 99)), (4, .ref (E.1 100))]) dL_law_2319 rfl rfl (by decide) rfl ?_
        refine g_goto X (tgt := 28) dL_law_2322 (by decide) ?_
        refine g_sub (lv' := [(0, .ref b), (1, .ref (E.1 0)), (2, .ref (E.1 84)), (3, .ref (E.1 99)), (4, .ref (E.1 100)), (5, .int (x5 + (4 : Int32)))]) [3, 4, 5, 6, 7, 0] rfl ?_
        exact h1 _ (Option.some.inj h).symm
      · have h := (ite_s h).2 c524
        refine g_iconst X (v := (0 : Int32)) dL_law_2010 (by decide) ?_
        exact g_lawret l X hr hE (by omega) (by omega) dL_law_2011 (h2 _ (Option.some.inj h).symm)
  · have h := (ite_s h).2 c526
    refine g_iconst X (v := (0 : Int32)) dL_law_1993 (by decide) ?_
    exact g_lawret l X hr hE (by omega) (by omega) dL_law_1994 (h2 _ (Option.some.inj h).symm)
set_option maxRecDepth 100000 in
set_option maxHeartbeats 8000000 in
theorem bl_law_40 {p : Program} {l : Launch} {e : Env} {s : State} {m : MethodId} {b Ln : Nat} {xs : Nat → Int32} {below : List Frame} {meth : Method} {c : Code} {G : va_G} {E : EE} (X : CX p s m #[Value.ref b] meth c code RL 10 G E) (hfl : l.stackTraces = false) (hr : meth.sig.returnType = ret) (hX : va_X b Ln xs s s.heap) (hbl : b < s.heap.size) (hbA : ¬ fr E s.heap.size b) (hE : ∀ k, k < 101 → s.heap.size ≤ E.1 k) (K S : Nat) (hK : K + 1 ≤ 603072) (hS : S + 6 ≤ 7194730) (x5 : Int32) (D : DD) (o : (Nat × Int32 × DD) ⊕ Int32) (h : b_law_40 xs Ln x5 D = some o) (h1 : ∀ x, o = .inl x → hg_law p l e s m b below meth c G E (K + 1) (S + 6) x.1 x.2.1 x.2.2) (h2 : ∀ x, o = .inr x → x = 1) : GW p l e room_1 s m #[Value.ref b] below meth c G E 10 (lw_Z below #[Value.ref b] s) K S D 2015 [(0, .ref b), (1, .ref (E.1 0)), (2, .ref (E.1 84)), (3, .ref (E.1 99)), (4, .ref (E.1 100)), (5, .int x5)] [] := by
  have hk0 : K + 0 ≤ room_1.cells ∧ S + 0 ≤ room_1.slots := ⟨by show K + 0 ≤ 603072; omega, by show S + 0 ≤ 7194730; omega⟩
  have hk1 : (K + 1) + 0 ≤ room_1.cells ∧ (S + 6) + 0 ≤ room_1.slots := ⟨by show K + 1 + 0 ≤ 603072; omega, by show S + 6 + 0 ≤ 7194730; omega⟩
  have hkw : K + 1 ≤ room_1.cells ∧ S + 6 ≤ room_1.slots := ⟨hK, hS⟩
  unfold b_law_40 at h
  refine g_aload_n X 1 (i0 := 1) dL_law_2015 rfl rfl ?_
  obtain ⟨r529, D528, e527, h⟩ := cI_s h
  refine g_Vk X (As := []) (rest := []) (c_X12_isConsistent l G E  _ _ e527) 0 (wg_0 E _) rfl rfl kv_L_272 ⟨rfl, rfl⟩ ⟨rfl, hd_X12_isConsistent⟩ (⟨Nat.le_of_ble_eq_true rfl, Nat.le_of_ble_eq_true rfl⟩) hk0 rfl rfl (Nat.le_of_ble_eq_true rfl) dL_law_2016 ?_
  refine g_aload_n X 2 (i0 := 2) dL_law_2019 rfl rfl ?_
  obtain ⟨r532, D531, e530, h⟩ := cI_s h
  refine g_Vk X (As := []) (rest := [.int r529]) (c_X13_isConsistent l G E  _ _ e530) 84 (wg_84 E _) rfl rfl kv_L_276 ⟨rfl, rfl⟩ ⟨rfl, hd_X13_isConsistent⟩ (⟨Nat.le_of_ble_eq_true rfl, Nat.le_of_ble_eq_true rfl⟩) hk0 rfl rfl (Nat.le_of_ble_eq_true rfl) dL_law_2020 ?_
  refine g_icmp_eq X (tgt := 2319) dL_law_2023 (by decide) (fun c533 => ?_) (fun c533 => ?_)
  · have h := (ite_s h).1 c533
    refine g_iinc X 5 (v := (x5 + (4 : Int32))) (lv' := [(5, .int (x5 + (4 : Int32))), (0, .ref b), (1, .ref (E.1 0)), (2, .ref (E.1 84)), (3, .ref (E.1 99)), (4, .ref (E.1 100))]) dL_law_2319 rfl rfl (by decide) rfl ?_
    refine g_goto X (tgt := 28) dL_law_2322 (by decide) ?_
    refine g_sub (lv' := [(0, .ref b), (1, .ref (E.1 0)), (2, .ref (E.1 84)), (3, .ref (E.1 99)), (4, .ref (E.1 100)), (5, .int (x5 + (4 : Int32)))]) [1, 2, 3, 4, 5, 0] rfl ?_
    refine g_widen (k2 := K + 1) (s2 := S + 6) (by omega) (by omega) ?_
    exact h1 _ (Option.some.inj h).symm
  · have h := (ite_s h).2 c533
    refine g_iconst X (v := (0 : Int32)) dL_law_2026 (by decide) ?_
    exact g_lawret l X hr hE (by omega) (by omega) dL_law_2027 (h2 _ (Option.some.inj h).symm)
set_option maxRecDepth 100000 in
set_option maxHeartbeats 8000000 in
theorem bl_law_41 {p : Program} {l : Launch} {e : Env} {s : State} {m : MethodId} {b Ln : Nat} {xs : Nat → Int32} {below : List Frame} {meth : Method} {c : Code} {G : va_G} {E : EE} (X : CX p s m #[Value.ref b] meth c code RL 10 G E) (hfl : l.stackTraces = false) (hr : meth.sig.returnType = ret) (hX : va_X b Ln xs s s.heap) (hbl : b < s.heap.size) (hbA : ¬ fr E s.heap.size b) (hE : ∀ k, k < 101 → s.heap.size ≤ E.1 k) (K S : Nat) (hK : K + 1 ≤ 603072) (hS : S + 6 ≤ 7194730) (x5 : Int32) (D : DD) (o : (Nat × Int32 × DD) ⊕ Int32) (h : b_law_41 xs Ln x5 D = some o) (h1 : ∀ x, o = .inl x → hg_law p l e s m b below meth c G E (K + 1) (S + 6) x.1 x.2.1 x.2.2) (h2 : ∀ x, o = .inr x → x = 1) : GW p l e room_1 s m #[Value.ref b] below meth c G E 10 (lw_Z below #[Value.ref b] s) K S D 2028 [(0, .ref b), (1, .ref (E.1 0)), (2, .ref (E.1 84)), (3, .ref (E.1 99)), (4, .ref (E.1 100)), (5, .int x5)] [] := by
  have hk0 : K + 0 ≤ room_1.cells ∧ S + 0 ≤ room_1.slots := ⟨by show K + 0 ≤ 603072; omega, by show S + 0 ≤ 7194730; omega⟩
  have hk1 : (K + 1) + 0 ≤ room_1.cells ∧ (S + 6) + 0 ≤ room_1.slots := ⟨by show K + 1 + 0 ≤ 603072; omega, by show S + 6 + 0 ≤ 7194730; omega⟩
  have hkw : K + 1 ≤ room_1.cells ∧ S + 6 ≤ room_1.slots := ⟨hK, hS⟩
  unfold b_law_41 at h
  refine g_aload_n X 1 (i0 := 1) dL_law_2028 rfl rfl ?_
  refine g_aload_n X 0 (i0 := 0) dL_law_2029 rfl rfl ?_
  refine g_iload X 5 dL_law_2030 rfl ?_
  refine g_iconst X (v := (1 : Int32)) dL_law_2032 (by decide) ?_
  refine g_iadd X dL_law_2033 ?_
  obtain ⟨b534, h⟩ := chk_s h
  refine g_sld X hX hbl hbA (i := (x5 + (1 : Int32))) (inB_vp b534) dL_law_2034 ?_
  refine g_i2c X dL_law_2035 ?_
  refine g_aload_n X 3 (i0 := 3) dL_law_2036 rfl rfl ?_
  obtain ⟨r537, D536, e535, h⟩ := cI_s h
  refine g_SWk X (As := [.ref (E.1 0), .int ((xs (x5 + (1 : Int32)).toNatClampNeg).toUInt32 % 65536).toInt32, .ref (E.1 99)]) (rest := []) (c_L_type l hfl G E ((xs (x5 + (1 : Int32)).toNatClampNeg).toUInt32 % 65536).toInt32 _ _ e535) kw_L_277 ⟨rfl, rfl⟩ hd_L_type (⟨Nat.le_of_ble_eq_true rfl, Nat.le_of_ble_eq_true rfl⟩) hkw rfl rfl (Nat.le_of_ble_eq_true rfl) dL_law_2037 ?_
  refine g_istore X (lv' := [(6, .int r537), (0, .ref b), (1, .ref (E.1 0)), (2, .ref (E.1 84)), (3, .ref (E.1 99)), (4, .ref (E.1 100)), (5, .int x5)]) dL_law_2040 (by decide) rfl ?_
  refine g_aload_n X 3 (i0 := 2) dL_law_2042 rfl rfl ?_
  refine g_aload_n X 1 (i0 := 0) dL_law_2043 rfl rfl ?_
  refine g_iload X 6 dL_law_2044 rfl ?_
  refine g_iconst X (v := (1 : Int32)) dL_law_2046 (by decide) ?_
  refine g_iadd X dL_law_2047 ?_
  obtain ⟨b538, h⟩ := chk_s h
  refine g_sld X hX hbl hbA (i := (x5 + (1 : Int32))) (inB_vp b538) dL_law_2048 ?_
  refine g_i2c X dL_law_2049 ?_
  obtain ⟨r541, D540, e539, h⟩ := cI_s h
  refine g_Vk X (As := [.int ((xs (x5 + (1 : Int32)).toNatClampNeg).toUInt32 % 65536).toInt32]) (rest := []) (c_X13_type l G E ((xs (x5 + (1 : Int32)).toNatClampNeg).toUInt32 % 65536).toInt32 _ _ e539) 84 (wg_84 E _) rfl rfl kv_L_280 ⟨rfl, rfl⟩ ⟨rfl, hd_X13_type⟩ (⟨Nat.le_of_ble_eq_true rfl, Nat.le_of_ble_eq_true rfl⟩) hk1 rfl rfl (Nat.le_of_ble_eq_true rfl) dL_law_2050 ?_
  refine g_istore X (lv' := [(7, .int r541), (6, .int r537), (0, .ref b), (1, .ref (E.1 0)), (2, .ref (E.1 84)), (3, .ref (E.1 99)), (4, .ref (E.1 100)), (5, .int x5)]) dL_law_2053 (by decide) rfl ?_
  refine g_aload_n X 4 (i0 := 2) dL_law_2055 rfl rfl ?_
  obtain ⟨r544, D543, e542, h⟩ := cI_s h
  refine g_Vk X (As := []) (rest := []) (c_X13_thrown l G E  _ _ e542) 84 (wg_84 E _) rfl rfl kv_L_136 ⟨rfl, rfl⟩ ⟨rfl, hd_X13_thrown⟩ (⟨Nat.le_of_ble_eq_true rfl, Nat.le_of_ble_eq_true rfl⟩) hk1 rfl rfl (Nat.le_of_ble_eq_true rfl) dL_law_2056 ?_
  refine g_iload X 1 dL_law_2059 rfl ?_
  refine g_icmp_eq X (tgt := 2066) dL_law_2061 (by decide) (fun c547 => ?_) (fun c547 => ?_)
  · have h := (ite_s h).1 c547
    refine g_iload X 1 dL_law_2066 rfl ?_
    refine g_if_ne X (tgt := 2083) dL_law_2068 (by decide) (fun c546 => ?_) (fun c546 => ?_)
    · have h := (ite_s h).2 c546
      refine g_goto X (tgt := 2319) dL_law_2083 (by decide) ?_
      refine g_iinc X 7 (v := (x5 + (4 : Int32))) (lv' := [(5, .int (x5 + (4 : Int32))), (7, .int r541), (6, .int r537), (0, .ref b), (1, .ref (E.1 0)), (2, .ref (E.1 84)), (3, .ref (E.1 99)), (4, .ref (E.1 100))]) dL_law_2319 rfl rfl (by decide) rfl ?_
      refine g_goto X (tgt := 28) dL_law_2322 (by decide) ?_
      refine g_sub (lv' := [(0, .ref b), (1, .ref (E.1 0)), (2, .ref (E.1 84)), (3, .ref (E.1 99)), (4, .ref (E.1 100)), (5, .int (x5 + (4 : Int32)))]) [3, 4, 5, 6, 7, 0] rfl ?_
      exact h1 _ (Option.some.inj h).symm
    · have h := (ite_s h).1 c546
      refine g_aload_n X 5 (i0 := 3) dL_law_2071 rfl rfl ?_
      refine g_iconst X (v := (0 : Int32)) dL_law_2072 (by decide) ?_
      refine g_lald X (D := D543) (f := (D543.2.2.2.1 0)) (i := (0 : Int32)) 99 (wg_99 E _) (inB_vp (by decide)) dL_law_2073 ?_
      refine g_iload X 0 dL_law_2074 rfl ?_
      refine g_i2l X dL_law_2076 ?_
      refine g_lcmp X dL_law_2077 ?_
      refine g_if_eq X (tgt := 2083) dL_law_2078 (by decide) (fun c545 => ?_) (fun c545 => ?_)
      · have h := (ite_s h).1 c545
        refine g_goto X (tgt := 2319) dL_law_2083 (by decide) ?_
        refine g_iinc X 7 (v := (x5 + (4 : Int32))) (lv' := [(5, .int (x5 + (4 : Int32))), (7, .int r541), (6, .int r537), (0, .ref b), (1, .ref (E.1 0)), (2, .ref (E.1 84)), (3, .ref (E.1 99)), (4, .ref (E.1 100))]) dL_law_2319 rfl rfl (by decide) rfl ?_
        refine g_goto X (tgt := 28) dL_law_2322 (by decide) ?_
        refine g_sub (lv' := [(0, .ref b), (1, .ref (E.1 0)), (2, .ref (E.1 84)), (3, .ref (E.1 99)), (4, .ref (E.1 100)), (5, .int (x5 + (4 : Int32)))]) [3, 4, 5, 6, 7, 0] rfl ?_
        exact h1 _ (Option.some.inj h).symm
      · have h := (ite_s h).2 c545
        refine g_iconst X (v := (0 : Int32)) dL_law_2081 (by decide) ?_
        exact g_lawret l X hr hE (by omega) (by omega) dL_law_2082 (h2 _ (Option.some.inj h).symm)
  · have h := (ite_s h).2 c547
    refine g_iconst X (v := (0 : Int32)) dL_law_2064 (by decide) ?_
    exact g_lawret l X hr hE (by omega) (by omega) dL_law_2065 (h2 _ (Option.some.inj h).symm)
set_option maxRecDepth 100000 in
set_option maxHeartbeats 8000000 in
theorem bl_law_42 {p : Program} {l : Launch} {e : Env} {s : State} {m : MethodId} {b Ln : Nat} {xs : Nat → Int32} {below : List Frame} {meth : Method} {c : Code} {G : va_G} {E : EE} (X : CX p s m #[Value.ref b] meth c code RL 10 G E) (hfl : l.stackTraces = false) (hr : meth.sig.returnType = ret) (hX : va_X b Ln xs s s.heap) (hbl : b < s.heap.size) (hbA : ¬ fr E s.heap.size b) (hE : ∀ k, k < 101 → s.heap.size ≤ E.1 k) (K S : Nat) (hK : K + 1 ≤ 603072) (hS : S + 6 ≤ 7194730) (x5 : Int32) (D : DD) (o : (Nat × Int32 × DD) ⊕ Int32) (h : b_law_42 xs Ln x5 D = some o) (h1 : ∀ x, o = .inl x → hg_law p l e s m b below meth c G E (K + 1) (S + 6) x.1 x.2.1 x.2.2) (h2 : ∀ x, o = .inr x → x = 1) : GW p l e room_1 s m #[Value.ref b] below meth c G E 10 (lw_Z below #[Value.ref b] s) K S D 2086 [(0, .ref b), (1, .ref (E.1 0)), (2, .ref (E.1 84)), (3, .ref (E.1 99)), (4, .ref (E.1 100)), (5, .int x5)] [] := by
  have hk0 : K + 0 ≤ room_1.cells ∧ S + 0 ≤ room_1.slots := ⟨by show K + 0 ≤ 603072; omega, by show S + 0 ≤ 7194730; omega⟩
  have hk1 : (K + 1) + 0 ≤ room_1.cells ∧ (S + 6) + 0 ≤ room_1.slots := ⟨by show K + 1 + 0 ≤ 603072; omega, by show S + 6 + 0 ≤ 7194730; omega⟩
  have hkw : K + 1 ≤ room_1.cells ∧ S + 6 ≤ room_1.slots := ⟨hK, hS⟩
  unfold b_law_42 at h
  refine g_aload_n X 1 (i0 := 1) dL_law_2086 rfl rfl ?_
  refine g_aload_n X 3 (i0 := 3) dL_law_2087 rfl rfl ?_
  obtain ⟨r550, D549, e548, h⟩ := cI_s h
  refine g_SWk X (As := [.ref (E.1 0), .ref (E.1 99)]) (rest := []) (c_L_execute l hfl G E  _ _ e548) kw_L_281 ⟨rfl, rfl⟩ hd_L_execute (⟨Nat.le_of_ble_eq_true rfl, Nat.le_of_ble_eq_true rfl⟩) hkw rfl rfl (Nat.le_of_ble_eq_true rfl) dL_law_2088 ?_
  refine g_istore X (lv' := [(6, .int r550), (0, .ref b), (1, .ref (E.1 0)), (2, .ref (E.1 84)), (3, .ref (E.1 99)), (4, .ref (E.1 100)), (5, .int x5)]) dL_law_2091 (by decide) rfl ?_
  refine g_aload_n X 3 (i0 := 2) dL_law_2093 rfl rfl ?_
  obtain ⟨r553, D552, e551, h⟩ := cI_s h
  refine g_Vk X (As := []) (rest := []) (c_X13_execute l G E  _ _ e551) 84 (wg_84 E _) rfl rfl kv_L_283 ⟨rfl, rfl⟩ ⟨rfl, hd_X13_execute⟩ (⟨Nat.le_of_ble_eq_true rfl, Nat.le_of_ble_eq_true rfl⟩) hk1 rfl rfl (Nat.le_of_ble_eq_true rfl) dL_law_2094 ?_
  refine g_istore X (lv' := [(7, .int r553), (6, .int r550), (0, .ref b), (1, .ref (E.1 0)), (2, .ref (E.1 84)), (3, .ref (E.1 99)), (4, .ref (E.1 100)), (5, .int x5)]) dL_law_2097 (by decide) rfl ?_
  refine g_aload_n X 4 (i0 := 2) dL_law_2099 rfl rfl ?_
  obtain ⟨r556, D555, e554, h⟩ := cI_s h
  refine g_Vk X (As := []) (rest := []) (c_X13_thrown l G E  _ _ e554) 84 (wg_84 E _) rfl rfl kv_L_136 ⟨rfl, rfl⟩ ⟨rfl, hd_X13_thrown⟩ (⟨Nat.le_of_ble_eq_true rfl, Nat.le_of_ble_eq_true rfl⟩) hk1 rfl rfl (Nat.le_of_ble_eq_true rfl) dL_law_2100 ?_
  refine g_iload X 1 dL_law_2103 rfl ?_
  refine g_icmp_eq X (tgt := 2110) dL_law_2105 (by decide) (fun c559 => ?_) (fun c559 => ?_)
  · have h := (ite_s h).1 c559
    refine g_iload X 1 dL_law_2110 rfl ?_
    refine g_if_ne X (tgt := 2127) dL_law_2112 (by decide) (fun c558 => ?_) (fun c558 => ?_)
    · have h := (ite_s h).2 c558
      refine g_goto X (tgt := 2319) dL_law_2127 (by decide) ?_
      refine g_iinc X 7 (v := (x5 + (4 : Int32))) (lv' := [(5, .int (x5 + (4 : Int32))), (7, .int r553), (6, .int r550), (0, .ref b), (1, .ref (E.1 0)), (2, .ref (E.1 84)), (3, .ref (E.1 99)), (4, .ref (E.1 100))]) dL_law_2319 rfl rfl (by decide) rfl ?_
      refine g_goto X (tgt := 28) dL_law_2322 (by decide) ?_
      refine g_sub (lv' := [(0, .ref b), (1, .ref (E.1 0)), (2, .ref (E.1 84)), (3, .ref (E.1 99)), (4, .ref (E.1 100)), (5, .int (x5 + (4 : Int32)))]) [3, 4, 5, 6, 7, 0] rfl ?_
      exact h1 _ (Option.some.inj h).symm
    · have h := (ite_s h).1 c558
      refine g_aload_n X 5 (i0 := 3) dL_law_2115 rfl rfl ?_
      refine g_iconst X (v := (0 : Int32)) dL_law_2116 (by decide) ?_
      refine g_lald X (D := D555) (f := (D555.2.2.2.1 0)) (i := (0 : Int32)) 99 (wg_99 E _) (inB_vp (by decide)) dL_law_2117 ?_
      refine g_iload X 0 dL_law_2118 rfl ?_
      refine g_i2l X dL_law_2120 ?_
      refine g_lcmp X dL_law_2121 ?_
      refine g_if_eq X (tgt := 2127) dL_law_2122 (by decide) (fun c557 => ?_) (fun c557 => ?_)
      · have h := (ite_s h).1 c557
        refine g_goto X (tgt := 2319) dL_law_2127 (by decide) ?_
        refine g_iinc X 7 (v := (x5 + (4 : Int32))) (lv' := [(5, .int (x5 + (4 : Int32))), (7, .int r553), (6, .int r550), (0, .ref b), (1, .ref (E.1 0)), (2, .ref (E.1 84)), (3, .ref (E.1 99)), (4, .ref (E.1 100))]) dL_law_2319 rfl rfl (by decide) rfl ?_
        refine g_goto X (tgt := 28) dL_law_2322 (by decide) ?_
        refine g_sub (lv' := [(0, .ref b), (1, .ref (E.1 0)), (2, .ref (E.1 84)), (3, .ref (E.1 99)), (4, .ref (E.1 100)), (5, .int (x5 + (4 : Int32)))]) [3, 4, 5, 6, 7, 0] rfl ?_
        exact h1 _ (Option.some.inj h).symm
      · have h := (ite_s h).2 c557
        refine g_iconst X (v := (0 : Int32)) dL_law_2125 (by decide) ?_
        exact g_lawret l X hr hE (by omega) (by omega) dL_law_2126 (h2 _ (Option.some.inj h).symm)
  · have h := (ite_s h).2 c559
    refine g_iconst X (v := (0 : Int32)) dL_law_2108 (by decide) ?_
    exact g_lawret l X hr hE (by omega) (by omega) dL_law_2109 (h2 _ (Option.some.inj h).symm)
set_option maxRecDepth 100000 in
set_option maxHeartbeats 8000000 in
theorem bl_law_43 {p : Program} {l : Launch} {e : Env} {s : State} {m : MethodId} {b Ln : Nat} {xs : Nat → Int32} {below : List Frame} {meth : Method} {c : Code} {G : va_G} {E : EE} (X : CX p s m #[Value.ref b] meth c code RL 10 G E) (hfl : l.stackTraces = false) (hr : meth.sig.returnType = ret) (hX : va_X b Ln xs s s.heap) (hbl : b < s.heap.size) (hbA : ¬ fr E s.heap.size b) (hE : ∀ k, k < 101 → s.heap.size ≤ E.1 k) (K S : Nat) (hK : K + 1 ≤ 603072) (hS : S + 6 ≤ 7194730) (x5 : Int32) (D : DD) (o : (Nat × Int32 × DD) ⊕ Int32) (h : b_law_43 xs Ln x5 D = some o) (h1 : ∀ x, o = .inl x → hg_law p l e s m b below meth c G E (K + 1) (S + 6) x.1 x.2.1 x.2.2) (h2 : ∀ x, o = .inr x → x = 1) : GW p l e room_1 s m #[Value.ref b] below meth c G E 10 (lw_Z below #[Value.ref b] s) K S D 2130 [(0, .ref b), (1, .ref (E.1 0)), (2, .ref (E.1 84)), (3, .ref (E.1 99)), (4, .ref (E.1 100)), (5, .int x5)] [] := by
  have hk0 : K + 0 ≤ room_1.cells ∧ S + 0 ≤ room_1.slots := ⟨by show K + 0 ≤ 603072; omega, by show S + 0 ≤ 7194730; omega⟩
  have hk1 : (K + 1) + 0 ≤ room_1.cells ∧ (S + 6) + 0 ≤ room_1.slots := ⟨by show K + 1 + 0 ≤ 603072; omega, by show S + 6 + 0 ≤ 7194730; omega⟩
  have hkw : K + 1 ≤ room_1.cells ∧ S + 6 ≤ room_1.slots := ⟨hK, hS⟩
  unfold b_law_43 at h
  refine g_aload_n X 1 (i0 := 1) dL_law_2130 rfl rfl ?_
  refine g_aload_n X 3 (i0 := 3) dL_law_2131 rfl rfl ?_
  obtain ⟨r562, D561, e560, h⟩ := cI_s h
  refine g_SWk X (As := [.ref (E.1 0), .ref (E.1 99)]) (rest := []) (c_L_errorPosition l hfl G E  _ _ e560) kw_L_284 ⟨rfl, rfl⟩ hd_L_errorPosition (⟨Nat.le_of_ble_eq_true rfl, Nat.le_of_ble_eq_true rfl⟩) hkw rfl rfl (Nat.le_of_ble_eq_true rfl) dL_law_2132 ?_
  refine g_istore X (lv' := [(6, .int r562), (0, .ref b), (1, .ref (E.1 0)), (2, .ref (E.1 84)), (3, .ref (E.1 99)), (4, .ref (E.1 100)), (5, .int x5)]) dL_law_2135 (by decide) rfl ?_
  refine g_aload_n X 3 (i0 := 2) dL_law_2137 rfl rfl ?_
  obtain ⟨r565, D564, e563, h⟩ := cI_s h
  refine g_Vk X (As := []) (rest := []) (c_X13_errorPosition l G E  _ _ e563) 84 (wg_84 E _) rfl rfl kv_L_286 ⟨rfl, rfl⟩ ⟨rfl, hd_X13_errorPosition⟩ (⟨Nat.le_of_ble_eq_true rfl, Nat.le_of_ble_eq_true rfl⟩) hk1 rfl rfl (Nat.le_of_ble_eq_true rfl) dL_law_2138 ?_
  refine g_istore X (lv' := [(7, .int r565), (6, .int r562), (0, .ref b), (1, .ref (E.1 0)), (2, .ref (E.1 84)), (3, .ref (E.1 99)), (4, .ref (E.1 100)), (5, .int x5)]) dL_law_2141 (by decide) rfl ?_
  refine g_aload_n X 4 (i0 := 2) dL_law_2143 rfl rfl ?_
  obtain ⟨r568, D567, e566, h⟩ := cI_s h
  refine g_Vk X (As := []) (rest := []) (c_X13_thrown l G E  _ _ e566) 84 (wg_84 E _) rfl rfl kv_L_136 ⟨rfl, rfl⟩ ⟨rfl, hd_X13_thrown⟩ (⟨Nat.le_of_ble_eq_true rfl, Nat.le_of_ble_eq_true rfl⟩) hk1 rfl rfl (Nat.le_of_ble_eq_true rfl) dL_law_2144 ?_
  refine g_iload X 1 dL_law_2147 rfl ?_
  refine g_icmp_eq X (tgt := 2154) dL_law_2149 (by decide) (fun c571 => ?_) (fun c571 => ?_)
  · have h := (ite_s h).1 c571
    refine g_iload X 1 dL_law_2154 rfl ?_
    refine g_if_ne X (tgt := 2171) dL_law_2156 (by decide) (fun c570 => ?_) (fun c570 => ?_)
    · have h := (ite_s h).2 c570
      refine g_goto X (tgt := 2319) dL_law_2171 (by decide) ?_
      refine g_iinc X 7 (v := (x5 + (4 : Int32))) (lv' := [(5, .int (x5 + (4 : Int32))), (7, .int r565), (6, .int r562), (0, .ref b), (1, .ref (E.1 0)), (2, .ref (E.1 84)), (3, .ref (E.1 99)), (4, .ref (E.1 100))]) dL_law_2319 rfl rfl (by decide) rfl ?_
      refine g_goto X (tgt := 28) dL_law_2322 (by decide) ?_
      refine g_sub (lv' := [(0, .ref b), (1, .ref (E.1 0)), (2, .ref (E.1 84)), (3, .ref (E.1 99)), (4, .ref (E.1 100)), (5, .int (x5 + (4 : Int32)))]) [3, 4, 5, 6, 7, 0] rfl ?_
      exact h1 _ (Option.some.inj h).symm
    · have h := (ite_s h).1 c570
      refine g_aload_n X 5 (i0 := 3) dL_law_2159 rfl rfl ?_
      refine g_iconst X (v := (0 : Int32)) dL_law_2160 (by decide) ?_
      refine g_lald X (D := D567) (f := (D567.2.2.2.1 0)) (i := (0 : Int32)) 99 (wg_99 E _) (inB_vp (by decide)) dL_law_2161 ?_
      refine g_iload X 0 dL_law_2162 rfl ?_
      refine g_i2l X dL_law_2164 ?_
      refine g_lcmp X dL_law_2165 ?_
      refine g_if_eq X (tgt := 2171) dL_law_2166 (by decide) (fun c569 => ?_) (fun c569 => ?_)
      · have h := (ite_s h).1 c569
        refine g_goto X (tgt := 2319) dL_law_2171 (by decide) ?_
        refine g_iinc X 7 (v := (x5 + (4 : Int32))) (lv' := [(5, .int (x5 + (4 : Int32))), (7, .int r565), (6, .int r562), (0, .ref b), (1, .ref (E.1 0)), (2, .ref (E.1 84)), (3, .ref (E.1 99)), (4, .ref (E.1 100))]) dL_law_2319 rfl rfl (by decide) rfl ?_
        refine g_goto X (tgt := 28) dL_law_2322 (by decide) ?_
        refine g_sub (lv' := [(0, .ref b), (1, .ref (E.1 0)), (2, .ref (E.1 84)), (3, .ref (E.1 99)), (4, .ref (E.1 100)), (5, .int (x5 + (4 : Int32)))]) [3, 4, 5, 6, 7, 0] rfl ?_
        exact h1 _ (Option.some.inj h).symm
      · have h := (ite_s h).2 c569
        refine g_iconst X (v := (0 : Int32)) dL_law_2169 (by decide) ?_
        exact g_lawret l X hr hE (by omega) (by omega) dL_law_2170 (h2 _ (Option.some.inj h).symm)
  · have h := (ite_s h).2 c571
    refine g_iconst X (v := (0 : Int32)) dL_law_2152 (by decide) ?_
    exact g_lawret l X hr hE (by omega) (by omega) dL_law_2153 (h2 _ (Option.some.inj h).symm)
set_option maxRecDepth 100000 in
set_option maxHeartbeats 8000000 in
theorem bl_law_44 {p : Program} {l : Launch} {e : Env} {s : State} {m : MethodId} {b Ln : Nat} {xs : Nat → Int32} {below : List Frame} {meth : Method} {c : Code} {G : va_G} {E : EE} (X : CX p s m #[Value.ref b] meth c code RL 10 G E) (hfl : l.stackTraces = false) (hr : meth.sig.returnType = ret) (hX : va_X b Ln xs s s.heap) (hbl : b < s.heap.size) (hbA : ¬ fr E s.heap.size b) (hE : ∀ k, k < 101 → s.heap.size ≤ E.1 k) (K S : Nat) (hK : K + 1 ≤ 603072) (hS : S + 6 ≤ 7194730) (x5 : Int32) (D : DD) (o : (Nat × Int32 × DD) ⊕ Int32) (h : b_law_44 xs Ln x5 D = some o) (h1 : ∀ x, o = .inl x → hg_law p l e s m b below meth c G E (K + 1) (S + 6) x.1 x.2.1 x.2.2) (h2 : ∀ x, o = .inr x → x = 1) : GW p l e room_1 s m #[Value.ref b] below meth c G E 10 (lw_Z below #[Value.ref b] s) K S D 2174 [(0, .ref b), (1, .ref (E.1 0)), (2, .ref (E.1 84)), (3, .ref (E.1 99)), (4, .ref (E.1 100)), (5, .int x5)] [] := by
  have hk0 : K + 0 ≤ room_1.cells ∧ S + 0 ≤ room_1.slots := ⟨by show K + 0 ≤ 603072; omega, by show S + 0 ≤ 7194730; omega⟩
  have hk1 : (K + 1) + 0 ≤ room_1.cells ∧ (S + 6) + 0 ≤ room_1.slots := ⟨by show K + 1 + 0 ≤ 603072; omega, by show S + 6 + 0 ≤ 7194730; omega⟩
  have hkw : K + 1 ≤ room_1.cells ∧ S + 6 ≤ room_1.slots := ⟨hK, hS⟩
  unfold b_law_44 at h
  refine g_aload_n X 1 (i0 := 1) dL_law_2174 rfl rfl ?_
  refine g_aload_n X 3 (i0 := 3) dL_law_2175 rfl rfl ?_
  obtain ⟨r574, D573, e572, h⟩ := cI_s h
  refine g_SWk X (As := [.ref (E.1 0), .ref (E.1 99)]) (rest := []) (c_L_failedCommand l hfl G E  _ _ e572) kw_L_287 ⟨rfl, rfl⟩ hd_L_failedCommand (⟨Nat.le_of_ble_eq_true rfl, Nat.le_of_ble_eq_true rfl⟩) hkw rfl rfl (Nat.le_of_ble_eq_true rfl) dL_law_2176 ?_
  refine g_istore X (lv' := [(6, .int r574), (0, .ref b), (1, .ref (E.1 0)), (2, .ref (E.1 84)), (3, .ref (E.1 99)), (4, .ref (E.1 100)), (5, .int x5)]) dL_law_2179 (by decide) rfl ?_
  refine g_aload_n X 3 (i0 := 2) dL_law_2181 rfl rfl ?_
  obtain ⟨r577, D576, e575, h⟩ := cI_s h
  refine g_Vk X (As := []) (rest := []) (c_X13_failedCommand l G E  _ _ e575) 84 (wg_84 E _) rfl rfl kv_L_289 ⟨rfl, rfl⟩ ⟨rfl, hd_X13_failedCommand⟩ (⟨Nat.le_of_ble_eq_true rfl, Nat.le_of_ble_eq_true rfl⟩) hk1 rfl rfl (Nat.le_of_ble_eq_true rfl) dL_law_2182 ?_
  refine g_istore X (lv' := [(7, .int r577), (6, .int r574), (0, .ref b), (1, .ref (E.1 0)), (2, .ref (E.1 84)), (3, .ref (E.1 99)), (4, .ref (E.1 100)), (5, .int x5)]) dL_law_2185 (by decide) rfl ?_
  refine g_aload_n X 4 (i0 := 2) dL_law_2187 rfl rfl ?_
  obtain ⟨r580, D579, e578, h⟩ := cI_s h
  refine g_Vk X (As := []) (rest := []) (c_X13_thrown l G E  _ _ e578) 84 (wg_84 E _) rfl rfl kv_L_136 ⟨rfl, rfl⟩ ⟨rfl, hd_X13_thrown⟩ (⟨Nat.le_of_ble_eq_true rfl, Nat.le_of_ble_eq_true rfl⟩) hk1 rfl rfl (Nat.le_of_ble_eq_true rfl) dL_law_2188 ?_
  refine g_iload X 1 dL_law_2191 rfl ?_
  refine g_icmp_eq X (tgt := 2198) dL_law_2193 (by decide) (fun c583 => ?_) (fun c583 => ?_)
  · have h := (ite_s h).1 c583
    refine g_iload X 1 dL_law_2198 rfl ?_
    refine g_if_ne X (tgt := 2215) dL_law_2200 (by decide) (fun c582 => ?_) (fun c582 => ?_)
    · have h := (ite_s h).2 c582
      refine g_goto X (tgt := 2319) dL_law_2215 (by decide) ?_
      refine g_iinc X 7 (v := (x5 + (4 : Int32))) (lv' := [(5, .int (x5 + (4 : Int32))), (7, .int r577), (6, .int r574), (0, .ref b), (1, .ref (E.1 0)), (2, .ref (E.1 84)), (3, .ref (E.1 99)), (4, .ref (E.1 100))]) dL_law_2319 rfl rfl (by decide) rfl ?_
      refine g_goto X (tgt := 28) dL_law_2322 (by decide) ?_
      refine g_sub (lv' := [(0, .ref b), (1, .ref (E.1 0)), (2, .ref (E.1 84)), (3, .ref (E.1 99)), (4, .ref (E.1 100)), (5, .int (x5 + (4 : Int32)))]) [3, 4, 5, 6, 7, 0] rfl ?_
      exact h1 _ (Option.some.inj h).symm
    · have h := (ite_s h).1 c582
      refine g_aload_n X 5 (i0 := 3) dL_law_2203 rfl rfl ?_
      refine g_iconst X (v := (0 : Int32)) dL_law_2204 (by decide) ?_
      refine g_lald X (D := D579) (f := (D579.2.2.2.1 0)) (i := (0 : Int32)) 99 (wg_99 E _) (inB_vp (by decide)) dL_law_2205 ?_
      refine g_iload X 0 dL_law_2206 rfl ?_
      refine g_i2l X dL_law_2208 ?_
      refine g_lcmp X dL_law_2209 ?_
      refine g_if_eq X (tgt := 2215) dL_law_2210 (by decide) (fun c581 => ?_) (fun c581 => ?_)
      · have h := (ite_s h).1 c581
        refine g_goto X (tgt := 2319) dL_law_2215 (by decide) ?_
        refine g_iinc X 7 (v := (x5 + (4 : Int32))) (lv' := [(5, .int (x5 + (4 : Int32))), (7, .int r577), (6, .int r574), (0, .ref b), (1, .ref (E.1 0)), (2, .ref (E.1 84)), (3, .ref (E.1 99)), (4, .ref (E.1 100))]) dL_law_2319 rfl rfl (by decide) rfl ?_
        refine g_goto X (tgt := 28) dL_law_2322 (by decide) ?_
        refine g_sub (lv' := [(0, .ref b), (1, .ref (E.1 0)), (2, .ref (E.1 84)), (3, .ref (E.1 99)), (4, .ref (E.1 100)), (5, .int (x5 + (4 : Int32)))]) [3, 4, 5, 6, 7, 0] rfl ?_
        exact h1 _ (Option.some.inj h).symm
      · have h := (ite_s h).2 c581
        refine g_iconst X (v := (0 : Int32)) dL_law_2213 (by decide) ?_
        exact g_lawret l X hr hE (by omega) (by omega) dL_law_2214 (h2 _ (Option.some.inj h).symm)
  · have h := (ite_s h).2 c583
    refine g_iconst X (v := (0 : Int32)) dL_law_2196 (by decide) ?_
    exact g_lawret l X hr hE (by omega) (by omega) dL_law_2197 (h2 _ (Option.some.inj h).symm)
set_option maxRecDepth 100000 in
set_option maxHeartbeats 8000000 in
theorem bl_law_45 {p : Program} {l : Launch} {e : Env} {s : State} {m : MethodId} {b Ln : Nat} {xs : Nat → Int32} {below : List Frame} {meth : Method} {c : Code} {G : va_G} {E : EE} (X : CX p s m #[Value.ref b] meth c code RL 10 G E) (hfl : l.stackTraces = false) (hr : meth.sig.returnType = ret) (hX : va_X b Ln xs s s.heap) (hbl : b < s.heap.size) (hbA : ¬ fr E s.heap.size b) (hE : ∀ k, k < 101 → s.heap.size ≤ E.1 k) (K S : Nat) (hK : K + 1 ≤ 603072) (hS : S + 6 ≤ 7194730) (x5 : Int32) (D : DD) (o : (Nat × Int32 × DD) ⊕ Int32) (h : b_law_45 xs Ln x5 D = some o) (h1 : ∀ x, o = .inl x → hg_law p l e s m b below meth c G E (K + 1) (S + 6) x.1 x.2.1 x.2.2) (h2 : ∀ x, o = .inr x → x = 1) : GW p l e room_1 s m #[Value.ref b] below meth c G E 10 (lw_Z below #[Value.ref b] s) K S D 2218 [(0, .ref b), (1, .ref (E.1 0)), (2, .ref (E.1 84)), (3, .ref (E.1 99)), (4, .ref (E.1 100)), (5, .int x5)] [] := by
  have hk0 : K + 0 ≤ room_1.cells ∧ S + 0 ≤ room_1.slots := ⟨by show K + 0 ≤ 603072; omega, by show S + 0 ≤ 7194730; omega⟩
  have hk1 : (K + 1) + 0 ≤ room_1.cells ∧ (S + 6) + 0 ≤ room_1.slots := ⟨by show K + 1 + 0 ≤ 603072; omega, by show S + 6 + 0 ≤ 7194730; omega⟩
  have hkw : K + 1 ≤ room_1.cells ∧ S + 6 ≤ room_1.slots := ⟨hK, hS⟩
  unfold b_law_45 at h
  refine g_aload_n X 1 (i0 := 1) dL_law_2218 rfl rfl ?_
  refine g_aload_n X 3 (i0 := 3) dL_law_2219 rfl rfl ?_
  obtain ⟨r586, D585, e584, h⟩ := cI_s h
  refine g_SWk X (As := [.ref (E.1 0), .ref (E.1 99)]) (rest := []) (c_L_undo l hfl G E  _ _ e584) kw_L_290 ⟨rfl, rfl⟩ hd_L_undo (⟨Nat.le_of_ble_eq_true rfl, Nat.le_of_ble_eq_true rfl⟩) hkw rfl rfl (Nat.le_of_ble_eq_true rfl) dL_law_2220 ?_
  refine g_istore X (lv' := [(6, .int r586), (0, .ref b), (1, .ref (E.1 0)), (2, .ref (E.1 84)), (3, .ref (E.1 99)), (4, .ref (E.1 100)), (5, .int x5)]) dL_law_2223 (by decide) rfl ?_
  refine g_aload_n X 3 (i0 := 2) dL_law_2225 rfl rfl ?_
  obtain ⟨r589, D588, e587, h⟩ := cI_s h
  refine g_Vk X (As := []) (rest := []) (c_X13_undo l G E  _ _ e587) 84 (wg_84 E _) rfl rfl kv_L_292 ⟨rfl, rfl⟩ ⟨rfl, hd_X13_undo⟩ (⟨Nat.le_of_ble_eq_true rfl, Nat.le_of_ble_eq_true rfl⟩) hk1 rfl rfl (Nat.le_of_ble_eq_true rfl) dL_law_2226 ?_
  refine g_istore X (lv' := [(7, .int r589), (6, .int r586), (0, .ref b), (1, .ref (E.1 0)), (2, .ref (E.1 84)), (3, .ref (E.1 99)), (4, .ref (E.1 100)), (5, .int x5)]) dL_law_2229 (by decide) rfl ?_
  refine g_aload_n X 4 (i0 := 2) dL_law_2231 rfl rfl ?_
  obtain ⟨r592, D591, e590, h⟩ := cI_s h
  refine g_Vk X (As := []) (rest := []) (c_X13_thrown l G E  _ _ e590) 84 (wg_84 E _) rfl rfl kv_L_136 ⟨rfl, rfl⟩ ⟨rfl, hd_X13_thrown⟩ (⟨Nat.le_of_ble_eq_true rfl, Nat.le_of_ble_eq_true rfl⟩) hk1 rfl rfl (Nat.le_of_ble_eq_true rfl) dL_law_2232 ?_
  refine g_iload X 1 dL_law_2235 rfl ?_
  refine g_icmp_eq X (tgt := 2242) dL_law_2237 (by decide) (fun c595 => ?_) (fun c595 => ?_)
  · have h := (ite_s h).1 c595
    refine g_iload X 1 dL_law_2242 rfl ?_
    refine g_if_ne X (tgt := 2259) dL_law_2244 (by decide) (fun c594 => ?_) (fun c594 => ?_)
    · have h := (ite_s h).2 c594
      refine g_goto X (tgt := 2319) dL_law_2259 (by decide) ?_
      refine g_iinc X 7 (v := (x5 + (4 : Int32))) (lv' := [(5, .int (x5 + (4 : Int32))), (7, .int r589), (6, .int r586), (0, .ref b), (1, .ref (E.1 0)), (2, .ref (E.1 84)), (3, .ref (E.1 99)), (4, .ref (E.1 100))]) dL_law_2319 rfl rfl (by decide) rfl ?_
      refine g_goto X (tgt := 28) dL_law_2322 (by decide) ?_
      refine g_sub (lv' := [(0, .ref b), (1, .ref (E.1 0)), (2, .ref (E.1 84)), (3, .ref (E.1 99)), (4, .ref (E.1 100)), (5, .int (x5 + (4 : Int32)))]) [3, 4, 5, 6, 7, 0] rfl ?_
      exact h1 _ (Option.some.inj h).symm
    · have h := (ite_s h).1 c594
      refine g_aload_n X 5 (i0 := 3) dL_law_2247 rfl rfl ?_
      refine g_iconst X (v := (0 : Int32)) dL_law_2248 (by decide) ?_
      refine g_lald X (D := D591) (f := (D591.2.2.2.1 0)) (i := (0 : Int32)) 99 (wg_99 E _) (inB_vp (by decide)) dL_law_2249 ?_
      refine g_iload X 0 dL_law_2250 rfl ?_
      refine g_i2l X dL_law_2252 ?_
      refine g_lcmp X dL_law_2253 ?_
      refine g_if_eq X (tgt := 2259) dL_law_2254 (by decide) (fun c593 => ?_) (fun c593 => ?_)
      · have h := (ite_s h).1 c593
        refine g_goto X (tgt := 2319) dL_law_2259 (by decide) ?_
        refine g_iinc X 7 (v := (x5 + (4 : Int32))) (lv' := [(5, .int (x5 + (4 : Int32))), (7, .int r589), (6, .int r586), (0, .ref b), (1, .ref (E.1 0)), (2, .ref (E.1 84)), (3, .ref (E.1 99)), (4, .ref (E.1 100))]) dL_law_2319 rfl rfl (by decide) rfl ?_
        refine g_goto X (tgt := 28) dL_law_2322 (by decide) ?_
        refine g_sub (lv' := [(0, .ref b), (1, .ref (E.1 0)), (2, .ref (E.1 84)), (3, .ref (E.1 99)), (4, .ref (E.1 100)), (5, .int (x5 + (4 : Int32)))]) [3, 4, 5, 6, 7, 0] rfl ?_
        exact h1 _ (Option.some.inj h).symm
      · have h := (ite_s h).2 c593
        refine g_iconst X (v := (0 : Int32)) dL_law_2257 (by decide) ?_
        exact g_lawret l X hr hE (by omega) (by omega) dL_law_2258 (h2 _ (Option.some.inj h).symm)
  · have h := (ite_s h).2 c595
    refine g_iconst X (v := (0 : Int32)) dL_law_2240 (by decide) ?_
    exact g_lawret l X hr hE (by omega) (by omega) dL_law_2241 (h2 _ (Option.some.inj h).symm)
set_option maxRecDepth 100000 in
set_option maxHeartbeats 8000000 in
theorem bl_law_46 {p : Program} {l : Launch} {e : Env} {s : State} {m : MethodId} {b Ln : Nat} {xs : Nat → Int32} {below : List Frame} {meth : Method} {c : Code} {G : va_G} {E : EE} (X : CX p s m #[Value.ref b] meth c code RL 10 G E) (hfl : l.stackTraces = false) (hr : meth.sig.returnType = ret) (hX : va_X b Ln xs s s.heap) (hbl : b < s.heap.size) (hbA : ¬ fr E s.heap.size b) (hE : ∀ k, k < 101 → s.heap.size ≤ E.1 k) (K S : Nat) (hK : K + 1 ≤ 603072) (hS : S + 6 ≤ 7194730) (x5 : Int32) (D : DD) (o : (Nat × Int32 × DD) ⊕ Int32) (h : b_law_46 xs Ln x5 D = some o) (h1 : ∀ x, o = .inl x → hg_law p l e s m b below meth c G E (K + 1) (S + 6) x.1 x.2.1 x.2.2) (h2 : ∀ x, o = .inr x → x = 1) : GW p l e room_1 s m #[Value.ref b] below meth c G E 10 (lw_Z below #[Value.ref b] s) K S D 2262 [(0, .ref b), (1, .ref (E.1 0)), (2, .ref (E.1 84)), (3, .ref (E.1 99)), (4, .ref (E.1 100)), (5, .int x5)] [] := by
  have hk0 : K + 0 ≤ room_1.cells ∧ S + 0 ≤ room_1.slots := ⟨by show K + 0 ≤ 603072; omega, by show S + 0 ≤ 7194730; omega⟩
  have hk1 : (K + 1) + 0 ≤ room_1.cells ∧ (S + 6) + 0 ≤ room_1.slots := ⟨by show K + 1 + 0 ≤ 603072; omega, by show S + 6 + 0 ≤ 7194730; omega⟩
  have hkw : K + 1 ≤ room_1.cells ∧ S + 6 ≤ room_1.slots := ⟨hK, hS⟩
  unfold b_law_46 at h
  refine g_aload_n X 1 (i0 := 1) dL_law_2262 rfl rfl ?_
  obtain ⟨r598, D597, e596, h⟩ := cI_s h
  refine g_Vk X (As := []) (rest := []) (c_X12_save l G E  _ _ e596) 0 (wg_0 E _) rfl rfl kv_L_293 ⟨rfl, rfl⟩ ⟨rfl, hd_X12_save⟩ (⟨Nat.le_of_ble_eq_true rfl, Nat.le_of_ble_eq_true rfl⟩) hk0 rfl rfl (Nat.le_of_ble_eq_true rfl) dL_law_2263 ?_
  refine g_aload_n X 2 (i0 := 2) dL_law_2266 rfl rfl ?_
  obtain ⟨r601, D600, e599, h⟩ := cI_s h
  refine g_Vk X (As := []) (rest := [.int r598]) (c_X13_save l G E  _ _ e599) 84 (wg_84 E _) rfl rfl kv_L_296 ⟨rfl, rfl⟩ ⟨rfl, hd_X13_save⟩ (⟨Nat.le_of_ble_eq_true rfl, Nat.le_of_ble_eq_true rfl⟩) hk0 rfl rfl (Nat.le_of_ble_eq_true rfl) dL_law_2267 ?_
  refine g_icmp_eq X (tgt := 2319) dL_law_2270 (by decide) (fun c602 => ?_) (fun c602 => ?_)
  · have h := (ite_s h).1 c602
    refine g_iinc X 5 (v := (x5 + (4 : Int32))) (lv' := [(5, .int (x5 + (4 : Int32))), (0, .ref b), (1, .ref (E.1 0)), (2, .ref (E.1 84)), (3, .ref (E.1 99)), (4, .ref (E.1 100))]) dL_law_2319 rfl rfl (by decide) rfl ?_
    refine g_goto X (tgt := 28) dL_law_2322 (by decide) ?_
    refine g_sub (lv' := [(0, .ref b), (1, .ref (E.1 0)), (2, .ref (E.1 84)), (3, .ref (E.1 99)), (4, .ref (E.1 100)), (5, .int (x5 + (4 : Int32)))]) [1, 2, 3, 4, 5, 0] rfl ?_
    refine g_widen (k2 := K + 1) (s2 := S + 6) (by omega) (by omega) ?_
    exact h1 _ (Option.some.inj h).symm
  · have h := (ite_s h).2 c602
    refine g_iconst X (v := (0 : Int32)) dL_law_2273 (by decide) ?_
    exact g_lawret l X hr hE (by omega) (by omega) dL_law_2274 (h2 _ (Option.some.inj h).symm)
set_option maxRecDepth 100000 in
set_option maxHeartbeats 8000000 in
theorem bl_law_47 {p : Program} {l : Launch} {e : Env} {s : State} {m : MethodId} {b Ln : Nat} {xs : Nat → Int32} {below : List Frame} {meth : Method} {c : Code} {G : va_G} {E : EE} (X : CX p s m #[Value.ref b] meth c code RL 10 G E) (hfl : l.stackTraces = false) (hr : meth.sig.returnType = ret) (hX : va_X b Ln xs s s.heap) (hbl : b < s.heap.size) (hbA : ¬ fr E s.heap.size b) (hE : ∀ k, k < 101 → s.heap.size ≤ E.1 k) (K S : Nat) (hK : K + 1 ≤ 603072) (hS : S + 6 ≤ 7194730) (x5 : Int32) (D : DD) (o : (Nat × Int32 × DD) ⊕ Int32) (h : b_law_47 xs Ln x5 D = some o) (h1 : ∀ x, o = .inl x → hg_law p l e s m b below meth c G E (K + 1) (S + 6) x.1 x.2.1 x.2.2) (h2 : ∀ x, o = .inr x → x = 1) : GW p l e room_1 s m #[Value.ref b] below meth c G E 10 (lw_Z below #[Value.ref b] s) K S D 2275 [(0, .ref b), (1, .ref (E.1 0)), (2, .ref (E.1 84)), (3, .ref (E.1 99)), (4, .ref (E.1 100)), (5, .int x5)] [] := by
  have hk0 : K + 0 ≤ room_1.cells ∧ S + 0 ≤ room_1.slots := ⟨by show K + 0 ≤ 603072; omega, by show S + 0 ≤ 7194730; omega⟩
  have hk1 : (K + 1) + 0 ≤ room_1.cells ∧ (S + 6) + 0 ≤ room_1.slots := ⟨by show K + 1 + 0 ≤ 603072; omega, by show S + 6 + 0 ≤ 7194730; omega⟩
  have hkw : K + 1 ≤ room_1.cells ∧ S + 6 ≤ room_1.slots := ⟨hK, hS⟩
  unfold b_law_47 at h
  refine g_aload_n X 1 (i0 := 1) dL_law_2275 rfl rfl ?_
  refine g_aload_n X 3 (i0 := 3) dL_law_2276 rfl rfl ?_
  obtain ⟨r605, D604, e603, h⟩ := cI_s h
  refine g_SWk X (As := [.ref (E.1 0), .ref (E.1 99)]) (rest := []) (c_L_restore l hfl G E  _ _ e603) kw_L_297 ⟨rfl, rfl⟩ hd_L_restore (⟨Nat.le_of_ble_eq_true rfl, Nat.le_of_ble_eq_true rfl⟩) hkw rfl rfl (Nat.le_of_ble_eq_true rfl) dL_law_2277 ?_
  refine g_istore X (lv' := [(6, .int r605), (0, .ref b), (1, .ref (E.1 0)), (2, .ref (E.1 84)), (3, .ref (E.1 99)), (4, .ref (E.1 100)), (5, .int x5)]) dL_law_2280 (by decide) rfl ?_
  refine g_aload_n X 3 (i0 := 2) dL_law_2282 rfl rfl ?_
  obtain ⟨r608, D607, e606, h⟩ := cI_s h
  refine g_Vk X (As := []) (rest := []) (c_X13_restore l G E  _ _ e606) 84 (wg_84 E _) rfl rfl kv_L_299 ⟨rfl, rfl⟩ ⟨rfl, hd_X13_restore⟩ (⟨Nat.le_of_ble_eq_true rfl, Nat.le_of_ble_eq_true rfl⟩) hk1 rfl rfl (Nat.le_of_ble_eq_true rfl) dL_law_2283 ?_
  refine g_istore X (lv' := [(7, .int r608), (6, .int r605), (0, .ref b), (1, .ref (E.1 0)), (2, .ref (E.1 84)), (3, .ref (E.1 99)), (4, .ref (E.1 100)), (5, .int x5)]) dL_law_2286 (by decide) rfl ?_
  refine g_aload_n X 4 (i0 := 2) dL_law_2288 rfl rfl ?_
  obtain ⟨r611, D610, e609, h⟩ := cI_s h
  refine g_Vk X (As := []) (rest := []) (c_X13_thrown l G E  _ _ e609) 84 (wg_84 E _) rfl rfl kv_L_136 ⟨rfl, rfl⟩ ⟨rfl, hd_X13_thrown⟩ (⟨Nat.le_of_ble_eq_true rfl, Nat.le_of_ble_eq_true rfl⟩) hk1 rfl rfl (Nat.le_of_ble_eq_true rfl) dL_law_2289 ?_
  refine g_iload X 1 dL_law_2292 rfl ?_
  refine g_icmp_eq X (tgt := 2299) dL_law_2294 (by decide) (fun c614 => ?_) (fun c614 => ?_)
  · have h := (ite_s h).1 c614
    refine g_iload X 1 dL_law_2299 rfl ?_
    refine g_if_ne X (tgt := 2316) dL_law_2301 (by decide) (fun c613 => ?_) (fun c613 => ?_)
    · have h := (ite_s h).2 c613
      refine g_goto X (tgt := 2319) dL_law_2316 (by decide) ?_
      refine g_iinc X 7 (v := (x5 + (4 : Int32))) (lv' := [(5, .int (x5 + (4 : Int32))), (7, .int r608), (6, .int r605), (0, .ref b), (1, .ref (E.1 0)), (2, .ref (E.1 84)), (3, .ref (E.1 99)), (4, .ref (E.1 100))]) dL_law_2319 rfl rfl (by decide) rfl ?_
      refine g_goto X (tgt := 28) dL_law_2322 (by decide) ?_
      refine g_sub (lv' := [(0, .ref b), (1, .ref (E.1 0)), (2, .ref (E.1 84)), (3, .ref (E.1 99)), (4, .ref (E.1 100)), (5, .int (x5 + (4 : Int32)))]) [3, 4, 5, 6, 7, 0] rfl ?_
      exact h1 _ (Option.some.inj h).symm
    · have h := (ite_s h).1 c613
      refine g_aload_n X 5 (i0 := 3) dL_law_2304 rfl rfl ?_
      refine g_iconst X (v := (0 : Int32)) dL_law_2305 (by decide) ?_
      refine g_lald X (D := D610) (f := (D610.2.2.2.1 0)) (i := (0 : Int32)) 99 (wg_99 E _) (inB_vp (by decide)) dL_law_2306 ?_
      refine g_iload X 0 dL_law_2307 rfl ?_
      refine g_i2l X dL_law_2309 ?_
      refine g_lcmp X dL_law_2310 ?_
      refine g_if_eq X (tgt := 2316) dL_law_2311 (by decide) (fun c612 => ?_) (fun c612 => ?_)
      · have h := (ite_s h).1 c612
        refine g_goto X (tgt := 2319) dL_law_2316 (by decide) ?_
        refine g_iinc X 7 (v := (x5 + (4 : Int32))) (lv' := [(5, .int (x5 + (4 : Int32))), (7, .int r608), (6, .int r605), (0, .ref b), (1, .ref (E.1 0)), (2, .ref (E.1 84)), (3, .ref (E.1 99)), (4, .ref (E.1 100))]) dL_law_2319 rfl rfl (by decide) rfl ?_
        refine g_goto X (tgt := 28) dL_law_2322 (by decide) ?_
        refine g_sub (lv' := [(0, .ref b), (1, .ref (E.1 0)), (2, .ref (E.1 84)), (3, .ref (E.1 99)), (4, .ref (E.1 100)), (5, .int (x5 + (4 : Int32)))]) [3, 4, 5, 6, 7, 0] rfl ?_
        exact h1 _ (Option.some.inj h).symm
      · have h := (ite_s h).2 c612
        refine g_iconst X (v := (0 : Int32)) dL_law_2314 (by decide) ?_
        exact g_lawret l X hr hE (by omega) (by omega) dL_law_2315 (h2 _ (Option.some.inj h).symm)
  · have h := (ite_s h).2 c614
    refine g_iconst X (v := (0 : Int32)) dL_law_2297 (by decide) ?_
    exact g_lawret l X hr hE (by omega) (by omega) dL_law_2298 (h2 _ (Option.some.inj h).symm)
set_option maxRecDepth 100000 in
set_option maxHeartbeats 8000000 in
theorem c_law {p : Program} {l : Launch} {e : Env} {s : State} {m : MethodId} {b Ln : Nat} {xs : Nat → Int32} {below : List Frame} {meth : Method} {c : Code} {G : va_G} {E : EE} (X : CX p s m #[Value.ref b] meth c code RL 10 G E) (hfl : l.stackTraces = false) (hr : meth.sig.returnType = ret) (hX : va_X b Ln xs s s.heap) (hbl : b < s.heap.size) (hbA : ¬ fr E s.heap.size b) (hE : ∀ k, k < 101 → s.heap.size ≤ E.1 k)  (n : Nat) (hn : n ≤ 100000) (k : Nat) (i : Int32) (D : DD) (h : lrun (T_law xs Ln) n k i D = some 1) : hg_law p l e s m b below meth c G E (603072 - n) (7194730 - 6 * n) k i D := by
  refine lrun_G (T := T_law xs Ln) (HG := fun n k i D => n ≤ 100000 → hg_law p l e s m b below meth c G E (603072 - n) (7194730 - 6 * n) k i D) ?_ n k i D h hn
  intro n k i D o hT h1 h2 hn
  have hK : 603072 - (n + 1) + 1 ≤ 603072 := by omega
  have hS : 7194730 - 6 * (n + 1) + 6 ≤ 7194730 := by omega
  have eK : 603072 - n = 603072 - (n + 1) + 1 := by omega
  have eS : 7194730 - 6 * n = 7194730 - 6 * (n + 1) + 6 := by omega
  have h1 : ∀ x, o = .inl x → hg_law p l e s m b below meth c G E (603072 - (n + 1) + 1) (7194730 - 6 * (n + 1) + 6) x.1 x.2.1 x.2.2 := fun x hx => by rw [← eK, ← eS]; exact h1 x hx (by omega)
  unfold T_law at hT
  split at hT
  · exact bl_law_0 X hfl hr hX hbl hbA hE _ _ hK hS i D o hT h1 h2
  · exact bl_law_1 X hfl hr hX hbl hbA hE _ _ hK hS i D o hT h1 h2
  · exact bl_law_2 X hfl hr hX hbl hbA hE _ _ hK hS i D o hT h1 h2
  · exact bl_law_3 X hfl hr hX hbl hbA hE _ _ hK hS i D o hT h1 h2
  · exact bl_law_4 X hfl hr hX hbl hbA hE _ _ hK hS i D o hT h1 h2
  · exact bl_law_5 X hfl hr hX hbl hbA hE _ _ hK hS i D o hT h1 h2
  · exact bl_law_6 X hfl hr hX hbl hbA hE _ _ hK hS i D o hT h1 h2
  · exact bl_law_7 X hfl hr hX hbl hbA hE _ _ hK hS i D o hT h1 h2
  · exact bl_law_8 X hfl hr hX hbl hbA hE _ _ hK hS i D o hT h1 h2
  · exact bl_law_9 X hfl hr hX hbl hbA hE _ _ hK hS i D o hT h1 h2
  · exact bl_law_10 X hfl hr hX hbl hbA hE _ _ hK hS i D o hT h1 h2
  · exact bl_law_11 X hfl hr hX hbl hbA hE _ _ hK hS i D o hT h1 h2
  · exact bl_law_12 X hfl hr hX hbl hbA hE _ _ hK hS i D o hT h1 h2
  · exact bl_law_13 X hfl hr hX hbl hbA hE _ _ hK hS i D o hT h1 h2
  · exact bl_law_14 X hfl hr hX hbl hbA hE _ _ hK hS i D o hT h1 h2
  · exact bl_law_15 X hfl hr hX hbl hbA hE _ _ hK hS i D o hT h1 h2
  · exact bl_law_16 X hfl hr hX hbl hbA hE _ _ hK hS i D o hT h1 h2
  · exact bl_law_17 X hfl hr hX hbl hbA hE _ _ hK hS i D o hT h1 h2
  · exact bl_law_18 X hfl hr hX hbl hbA hE _ _ hK hS i D o hT h1 h2
  · exact bl_law_19 X hfl hr hX hbl hbA hE _ _ hK hS i D o hT h1 h2
  · exact bl_law_20 X hfl hr hX hbl hbA hE _ _ hK hS i D o hT h1 h2
  · exact bl_law_21 X hfl hr hX hbl hbA hE _ _ hK hS i D o hT h1 h2
  · exact bl_law_22 X hfl hr hX hbl hbA hE _ _ hK hS i D o hT h1 h2
  · exact bl_law_23 X hfl hr hX hbl hbA hE _ _ hK hS i D o hT h1 h2
  · exact bl_law_24 X hfl hr hX hbl hbA hE _ _ hK hS i D o hT h1 h2
  · exact bl_law_25 X hfl hr hX hbl hbA hE _ _ hK hS i D o hT h1 h2
  · exact bl_law_26 X hfl hr hX hbl hbA hE _ _ hK hS i D o hT h1 h2
  · exact bl_law_27 X hfl hr hX hbl hbA hE _ _ hK hS i D o hT h1 h2
  · exact bl_law_28 X hfl hr hX hbl hbA hE _ _ hK hS i D o hT h1 h2
  · exact bl_law_29 X hfl hr hX hbl hbA hE _ _ hK hS i D o hT h1 h2
  · exact bl_law_30 X hfl hr hX hbl hbA hE _ _ hK hS i D o hT h1 h2
  · exact bl_law_31 X hfl hr hX hbl hbA hE _ _ hK hS i D o hT h1 h2
  · exact bl_law_32 X hfl hr hX hbl hbA hE _ _ hK hS i D o hT h1 h2
  · exact bl_law_33 X hfl hr hX hbl hbA hE _ _ hK hS i D o hT h1 h2
  · exact bl_law_34 X hfl hr hX hbl hbA hE _ _ hK hS i D o hT h1 h2
  · exact bl_law_35 X hfl hr hX hbl hbA hE _ _ hK hS i D o hT h1 h2
  · exact bl_law_36 X hfl hr hX hbl hbA hE _ _ hK hS i D o hT h1 h2
  · exact bl_law_37 X hfl hr hX hbl hbA hE _ _ hK hS i D o hT h1 h2
  · exact bl_law_38 X hfl hr hX hbl hbA hE _ _ hK hS i D o hT h1 h2
  · exact bl_law_39 X hfl hr hX hbl hbA hE _ _ hK hS i D o hT h1 h2
  · exact bl_law_40 X hfl hr hX hbl hbA hE _ _ hK hS i D o hT h1 h2
  · exact bl_law_41 X hfl hr hX hbl hbA hE _ _ hK hS i D o hT h1 h2
  · exact bl_law_42 X hfl hr hX hbl hbA hE _ _ hK hS i D o hT h1 h2
  · exact bl_law_43 X hfl hr hX hbl hbA hE _ _ hK hS i D o hT h1 h2
  · exact bl_law_44 X hfl hr hX hbl hbA hE _ _ hK hS i D o hT h1 h2
  · exact bl_law_45 X hfl hr hX hbl hbA hE _ _ hK hS i D o hT h1 h2
  · exact bl_law_46 X hfl hr hX hbl hbA hE _ _ hK hS i D o hT h1 h2
  · exact bl_law_47 X hfl hr hX hbl hbA hE _ _ hK hS i D o hT h1 h2
  · cases hT
