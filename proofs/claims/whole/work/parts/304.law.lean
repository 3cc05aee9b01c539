set_option maxRecDepth 100000 in
set_option maxHeartbeats 8000000 in
theorem bl_law_0 {p : Program} {l : Launch} {e : Env} {s : State} {m : MethodId} {b Ln : Nat} {xs : Nat → Int32} {below : List Frame} {meth : Method} {c : Code} {G : va_G} {E : EE} (X : CX p s m #[Value.ref b] meth c code RL 10 G E) (hfl : l.stackTraces = false) (hr : meth.sig.returnType = ret) (hX : va_X b Ln xs s s.heap) (hbl : b < s.heap.size) (hbA : ¬ fr E s.heap.size b) (hE : ∀ k, k < 101 → s.heap.size ≤ E.1 k) (K S : Nat) (hK : K + 1 ≤ 603072) (hS : S + 6 ≤ 7194730) (x5 : Int32) (D : DD) (o : (Nat × Int32 × DD) ⊕ Int32) (h : b_law_0 xs Ln x5 D = some o) (h1 : ∀ x, o = .inl x → hg_law p l e s m b below meth c G E (K + 1) (S + 6) x.1 x.2.1 x.2.2) (h2 : ∀ x, o = .inr x → x = 1) : GW p l e room_1 s m #[Value.ref b] below meth c G E 10 (lw_Z below #[Value.ref b] s) K S D 28 [(0, .ref b), (1, .ref (E.1 0)), (2, .ref (E.1 84)), (3, .ref (E.1 99)), (4, .ref (E.1 100)), (5, .int x5)] [] := by
  have hk0 : K + 0 ≤ room_1.cells ∧ S + 0 ≤ room_1.slots := ⟨by show K + 0 ≤ 603072; omega, by show S + 0 ≤ 7194730; omega⟩
  have hk1 : (K + 1) + 0 ≤ room_1.cells ∧ (S + 6) + 0 ≤ room_1.slots := ⟨by show K + 1 + 0 ≤ 603072; omega, by show S + 6 + 0 ≤ 7194730; omega⟩
  have hkw : K + 1 ≤ room_1.cells ∧ S + 6 ≤ room_1.slots := ⟨hK, hS⟩
  unfold b_law_0 at h
  refine g_iload X 5 dL_law_28 rfl ?_
  refine g_aload_n X 0 (i0 := 0) dL_law_30 rfl rfl ?_
  refine g_slen X hX hbl hbA dL_law_31 ?_
  refine g_iconst X (v := (4 : Int32)) dL_law_32 (by decide) ?_
  refine g_isub X dL_law_33 ?_
  refine g_icmp_gt X (tgt := 2325) dL_law_34 (by decide) (fun c49 => ?_) (fun c49 => ?_)
  · have h := (ite_s h).1 c49
    refine g_iconst X (v := (1 : Int32)) dL_law_2325 (by decide) ?_
    exact g_lawret l X hr hE (by omega) (by omega) dL_law_2326 (h2 _ (Option.some.inj h).symm)
  · have h := (ite_s h).2 c49
    refine g_aload_n X 0 (i0 := 0) dL_law_37 rfl rfl ?_
    refine g_iload X 5 dL_law_38 rfl ?_
    obtain ⟨b1, h⟩ := chk_s h
    refine g_sld X hX hbl hbA (i := x5) (inB_vp b1) dL_law_40 ?_
    refine g_bipush X (v := (63 : Int32)) dL_law_41 (by decide) ?_
    refine g_iand X dL_law_43 ?_
    by_cases w2 : ((xs x5.toNatClampNeg) &&& (63 : Int32)) = (0 : Int32)
    · have h := (ite_s h).1 w2
      refine g_tswIn X (tgt := 248) dL_law_44 w2 (by decide) (by decide) rfl (by decide) ?_
      refine g_sub (lv' := [(0, .ref b), (1, .ref (E.1 0)), (2, .ref (E.1 84)), (3, .ref (E.1 99)), (4, .ref (E.1 100)), (5, .int x5)]) [0, 1, 2, 3, 4, 5] rfl ?_
      refine g_widen (k2 := K + 1) (s2 := S + 6) (by omega) (by omega) ?_
      exact h1 _ (Option.some.inj h).symm
    have h := (ite_s h).2 w2
    by_cases w3 : ((xs x5.toNatClampNeg) &&& (63 : Int32)) = (1 : Int32)
    · have h := (ite_s h).1 w3
      refine g_tswIn X (tgt := 328) dL_law_44 w3 (by decide) (by decide) rfl (by decide) ?_
      refine g_sub (lv' := [(0, .ref b), (1, .ref (E.1 0)), (2, .ref (E.1 84)), (3, .ref (E.1 99)), (4, .ref (E.1 100)), (5, .int x5)]) [0, 1, 2, 3, 4, 5] rfl ?_
      refine g_widen (k2 := K + 1) (s2 := S + 6) (by omega) (by omega) ?_
      exact h1 _ (Option.some.inj h).symm
    have h := (ite_s h).2 w3
    by_cases w4 : ((xs x5.toNatClampNeg) &&& (63 : Int32)) = (2 : Int32)
    · have h := (ite_s h).1 w4
      refine g_tswIn X (tgt := 395) dL_law_44 w4 (by decide) (by decide) rfl (by decide) ?_
      refine g_sub (lv' := [(0, .ref b), (1, .ref (E.1 0)), (2, .ref (E.1 84)), (3, .ref (E.1 99)), (4, .ref (E.1 100)), (5, .int x5)]) [0, 1, 2, 3, 4, 5] rfl ?_
      refine g_widen (k2 := K + 1) (s2 := S + 6) (by omega) (by omega) ?_
      exact h1 _ (Option.some.inj h).symm
    have h := (ite_s h).2 w4
    by_cases w5 : ((xs x5.toNatClampNeg) &&& (63 : Int32)) = (3 : Int32)
    · have h := (ite_s h).1 w5
      refine g_tswIn X (tgt := 463) dL_law_44 w5 (by decide) (by decide) rfl (by decide) ?_
      refine g_sub (lv' := [(0, .ref b), (1, .ref (E.1 0)), (2, .ref (E.1 84)), (3, .ref (E.1 99)), (4, .ref (E.1 100)), (5, .int x5)]) [0, 1, 2, 3, 4, 5] rfl ?_
      refine g_widen (k2 := K + 1) (s2 := S + 6) (by omega) (by omega) ?_
      exact h1 _ (Option.some.inj h).symm
    have h := (ite_s h).2 w5
    by_cases w6 : ((xs x5.toNatClampNeg) &&& (63 : Int32)) = (4 : Int32)
    · have h := (ite_s h).1 w6
      refine g_tswIn X (tgt := 538) dL_law_44 w6 (by decide) (by decide) rfl (by decide) ?_
      refine g_sub (lv' := [(0, .ref b), (1, .ref (E.1 0)), (2, .ref (E.1 84)), (3, .ref (E.1 99)), (4, .ref (E.1 100)), (5, .int x5)]) [0, 1, 2, 3, 4, 5] rfl ?_
      refine g_widen (k2 := K + 1) (s2 := S + 6) (by omega) (by omega) ?_
      exact h1 _ (Option.some.inj h).symm
    have h := (ite_s h).2 w6
    by_cases w7 : ((xs x5.toNatClampNeg) &&& (63 : Int32)) = (5 : Int32)
    · have h := (ite_s h).1 w7
      refine g_tswIn X (tgt := 551) dL_law_44 w7 (by decide) (by decide) rfl (by decide) ?_
      refine g_sub (lv' := [(0, .ref b), (1, .ref (E.1 0)), (2, .ref (E.1 84)), (3, .ref (E.1 99)), (4, .ref (E.1 100)), (5, .int x5)]) [0, 1, 2, 3, 4, 5] rfl ?_
      refine g_widen (k2 := K + 1) (s2 := S + 6) (by omega) (by omega) ?_
      exact h1 _ (Option.some.inj h).symm
    have h := (ite_s h).2 w7
    by_cases w8 : ((xs x5.toNatClampNeg) &&& (63 : Int32)) = (6 : Int32)
    · have h := (ite_s h).1 w8
      refine g_tswIn X (tgt := 607) dL_law_44 w8 (by decide) (by decide) rfl (by decide) ?_
      refine g_sub (lv' := [(0, .ref b), (1, .ref (E.1 0)), (2, .ref (E.1 84)), (3, .ref (E.1 99)), (4, .ref (E.1 100)), (5, .int x5)]) [0, 1, 2, 3, 4, 5] rfl ?_
      refine g_widen (k2 := K + 1) (s2 := S + 6) (by omega) (by omega) ?_
      exact h1 _ (Option.some.inj h).symm
    have h := (ite_s h).2 w8
    by_cases w9 : ((xs x5.toNatClampNeg) &&& (63 : Int32)) = (7 : Int32)
    · have h := (ite_s h).1 w9
      refine g_tswIn X (tgt := 675) dL_law_44 w9 (by decide) (by decide) rfl (by decide) ?_
      refine g_sub (lv' := [(0, .ref b), (1, .ref (E.1 0)), (2, .ref (E.1 84)), (3, .ref (E.1 99)), (4, .ref (E.1 100)), (5, .int x5)]) [0, 1, 2, 3, 4, 5] rfl ?_
      refine g_widen (k2 := K + 1) (s2 := S + 6) (by omega) (by omega) ?_
      exact h1 _ (Option.some.inj h).symm
    have h := (ite_s h).2 w9
    by_cases w10 : ((xs x5.toNatClampNeg) &&& (63 : Int32)) = (8 : Int32)
    · have h := (ite_s h).1 w10
      refine g_tswIn X (tgt := 755) dL_law_44 w10 (by decide) (by decide) rfl (by decide) ?_
      refine g_sub (lv' := [(0, .ref b), (1, .ref (E.1 0)), (2, .ref (E.1 84)), (3, .ref (E.1 99)), (4, .ref (E.1 100)), (5, .int x5)]) [0, 1, 2, 3, 4, 5] rfl ?_
      refine g_widen (k2 := K + 1) (s2 := S + 6) (by omega) (by omega) ?_
      exact h1 _ (Option.some.inj h).symm
    have h := (ite_s h).2 w10
    by_cases w11 : ((xs x5.toNatClampNeg) &&& (63 : Int32)) = (9 : Int32)
    · have h := (ite_s h).1 w11
      refine g_tswIn X (tgt := 811) dL_law_44 w11 (by decide) (by decide) rfl (by decide) ?_
      refine g_sub (lv' := [(0, .ref b), (1, .ref (E.1 0)), (2, .ref (E.1 84)), (3, .ref (E.1 99)), (4, .ref (E.1 100)), (5, .int x5)]) [0, 1, 2, 3, 4, 5] rfl ?_
      refine g_widen (k2 := K + 1) (s2 := S + 6) (by omega) (by omega) ?_
      exact h1 _ (Option.some.inj h).symm
    have h := (ite_s h).2 w11
    by_cases w12 : ((xs x5.toNatClampNeg) &&& (63 : Int32)) = (10 : Int32)
    · have h := (ite_s h).1 w12
      refine g_tswIn X (tgt := 867) dL_law_44 w12 (by decide) (by decide) rfl (by decide) ?_
      refine g_sub (lv' := [(0, .ref b), (1, .ref (E.1 0)), (2, .ref (E.1 84)), (3, .ref (E.1 99)), (4, .ref (E.1 100)), (5, .int x5)]) [0, 1, 2, 3, 4, 5] rfl ?_
      refine g_widen (k2 := K + 1) (s2 := S + 6) (by omega) (by omega) ?_
      exact h1 _ (Option.some.inj h).symm
    have h := (ite_s h).2 w12
    by_cases w13 : ((xs x5.toNatClampNeg) &&& (63 : Int32)) = (11 : Int32)
    · have h := (ite_s h).1 w13
      refine g_tswIn X (tgt := 880) dL_law_44 w13 (by decide) (by decide) rfl (by decide) ?_
      refine g_sub (lv' := [(0, .ref b), (1, .ref (E.1 0)), (2, .ref (E.1 84)), (3, .ref (E.1 99)), (4, .ref (E.1 100)), (5, .int x5)]) [0, 1, 2, 3, 4, 5] rfl ?_
      refine g_widen (k2 := K + 1) (s2 := S + 6) (by omega) (by omega) ?_
      exact h1 _ (Option.some.inj h).symm
    have h := (ite_s h).2 w13
    by_cases w14 : ((xs x5.toNatClampNeg) &&& (63 : Int32)) = (12 : Int32)
    · have h := (ite_s h).1 w14
      refine g_tswIn X (tgt := 936) dL_law_44 w14 (by decide) (by decide) rfl (by decide) ?_
      refine g_sub (lv' := [(0, .ref b), (1, .ref (E.1 0)), (2, .ref (E.1 84)), (3, .ref (E.1 99)), (4, .ref (E.1 100)), (5, .int x5)]) [0, 1, 2, 3, 4, 5] rfl ?_
      refine g_widen (k2 := K + 1) (s2 := S + 6) (by omega) (by omega) ?_
      exact h1 _ (Option.some.inj h).symm
    have h := (ite_s h).2 w14
    by_cases w15 : ((xs x5.toNatClampNeg) &&& (63 : Int32)) = (13 : Int32)
    · have h := (ite_s h).1 w15
      refine g_tswIn X (tgt := 992) dL_law_44 w15 (by decide) (by decide) rfl (by decide) ?_
      refine g_sub (lv' := [(0, .ref b), (1, .ref (E.1 0)), (2, .ref (E.1 84)), (3, .ref (E.1 99)), (4, .ref (E.1 100)), (5, .int x5)]) [0, 1, 2, 3, 4, 5] rfl ?_
      refine g_widen (k2 := K + 1) (s2 := S + 6) (by omega) (by omega) ?_
      exact h1 _ (Option.some.inj h).symm
    have h := (ite_s h).2 w15
    by_cases w16 : ((xs x5.toNatClampNeg) &&& (63 : Int32)) = (14 : Int32)
    · have h := (ite_s h).1 w16
      refine g_tswIn X (tgt := 1048) dL_law_44 w16 (by decide) (by decide) rfl (by decide) ?_
      refine g_sub (lv' := [(0, .ref b), (1, .ref (E.1 0)), (2, .ref (E.1 84)), (3, .ref (E.1 99)), (4, .ref (E.1 100)), (5, .int x5)]) [0, 1, 2, 3, 4, 5] rfl ?_
      refine g_widen (k2 := K + 1) (s2 := S + 6) (by omega) (by omega) ?_
      exact h1 _ (Option.some.inj h).symm
    have h := (ite_s h).2 w16
    by_cases w17 : ((xs x5.toNatClampNeg) &&& (63 : Int32)) = (15 : Int32)
    · have h := (ite_s h).1 w17
      refine g_tswIn X (tgt := 1104) dL_law_44 w17 (by decide) (by decide) rfl (by decide) ?_
      refine g_sub (lv' := [(0, .ref b), (1, .ref (E.1 0)), (2, .ref (E.1 84)), (3, .ref (E.1 99)), (4, .ref (E.1 100)), (5, .int x5)]) [0, 1, 2, 3, 4, 5] rfl ?_
      refine g_widen (k2 := K + 1) (s2 := S + 6) (by omega) (by omega) ?_
      exact h1 _ (Option.some.inj h).symm
    have h := (ite_s h).2 w17
    by_cases w18 : ((xs x5.toNatClampNeg) &&& (63 : Int32)) = (16 : Int32)
    · have h := (ite_s h).1 w18
      refine g_tswIn X (tgt := 1160) dL_law_44 w18 (by decide) (by decide) rfl (by decide) ?_
      refine g_sub (lv' := [(0, .ref b), (1, .ref (E.1 0)), (2, .ref (E.1 84)), (3, .ref (E.1 99)), (4, .ref (E.1 100)), (5, .int x5)]) [0, 1, 2, 3, 4, 5] rfl ?_
      refine g_widen (k2 := K + 1) (s2 := S + 6) (by omega) (by omega) ?_
      exact h1 _ (Option.some.inj h).symm
    have h := (ite_s h).2 w18
    by_cases w19 : ((xs x5.toNatClampNeg) &&& (63 : Int32)) = (17 : Int32)
    · have h := (ite_s h).1 w19
      refine g_tswIn X (tgt := 1216) dL_law_44 w19 (by decide) (by decide) rfl (by decide) ?_
      refine g_sub (lv' := [(0, .ref b), (1, .ref (E.1 0)), (2, .ref (E.1 84)), (3, .ref (E.1 99)), (4, .ref (E.1 100)), (5, .int x5)]) [0, 1, 2, 3, 4, 5] rfl ?_
      refine g_widen (k2 := K + 1) (s2 := S + 6) (by omega) (by omega) ?_
      exact h1 _ (Option.some.inj h).symm
    have h := (ite_s h).2 w19
    by_cases w20 : ((xs x5.toNatClampNeg) &&& (63 : Int32)) = (18 : Int32)
    · have h := (ite_s h).1 w20
      refine g_tswIn X (tgt := 1260) dL_law_44 w20 (by decide) (by decide) rfl (by decide) ?_
      refine g_sub (lv' := [(0, .ref b), (1, .ref (E.1 0)), (2, .ref (E.1 84)), (3, .ref (E.1 99)), (4, .ref (E.1 100)), (5, .int x5)]) [0, 1, 2, 3, 4, 5] rfl ?_
      refine g_widen (k2 := K + 1) (s2 := S + 6) (by omega) (by omega) ?_
      exact h1 _ (Option.some.inj h).symm
    have h := (ite_s h).2 w20
    by_cases w21 : ((xs x5.toNatClampNeg) &&& (63 : Int32)) = (19 : Int32)
    · have h := (ite_s h).1 w21
      refine g_tswIn X (tgt := 1273) dL_law_44 w21 (by decide) (by decide) rfl (by decide) ?_
      refine g_sub (lv' := [(0, .ref b), (1, .ref (E.1 0)), (2, .ref (E.1 84)), (3, .ref (E.1 99)), (4, .ref (E.1 100)), (5, .int x5)]) [0, 1, 2, 3, 4, 5] rfl ?_
      refine g_widen (k2 := K + 1) (s2 := S + 6) (by omega) (by omega) ?_
      exact h1 _ (Option.some.inj h).symm
    have h := (ite_s h).2 w21
    by_cases w22 : ((xs x5.toNatClampNeg) &&& (63 : Int32)) = (20 : Int32)
    · have h := (ite_s h).1 w22
      refine g_tswIn X (tgt := 1286) dL_law_44 w22 (by decide) (by decide) rfl (by decide) ?_
      refine g_sub (lv' := [(0, .ref b), (1, .ref (E.1 0)), (2, .ref (E.1 84)), (3, .ref (E.1 99)), (4, .ref (E.1 100)), (5, .int x5)]) [0, 1, 2, 3, 4, 5] rfl ?_
      refine g_widen (k2 := K + 1) (s2 := S + 6) (by omega) (by omega) ?_
      exact h1 _ (Option.some.inj h).symm
    have h := (ite_s h).2 w22
    by_cases w23 : ((xs x5.toNatClampNeg) &&& (63 : Int32)) = (21 : Int32)
    · have h := (ite_s h).1 w23
      refine g_tswIn X (tgt := 1299) dL_law_44 w23 (by decide) (by decide) rfl (by decide) ?_
      refine g_sub (lv' := [(0, .ref b), (1, .ref (E.1 0)), (2, .ref (E.1 84)), (3, .ref (E.1 99)), (4, .ref (E.1 100)), (5, .int x5)]) [0, 1, 2, 3, 4, 5] rfl ?_
      refine g_widen (k2 := K + 1) (s2 := S + 6) (by omega) (by omega) ?_
      exact h1 _ (Option.some.inj h).symm
    have h := (ite_s h).2 w23
    by_cases w24 : ((xs x5.toNatClampNeg) &&& (63 : Int32)) = (22 : Int32)
    · have h := (ite_s h).1 w24
      refine g_tswIn X (tgt := 1312) dL_law_44 w24 (by decide) (by decide) rfl (by decide) ?_
      refine g_sub (lv' := [(0, .ref b), (1, .ref (E.1 0)), (2, .ref (E.1 84)), (3, .ref (E.1 99)), (4, .ref (E.1 100)), (5, .int x5)]) [0, 1, 2, 3, 4, 5] rfl ?_
      refine g_widen (k2 := K + 1) (s2 := S + 6) (by omega) (by omega) ?_
      exact h1 _ (Option.some.inj h).symm
    have h := (ite_s h).2 w24
    by_cases w25 : ((xs x5.toNatClampNeg) &&& (63 : Int32)) = (23 : Int32)
    · have h := (ite_s h).1 w25
      refine g_tswIn X (tgt := 1325) dL_law_44 w25 (by decide) (by decide) rfl (by decide) ?_
      refine g_sub (lv' := [(0, .ref b), (1, .ref (E.1 0)), (2, .ref (E.1 84)), (3, .ref (E.1 99)), (4, .ref (E.1 100)), (5, .int x5)]) [0, 1, 2, 3, 4, 5] rfl ?_
      refine g_widen (k2 := K + 1) (s2 := S + 6) (by omega) (by omega) ?_
      exact h1 _ (Option.some.inj h).symm
    have h := (ite_s h).2 w25
    by_cases w26 : ((xs x5.toNatClampNeg) &&& (63 : Int32)) = (24 : Int32)
    · have h := (ite_s h).1 w26
      refine g_tswIn X (tgt := 1338) dL_law_44 w26 (by decide) (by decide) rfl (by decide) ?_
      refine g_sub (lv' := [(0, .ref b), (1, .ref (E.1 0)), (2, .ref (E.1 84)), (3, .ref (E.1 99)), (4, .ref (E.1 100)), (5, .int x5)]) [0, 1, 2, 3, 4, 5] rfl ?_
      refine g_widen (k2 := K + 1) (s2 := S + 6) (by omega) (by omega) ?_
      exact h1 _ (Option.some.inj h).symm
    have h := (ite_s h).2 w26
    by_cases w27 : ((xs x5.toNatClampNeg) &&& (63 : Int32)) = (25 : Int32)
    · have h := (ite_s h).1 w27
      refine g_tswIn X (tgt := 1406) dL_law_44 w27 (by decide) (by decide) rfl (by decide) ?_
      refine g_sub (lv' := [(0, .ref b), (1, .ref (E.1 0)), (2, .ref (E.1 84)), (3, .ref (E.1 99)), (4, .ref (E.1 100)), (5, .int x5)]) [0, 1, 2, 3, 4, 5] rfl ?_
      refine g_widen (k2 := K + 1) (s2 := S + 6) (by omega) (by omega) ?_
      exact h1 _ (Option.some.inj h).symm
    have h := (ite_s h).2 w27
    by_cases w28 : ((xs x5.toNatClampNeg) &&& (63 : Int32)) = (26 : Int32)
    · have h := (ite_s h).1 w28
      refine g_tswIn X (tgt := 1462) dL_law_44 w28 (by decide) (by decide) rfl (by decide) ?_
      refine g_sub (lv' := [(0, .ref b), (1, .ref (E.1 0)), (2, .ref (E.1 84)), (3, .ref (E.1 99)), (4, .ref (E.1 100)), (5, .int x5)]) [0, 1, 2, 3, 4, 5] rfl ?_
      refine g_widen (k2 := K + 1) (s2 := S + 6) (by omega) (by omega) ?_
      exact h1 _ (Option.some.inj h).symm
    have h := (ite_s h).2 w28
    by_cases w29 : ((xs x5.toNatClampNeg) &&& (63 : Int32)) = (27 : Int32)
    · have h := (ite_s h).1 w29
      refine g_tswIn X (tgt := 1518) dL_law_44 w29 (by decide) (by decide) rfl (by decide) ?_
      refine g_sub (lv' := [(0, .ref b), (1, .ref (E.1 0)), (2, .ref (E.1 84)), (3, .ref (E.1 99)), (4, .ref (E.1 100)), (5, .int x5)]) [0, 1, 2, 3, 4, 5] rfl ?_
      refine g_widen (k2 := K + 1) (s2 := S + 6) (by omega) (by omega) ?_
      exact h1 _ (Option.some.inj h).symm
    have h := (ite_s h).2 w29
    by_cases w30 : ((xs x5.toNatClampNeg) &&& (63 : Int32)) = (28 : Int32)
    · have h := (ite_s h).1 w30
      refine g_tswIn X (tgt := 1574) dL_law_44 w30 (by decide) (by decide) rfl (by decide) ?_
      refine g_sub (lv' := [(0, .ref b), (1, .ref (E.1 0)), (2, .ref (E.1 84)), (3, .ref (E.1 99)), (4, .ref (E.1 100)), (5, .int x5)]) [0, 1, 2, 3, 4, 5] rfl ?_
      refine g_widen (k2 := K + 1) (s2 := S + 6) (by omega) (by omega) ?_
      exact h1 _ (Option.some.inj h).symm
    have h := (ite_s h).2 w30
    by_cases w31 : ((xs x5.toNatClampNeg) &&& (63 : Int32)) = (29 : Int32)
    · have h := (ite_s h).1 w31
      refine g_tswIn X (tgt := 1630) dL_law_44 w31 (by decide) (by decide) rfl (by decide) ?_
      refine g_sub (lv' := [(0, .ref b), (1, .ref (E.1 0)), (2, .ref (E.1 84)), (3, .ref (E.1 99)), (4, .ref (E.1 100)), (5, .int x5)]) [0, 1, 2, 3, 4, 5] rfl ?_
      refine g_widen (k2 := K + 1) (s2 := S + 6) (by omega) (by omega) ?_
      exact h1 _ (Option.some.inj h).symm
    have h := (ite_s h).2 w31
    by_cases w32 : ((xs x5.toNatClampNeg) &&& (63 : Int32)) = (30 : Int32)
    · have h := (ite_s h).1 w32
      refine g_tswIn X (tgt := 1686) dL_law_44 w32 (by decide) (by decide) rfl (by decide) ?_
      refine g_sub (lv' := [(0, .ref b), (1, .ref (E.1 0)), (2, .ref (E.1 84)), (3, .ref (E.1 99)), (4, .ref (E.1 100)), (5, .int x5)]) [0, 1, 2, 3, 4, 5] rfl ?_
      refine g_widen (k2 := K + 1) (s2 := S + 6) (by omega) (by omega) ?_
      exact h1 _ (Option.some.inj h).symm
    have h := (ite_s h).2 w32
    by_cases w33 : ((xs x5.toNatClampNeg) &&& (63 : Int32)) = (31 : Int32)
    · have h := (ite_s h).1 w33
      refine g_tswIn X (tgt := 1699) dL_law_44 w33 (by decide) (by decide) rfl (by decide) ?_
      refine g_sub (lv' := [(0, .ref b), (1, .ref (E.1 0)), (2, .ref (E.1 84)), (3, .ref (E.1 99)), (4, .ref (E.1 100)), (5, .int x5)]) [0, 1, 2, 3, 4, 5] rfl ?_
      refine g_widen (k2 := K + 1) (s2 := S + 6) (by omega) (by omega) ?_
      exact h1 _ (Option.some.inj h).symm
    have h := (ite_s h).2 w33
    by_cases w34 : ((xs x5.toNatClampNeg) &&& (63 : Int32)) = (32 : Int32)
    · have h := (ite_s h).1 w34
      refine g_tswIn X (tgt := 1712) dL_law_44 w34 (by decide) (by decide) rfl (by decide) ?_
      refine g_sub (lv' := [(0, .ref b), (1, .ref (E.1 0)), (2, .ref (E.1 84)), (3, .ref (E.1 99)), (4, .ref (E.1 100)), (5, .int x5)]) [0, 1, 2, 3, 4, 5] rfl ?_
      refine g_widen (k2 := K + 1) (s2 := S + 6) (by omega) (by omega) ?_
      exact h1 _ (Option.some.inj h).symm
    have h := (ite_s h).2 w34
    by_cases w35 : ((xs x5.toNatClampNeg) &&& (63 : Int32)) = (33 : Int32)
    · have h := (ite_s h).1 w35
      refine g_tswIn X (tgt := 1725) dL_law_44 w35 (by decide) (by decide) rfl (by decide) ?_
      refine g_sub (lv' := [(0, .ref b), (1, .ref (E.1 0)), (2, .ref (E.1 84)), (3, .ref (E.1 99)), (4, .ref (E.1 100)), (5, .int x5)]) [0, 1, 2, 3, 4, 5] rfl ?_
      refine g_widen (k2 := K + 1) (s2 := S + 6) (by omega) (by omega) ?_
      exact h1 _ (Option.some.inj h).symm
    have h := (ite_s h).2 w35
    by_cases w36 : ((xs x5.toNatClampNeg) &&& (63 : Int32)) = (34 : Int32)
    · have h := (ite_s h).1 w36
      refine g_tswIn X (tgt := 1739) dL_law_44 w36 (by decide) (by decide) rfl (by decide) ?_
      refine g_sub (lv' := [(0, .ref b), (1, .ref (E.1 0)), (2, .ref (E.1 84)), (3, .ref (E.1 99)), (4, .ref (E.1 100)), (5, .int x5)]) [0, 1, 2, 3, 4, 5] rfl ?_
      refine g_widen (k2 := K + 1) (s2 := S + 6) (by omega) (by omega) ?_
      exact h1 _ (Option.some.inj h).symm
    have h := (ite_s h).2 w36
    by_cases w37 : ((xs x5.toNatClampNeg) &&& (63 : Int32)) = (35 : Int32)
    · have h := (ite_s h).1 w37
      refine g_tswIn X (tgt := 1804) dL_law_44 w37 (by decide) (by decide) rfl (by decide) ?_
      refine g_sub (lv' := [(0, .ref b), (1, .ref (E.1 0)), (2, .ref (E.1 84)), (3, .ref (E.1 99)), (4, .ref (E.1 100)), (5, .int x5)]) [0, 1, 2, 3, 4, 5] rfl ?_
      refine g_widen (k2 := K + 1) (s2 := S + 6) (by omega) (by omega) ?_
      exact h1 _ (Option.some.inj h).symm
    have h := (ite_s h).2 w37
    by_cases w38 : ((xs x5.toNatClampNeg) &&& (63 : Int32)) = (36 : Int32)
    · have h := (ite_s h).1 w38
      refine g_tswIn X (tgt := 1847) dL_law_44 w38 (by decide) (by decide) rfl (by decide) ?_
      refine g_sub (lv' := [(0, .ref b), (1, .ref (E.1 0)), (2, .ref (E.1 84)), (3, .ref (E.1 99)), (4, .ref (E.1 100)), (5, .int x5)]) [0, 1, 2, 3, 4, 5] rfl ?_
      refine g_widen (k2 := K + 1) (s2 := S + 6) (by omega) (by omega) ?_
      exact h1 _ (Option.some.inj h).symm
    have h := (ite_s h).2 w38
    by_cases w39 : ((xs x5.toNatClampNeg) &&& (63 : Int32)) = (37 : Int32)
    · have h := (ite_s h).1 w39
      refine g_tswIn X (tgt := 1903) dL_law_44 w39 (by decide) (by decide) rfl (by decide) ?_
      refine g_sub (lv' := [(0, .ref b), (1, .ref (E.1 0)), (2, .ref (E.1 84)), (3, .ref (E.1 99)), (4, .ref (E.1 100)), (5, .int x5)]) [0, 1, 2, 3, 4, 5] rfl ?_
      refine g_widen (k2 := K + 1) (s2 := S + 6) (by omega) (by omega) ?_
      exact h1 _ (Option.some.inj h).symm
    have h := (ite_s h).2 w39
    by_cases w40 : ((xs x5.toNatClampNeg) &&& (63 : Int32)) = (38 : Int32)
    · have h := (ite_s h).1 w40
      refine g_tswIn X (tgt := 1959) dL_law_44 w40 (by decide) (by decide) rfl (by decide) ?_
      refine g_sub (lv' := [(0, .ref b), (1, .ref (E.1 0)), (2, .ref (E.1 84)), (3, .ref (E.1 99)), (4, .ref (E.1 100)), (5, .int x5)]) [0, 1, 2, 3, 4, 5] rfl ?_
      refine g_widen (k2 := K + 1) (s2 := S + 6) (by omega) (by omega) ?_
      exact h1 _ (Option.some.inj h).symm
    have h := (ite_s h).2 w40
    by_cases w41 : ((xs x5.toNatClampNeg) &&& (63 : Int32)) = (39 : Int32)
    · have h := (ite_s h).1 w41
      refine g_tswIn X (tgt := 2015) dL_law_44 w41 (by decide) (by decide) rfl (by decide) ?_
      refine g_sub (lv' := [(0, .ref b), (1, .ref (E.1 0)), (2, .ref (E.1 84)), (3, .ref (E.1 99)), (4, .ref (E.1 100)), (5, .int x5)]) [0, 1, 2, 3, 4, 5] rfl ?_
      refine g_widen (k2 := K + 1) (s2 := S + 6) (by omega) (by omega) ?_
      exact h1 _ (Option.some.inj h).symm
    have h := (ite_s h).2 w41
    by_cases w42 : ((xs x5.toNatClampNeg) &&& (63 : Int32)) = (40 : Int32)
    · have h := (ite_s h).1 w42
      refine g_tswIn X (tgt := 2028) dL_law_44 w42 (by decide) (by decide) rfl (by decide) ?_
      refine g_sub (lv' := [(0, .ref b), (1, .ref (E.1 0)), (2, .ref (E.1 84)), (3, .ref (E.1 99)), (4, .ref (E.1 100)), (5, .int x5)]) [0, 1, 2, 3, 4, 5] rfl ?_
      refine g_widen (k2 := K + 1) (s2 := S + 6) (by omega) (by omega) ?_
      exact h1 _ (Option.some.inj h).symm
    have h := (ite_s h).2 w42
    by_cases w43 : ((xs x5.toNatClampNeg) &&& (63 : Int32)) = (41 : Int32)
    · have h := (ite_s h).1 w43
      refine g_tswIn X (tgt := 2086) dL_law_44 w43 (by decide) (by decide) rfl (by decide) ?_
      refine g_sub (lv' := [(0, .ref b), (1, .ref (E.1 0)), (2, .ref (E.1 84)), (3, .ref (E.1 99)), (4, .ref (E.1 100)), (5, .int x5)]) [0, 1, 2, 3, 4, 5] rfl ?_
      refine g_widen (k2 := K + 1) (s2 := S + 6) (by omega) (by omega) ?_
      exact h1 _ (Option.some.inj h).symm
    have h := (ite_s h).2 w43
    by_cases w44 : ((xs x5.toNatClampNeg) &&& (63 : Int32)) = (42 : Int32)
    · have h := (ite_s h).1 w44
      refine g_tswIn X (tgt := 2130) dL_law_44 w44 (by decide) (by decide) rfl (by decide) ?_
      refine g_sub (lv' := [(0, .ref b), (1, .ref (E.1 0)), (2, .ref (E.1 84)), (3, .ref (E.1 99)), (4, .ref (E.1 100)), (5, .int x5)]) [0, 1, 2, 3, 4, 5] rfl ?_
      refine g_widen (k2 := K + 1) (s2 := S + 6) (by omega) (by omega) ?_
      exact h1 _ (Option.some.inj h).symm
    have h := (ite_s h).2 w44
    by_cases w45 : ((xs x5.toNatClampNeg) &&& (63 : Int32)) = (43 : Int32)
    · have h := (ite_s h).1 w45
      refine g_tswIn X (tgt := 2174) dL_law_44 w45 (by decide) (by decide) rfl (by decide) ?_
      refine g_sub (lv' := [(0, .ref b), (1, .ref (E.1 0)), (2, .ref (E.1 84)), (3, .ref (E.1 99)), (4, .ref (E.1 100)), (5, .int x5)]) [0, 1, 2, 3, 4, 5] rfl ?_
      refine g_widen (k2 := K + 1) (s2 := S + 6) (by omega) (by omega) ?_
      exact h1 _ (Option.some.inj h).symm
    have h := (ite_s h).2 w45
    by_cases w46 : ((xs x5.toNatClampNeg) &&& (63 : Int32)) = (44 : Int32)
    · have h := (ite_s h).1 w46
      refine g_tswIn X (tgt := 2218) dL_law_44 w46 (by decide) (by decide) rfl (by decide) ?_
      refine g_sub (lv' := [(0, .ref b), (1, .ref (E.1 0)), (2, .ref (E.1 84)), (3, .ref (E.1 99)), (4, .ref (E.1 100)), (5, .int x5)]) [0, 1, 2, 3, 4, 5] rfl ?_
      refine g_widen (k2 := K + 1) (s2 := S + 6) (by omega) (by omega) ?_
      exact h1 _ (Option.some.inj h).symm
    have h := (ite_s h).2 w46
    by_cases w47 : ((xs x5.toNatClampNeg) &&& (63 : Int32)) = (45 : Int32)
    · have h := (ite_s h).1 w47
      refine g_tswIn X (tgt := 2262) dL_law_44 w47 (by decide) (by decide) rfl (by decide) ?_
      refine g_sub (lv' := [(0, .ref b), (1, .ref (E.1 0)), (2, .ref (E.1 84)), (3, .ref (E.1 99)), (4, .ref (E.1 100)), (5, .int x5)]) [0, 1, 2, 3, 4, 5] rfl ?_
      refine g_widen (k2 := K + 1) (s2 := S + 6) (by omega) (by omega) ?_
      exact h1 _ (Option.some.inj h).symm
    have h := (ite_s h).2 w47
    by_cases w48 : ((xs x5.toNatClampNeg) &&& (63 : Int32)) = (46 : Int32)
    · have h := (ite_s h).1 w48
      refine g_tswIn X (tgt := 2275) dL_law_44 w48 (by decide) (by decide) rfl (by decide) ?_
      refine g_sub (lv' := [(0, .ref b), (1, .ref (E.1 0)), (2, .ref (E.1 84)), (3, .ref (E.1 99)), (4, .ref (E.1 100)), (5, .int x5)]) [0, 1, 2, 3, 4, 5] rfl ?_
      refine g_widen (k2 := K + 1) (s2 := S + 6) (by omega) (by omega) ?_
      exact h1 _ (Option.some.inj h).symm
    have h := (ite_s h).2 w48
    have zw2 := lv_neT w2 (show (0 : Int32).toInt = 0 by decide)
    have zw3 := lv_neT w3 (show (1 : Int32).toInt = 1 by decide)
    have zw4 := lv_neT w4 (show (2 : Int32).toInt = 2 by decide)
    have zw5 := lv_neT w5 (show (3 : Int32).toInt = 3 by decide)
    have zw6 := lv_neT w6 (show (4 : Int32).toInt = 4 by decide)
    have zw7 := lv_neT w7 (show (5 : Int32).toInt = 5 by decide)
    have zw8 := lv_neT w8 (show (6 : Int32).toInt = 6 by decide)
    have zw9 := lv_neT w9 (show (7 : Int32).toInt = 7 by decide)
    have zw10 := lv_neT w10 (show (8 : Int32).toInt = 8 by decide)
    have zw11 := lv_neT w11 (show (9 : Int32).toInt = 9 by decide)
    have zw12 := lv_neT w12 (show (10 : Int32).toInt = 10 by decide)
    have zw13 := lv_neT w13 (show (11 : Int32).toInt = 11 by decide)
    have zw14 := lv_neT w14 (show (12 : Int32).toInt = 12 by decide)
    have zw15 := lv_neT w15 (show (13 : Int32).toInt = 13 by decide)
    have zw16 := lv_neT w16 (show (14 : Int32).toInt = 14 by decide)
    have zw17 := lv_neT w17 (show (15 : Int32).toInt = 15 by decide)
    have zw18 := lv_neT w18 (show (16 : Int32).toInt = 16 by decide)
    have zw19 := lv_neT w19 (show (17 : Int32).toInt = 17 by decide)
    have zw20 := lv_neT w20 (show (18 : Int32).toInt = 18 by decide)
    have zw21 := lv_neT w21 (show (19 : Int32).toInt = 19 by decide)
    have zw22 := lv_neT w22 (show (20 : Int32).toInt = 20 by decide)
    have zw23 := lv_neT w23 (show (21 : Int32).toInt = 21 by decide)
    have zw24 := lv_neT w24 (show (22 : Int32).toInt = 22 by decide)
    have zw25 := lv_neT w25 (show (23 : Int32).toInt = 23 by decide)
    have zw26 := lv_neT w26 (show (24 : Int32).toInt = 24 by decide)
    have zw27 := lv_neT w27 (show (25 : Int32).toInt = 25 by decide)
    have zw28 := lv_neT w28 (show (26 : Int32).toInt = 26 by decide)
    have zw29 := lv_neT w29 (show (27 : Int32).toInt = 27 by decide)
    have zw30 := lv_neT w30 (show (28 : Int32).toInt = 28 by decide)
    have zw31 := lv_neT w31 (show (29 : Int32).toInt = 29 by decide)
    have zw32 := lv_neT w32 (show (30 : Int32).toInt = 30 by decide)
    have zw33 := lv_neT w33 (show (31 : Int32).toInt = 31 by decide)
    have zw34 := lv_neT w34 (show (32 : Int32).toInt = 32 by decide)
    have zw35 := lv_neT w35 (show (33 : Int32).toInt = 33 by decide)
    have zw36 := lv_neT w36 (show (34 : Int32).toInt = 34 by decide)
    have zw37 := lv_neT w37 (show (35 : Int32).toInt = 35 by decide)
    have zw38 := lv_neT w38 (show (36 : Int32).toInt = 36 by decide)
    have zw39 := lv_neT w39 (show (37 : Int32).toInt = 37 by decide)
    have zw40 := lv_neT w40 (show (38 : Int32).toInt = 38 by decide)
    have zw41 := lv_neT w41 (show (39 : Int32).toInt = 39 by decide)
    have zw42 := lv_neT w42 (show (40 : Int32).toInt = 40 by decide)
    have zw43 := lv_neT w43 (show (41 : Int32).toInt = 41 by decide)
    have zw44 := lv_neT w44 (show (42 : Int32).toInt = 42 by decide)
    have zw45 := lv_neT w45 (show (43 : Int32).toInt = 43 by decide)
    have zw46 := lv_neT w46 (show (44 : Int32).toInt = 44 by decide)
    have zw47 := lv_neT w47 (show (45 : Int32).toInt = 45 by decide)
    have zw48 := lv_neT w48 (show (46 : Int32).toInt = 46 by decide)
    refine g_tswOut X (tgt := 2319) dL_law_44 (by omega) (by decide) ?_
    refine g_iinc X 5 (v := (x5 + (4 : Int32))) (lv' := [(5, .int (x5 + (4 : Int32))), (0, .ref b), (1, .ref (E.1 0)), (2, .ref (E.1 84)), (3, .ref (E.1 99)), (4, .ref (E.1 100))]) dL_law_2319 rfl rfl (by decide) rfl ?_
    refine g_goto X (tgt := 28) dL_law_2322 (by decide) ?_
    refine g_sub (lv' := [(0, .ref b), (1, .ref (E.1 0)), (2, .ref (E.1 84)), (3, .ref (E.1 99)), (4, .ref (E.1 100)), (5, .int (x5 + (4 : Int32)))]) [1, 2, 3, 4, 5, 0] rfl ?_
    refine g_widen (k2 := K + 1) (s2 := S + 6) (by omega) (by omega) ?_
    exact h1 _ (Option.some.inj h).symm
set_option maxRecDepth 100000 in
set_option maxHeartbeats 8000000 in
theorem bl_law_1 {p : Program} {l : Launch} {e : Env} {s : State} {m : MethodId} {b Ln : Nat} {xs : Nat → Int32} {below : List Frame} {meth : Method} {c : Code} {G : va_G} {E : EE} (X : CX p s m #[Value.ref b] meth c code RL 10 G E) (hfl : l.stackTraces = false) (hr : meth.sig.returnType = ret) (hX : va_X b Ln xs s s.heap) (hbl : b < s.heap.size) (hbA : ¬ fr E s.heap.size b) (hE : ∀ k, k < 101 → s.heap.size ≤ E.1 k) (K S : Nat) (hK : K + 1 ≤ 603072) (hS : S + 6 ≤ 7194730) (x5 : Int32) (D : DD) (o : (Nat × Int32 × DD) ⊕ Int32) (h : b_law_1 xs Ln x5 D = some o) (h1 : ∀ x, o = .inl x → hg_law p l e s m b below meth c G E (K + 1) (S + 6) x.1 x.2.1 x.2.2) (h2 : ∀ x, o = .inr x → x = 1) : GW p l e room_1 s m #[Value.ref b] below meth c G E 10 (lw_Z below #[Value.ref b] s) K S D 248 [(0, .ref b), (1, .ref (E.1 0)), (2, .ref (E.1 84)), (3, .ref (E.1 99)), (4, .ref (E.1 100)), (5, .int x5)] [] := by
  have hk0 : K + 0 ≤ room_1.cells ∧ S + 0 ≤ room_1.slots := ⟨by show K + 0 ≤ 603072; omega, by show S + 0 ≤ 7194730; omega⟩
  have hk1 : (K + 1) + 0 ≤ room_1.cells ∧ (S + 6) + 0 ≤ room_1.slots := ⟨by show K + 1 + 0 ≤ 603072; omega, by show S + 6 + 0 ≤ 7194730; omega⟩
  have hkw : K + 1 ≤ room_1.cells ∧ S + 6 ≤ room_1.slots := ⟨hK, hS⟩
  unfold b_law_1 at h
  refine g_aload_n X 1 (i0 := 1) dL_law_248 rfl rfl ?_
  refine g_aload_n X 0 (i0 := 0) dL_law_249 rfl rfl ?_
  refine g_iload X 5 dL_law_250 rfl ?_
  refine g_iconst X (v := (1 : Int32)) dL_law_252 (by decide) ?_
  refine g_iadd X dL_law_253 ?_
  obtain ⟨b50, h⟩ := chk_s h
  refine g_sld X hX hbl hbA (i := (x5 + (1 : Int32))) (inB_vp b50) dL_law_254 ?_
  refine g_aload_n X 0 (i0 := 0) dL_law_255 rfl rfl ?_
  refine g_iload X 5 dL_law_256 rfl ?_
  refine g_iconst X (v := (2 : Int32)) dL_law_258 (by decide) ?_
  refine g_iadd X dL_law_259 ?_
  obtain ⟨b51, h⟩ := chk_s h
  refine g_sld X hX hbl hbA (i := (x5 + (2 : Int32))) (inB_vp b51) dL_law_260 ?_
  refine g_aload_n X 0 (i0 := 0) dL_law_261 rfl rfl ?_
  refine g_iload X 5 dL_law_262 rfl ?_
  refine g_iconst X (v := (3 : Int32)) dL_law_264 (by decide) ?_
  refine g_iadd X dL_law_265 ?_
  obtain ⟨b52, h⟩ := chk_s h
  refine g_sld X hX hbl hbA (i := (x5 + (3 : Int32))) (inB_vp b52) dL_law_266 ?_
  refine g_aload_n X 3 (i0 := 3) dL_law_267 rfl rfl ?_
  obtain ⟨r55, D54, e53, h⟩ := cI_s h
  refine g_SWk X (As := [.ref (E.1 0), .int (xs (x5 + (1 : Int32)).toNatClampNeg), .int (xs (x5 + (2 : Int32)).toNatClampNeg), .int (xs (x5 + (3 : Int32)).toNatClampNeg), .ref (E.1 99)]) (rest := []) (c_L_setHardness l hfl G E (xs (x5 + (1 : Int32)).toNatClampNeg) (xs (x5 + (2 : Int32)).toNatClampNeg) (xs (x5 + (3 : Int32)).toNatClampNeg) _ _ e53) kw_L_130 ⟨rfl, rfl⟩ hd_L_setHardness (⟨Nat.le_of_ble_eq_true rfl, Nat.le_of_ble_eq_true rfl⟩) hkw rfl rfl (Nat.le_of_ble_eq_true rfl) dL_law_268 ?_
  refine g_istore X (lv' := [(6, .int r55), (0, .ref b), (1, .ref (E.1 0)), (2, .ref (E.1 84)), (3, .ref (E.1 99)), (4, .ref (E.1 100)), (5, .int x5)]) dL_law_271 (by decide) rfl ?_
  refine g_aload_n X 3 (i0 := 2) dL_law_273 rfl rfl ?_
  refine g_aload_n X 1 (i0 := 0) dL_law_274 rfl rfl ?_
  refine g_iload X 6 dL_law_275 rfl ?_
  refine g_iconst X (v := (1 : Int32)) dL_law_277 (by decide) ?_
  refine g_iadd X dL_law_278 ?_
  obtain ⟨b56, h⟩ := chk_s h
  refine g_sld X hX hbl hbA (i := (x5 + (1 : Int32))) (inB_vp b56) dL_law_279 ?_
  refine g_aload_n X 1 (i0 := 0) dL_law_280 rfl rfl ?_
  refine g_iload X 6 dL_law_281 rfl ?_
  refine g_iconst X (v := (2 : Int32)) dL_law_283 (by decide) ?_
  refine g_iadd X dL_law_284 ?_
  obtain ⟨b57, h⟩ := chk_s h
  refine g_sld X hX hbl hbA (i := (x5 + (2 : Int32))) (inB_vp b57) dL_law_285 ?_
  refine g_aload_n X 1 (i0 := 0) dL_law_286 rfl rfl ?_
  refine g_iload X 6 dL_law_287 rfl ?_
  refine g_iconst X (v := (3 : Int32)) dL_law_289 (by decide) ?_
  refine g_iadd X dL_law_290 ?_
  obtain ⟨b58, h⟩ := chk_s h
  refine g_sld X hX hbl hbA (i := (x5 + (3 : Int32))) (inB_vp b58) dL_law_291 ?_
  obtain ⟨r61, D60, e59, h⟩ := cI_s h
  refine g_Vk X (As := [.int (xs (x5 + (1 : Int32)).toNatClampNeg), .int (xs (x5 + (2 : Int32)).toNatClampNeg), .int (xs (x5 + (3 : Int32)).toNatClampNeg)]) (rest := []) (c_X13_setHardness l G E (xs (x5 + (1 : Int32)).toNatClampNeg) (xs (x5 + (2 : Int32)).toNatClampNeg) (xs (x5 + (3 : Int32)).toNatClampNeg) _ _ e59) 84 (wg_84 E _) rfl rfl kv_L_135 ⟨rfl, rfl⟩ ⟨rfl, hd_X13_setHardness⟩ (⟨Nat.le_of_ble_eq_true rfl, Nat.le_of_ble_eq_true rfl⟩) hk1 rfl rfl (Nat.le_of_ble_eq_true rfl) dL_law_292 ?_
  refine g_istore X (lv' := [(7, .int r61), (6, .int r55), (0, .ref b), (1, .ref (E.1 0)), (2, .ref (E.1 84)), (3, .ref (E.1 99)), (4, .ref (E.1 100)), (5, .int x5)]) dL_law_295 (by decide) rfl ?_
  refine g_aload_n X 4 (i0 := 2) dL_law_297 rfl rfl ?_
  obtain ⟨r64, D63, e62, h⟩ := cI_s h
  refine g_Vk X (As := []) (rest := []) (c_X13_thrown l G E  _ _ e62) 84 (wg_84 E _) rfl rfl kv_L_136 ⟨rfl, rfl⟩ ⟨rfl, hd_X13_thrown⟩ (⟨Nat.le_of_ble_eq_true rfl, Nat.le_of_ble_eq_true rfl⟩) hk1 rfl rfl (Nat.le_of_ble_eq_true rfl) dL_law_298 ?_
  refine g_iload X 1 dL_law_301 rfl ?_
  refine g_icmp_eq X (tgt := 308) dL_law_303 (by decide) (fun c67 => ?_) (fun c67 => ?_)
  · have h := (ite_s h).1 c67
    refine g_iload X 1 dL_law_308 rfl ?_
    refine g_if_ne X (tgt := 325) dL_law_310 (by decide) (fun c66 => ?_) (fun c66 => ?_)
    · have h := (ite_s h).2 c66
      refine g_goto X (tgt := 2319) dL_law_325 (by decide) ?_
      refine g_iinc X 7 (v := (x5 + (4 : Int32))) (lv' := [(5, .int (x5 + (4 : Int32))), (7, .int r61), (6, .int r55), (0, .ref b), (1, .ref (E.1 0)), (2, .ref (E.1 84)), (3, .ref (E.1 99)), (4, .ref (E.1 100))]) dL_law_2319 rfl rfl (by decide) rfl ?_
      refine g_goto X (tgt := 28) dL_law_2322 (by decide) ?_
      refine g_sub (lv' := [(0, .ref b), (1, .ref (E.1 0)), (2, .ref (E.1 84)), (3, .ref (E.1 99)), (4, .ref (E.1 100)), (5, .int (x5 + (4 : Int32)))]) [3, 4, 5, 6, 7, 0] rfl ?_
      exact h1 _ (Option.some.inj h).symm
    · have h := (ite_s h).1 c66
      refine g_aload_n X 5 (i0 := 3) dL_law_313 rfl rfl ?_
      refine g_iconst X (v := (0 : Int32)) dL_law_314 (by decide) ?_
      refine g_lald X (D := D63) (f := (D63.2.2.2.1 0)) (i := (0 : Int32)) 99 (wg_99 E _) (inB_vp (by decide)) dL_law_315 ?_
      refine g_iload X 0 dL_law_316 rfl ?_
      refine g_i2l X dL_law_318 ?_
      refine g_lcmp X dL_law_319 ?_
      refine g_if_eq X (tgt := 325) dL_law_320 (by decide) (fun c65 => ?_) (fun c65 => ?_)
      · have h := (ite_s h).1 c65
        refine g_goto X (tgt := 2319) dL_law_325 (by decide) ?_
        refine g_iinc X 7 (v := (x5 + (4 : Int32))) (lv' := [(5, .int (x5 + (4 : Int32))), (7, .int r61), (6, .int r55), (0, .ref b), (1, .ref (E.1 0)), (2, .ref (E.1 84)), (3, .ref (E.1 99)), (4, .ref (E.1 100))]) dL_law_2319 rfl rfl (by decide) rfl ?_
        refine g_goto X (tgt := 28) dL_law_2322 (by decide) ?_
        refine g_sub (lv' := [(0, .ref b), (1, .ref (E.1 0)), (2, .ref (E.1 84)), (3, .ref (E.1 99)), (4, .ref (E.1 100)), (5, .int (x5 + (4 : Int32)))]) [3, 4, 5, 6, 7, 0] rfl ?_
        exact h1 _ (Option.some.inj h).symm
      · have h := (ite_s h).2 c65
        refine g_iconst X (v := (0 : Int32)) dL_law_323 (by decide) ?_
        exact g_lawret l X hr hE (by omega) (by omega) dL_law_324 (h2 _ (Option.some.inj h).symm)
  · have h := (ite_s h).2 c67
    refine g_iconst X (v := (0 : Int32)) dL_law_306 (by decide) ?_
    exact g_lawret l X hr hE (by omega) (by omega) dL_law_307 (h2 _ (Option.some.inj h).symm)
set_option maxRecDepth 100000 in
set_option maxHeartbeats 8000000 in
theorem bl_law_2 {p : Program} {l : Launch} {e : Env} {s : State} {m : MethodId} {b Ln : Nat} {xs : Nat → Int32} {below : List Frame} {meth : Method} {c : Code} {G : va_G} {E : EE} (X : CX p s m #[Value.ref b] meth c code RL 10 G E) (hfl : l.stackTraces = false) (hr : meth.sig.returnType = ret) (hX : va_X b Ln xs s s.heap) (hbl : b < s.heap.size) (hbA : ¬ fr E s.heap.size b) (hE : ∀ k, k < 101 → s.heap.size ≤ E.1 k) (K S : Nat) (hK : K + 1 ≤ 603072) (hS : S + 6 ≤ 7194730) (x5 : Int32) (D : DD) (o : (Nat × Int32 × DD) ⊕ Int32) (h : b_law_2 xs Ln x5 D = some o) (h1 : ∀ x, o = .inl x → hg_law p l e s m b below meth c G E (K + 1) (S + 6) x.1 x.2.1 x.2.2) (h2 : ∀ x, o = .inr x → x = 1) : GW p l e room_1 s m #[Value.ref b] below meth c G E 10 (lw_Z below #[Value.ref b] s) K S D 328 [(0, .ref b), (1, .ref (E.1 0)), (2, .ref (E.1 84)), (3, .ref (E.1 99)), (4, .ref (E.1 100)), (5, .int x5)] [] := by
  have hk0 : K + 0 ≤ room_1.cells ∧ S + 0 ≤ room_1.slots := ⟨by show K + 0 ≤ 603072; omega, by show S + 0 ≤ 7194730; omega⟩
  have hk1 : (K + 1) + 0 ≤ room_1.cells ∧ (S + 6) + 0 ≤ room_1.slots := ⟨by show K + 1 + 0 ≤ 603072; omega, by show S + 6 + 0 ≤ 7194730; omega⟩
  have hkw : K + 1 ≤ room_1.cells ∧ S + 6 ≤ room_1.slots := ⟨hK, hS⟩
  unfold b_law_2 at h
  refine g_aload_n X 1 (i0 := 1) dL_law_328 rfl rfl ?_
  refine g_aload_n X 0 (i0 := 0) dL_law_329 rfl rfl ?_
  refine g_iload X 5 dL_law_330 rfl ?_
  refine g_iconst X (v := (1 : Int32)) dL_law_332 (by decide) ?_
  refine g_iadd X dL_law_333 ?_
  obtain ⟨b68, h⟩ := chk_s h
  refine g_sld X hX hbl hbA (i := (x5 + (1 : Int32))) (inB_vp b68) dL_law_334 ?_
  refine g_aload_n X 0 (i0 := 0) dL_law_335 rfl rfl ?_
  refine g_iload X 5 dL_law_336 rfl ?_
  refine g_iconst X (v := (2 : Int32)) dL_law_338 (by decide) ?_
  refine g_iadd X dL_law_339 ?_
  obtain ⟨b69, h⟩ := chk_s h
  refine g_sld X hX hbl hbA (i := (x5 + (2 : Int32))) (inB_vp b69) dL_law_340 ?_
  refine g_aload_n X 3 (i0 := 3) dL_law_341 rfl rfl ?_
  obtain ⟨r72, D71, e70, h⟩ := cI_s h
  refine g_SWk X (As := [.ref (E.1 0), .int (xs (x5 + (1 : Int32)).toNatClampNeg), .int (xs (x5 + (2 : Int32)).toNatClampNeg), .ref (E.1 99)]) (rest := []) (c_L_dig l hfl G E (xs (x5 + (1 : Int32)).toNatClampNeg) (xs (x5 + (2 : Int32)).toNatClampNeg) _ _ e70) kw_L_139 ⟨rfl, rfl⟩ hd_L_dig (⟨Nat.le_of_ble_eq_true rfl, Nat.le_of_ble_eq_true rfl⟩) hkw rfl rfl (Nat.le_of_ble_eq_true rfl) dL_law_342 ?_
  refine g_istore X (lv' := [(6, .int r72), (0, .ref b), (1, .ref (E.1 0)), (2, .ref (E.1 84)), (3, .ref (E.1 99)), (4, .ref (E.1 100)), (5, .int x5)]) dL_law_345 (by decide) rfl ?_
  refine g_aload_n X 3 (i0 := 2) dL_law_347 rfl rfl ?_
  refine g_aload_n X 1 (i0 := 0) dL_law_348 rfl rfl ?_
  refine g_iload X 6 dL_law_349 rfl ?_
  refine g_iconst X (v := (1 : Int32)) dL_law_351 (by decide) ?_
  refine g_iadd X dL_law_352 ?_
  obtain ⟨b73, h⟩ := chk_s h
  refine g_sld X hX hbl hbA (i := (x5 + (1 : Int32))) (inB_vp b73) dL_law_353 ?_
  refine g_aload_n X 1 (i0 := 0) dL_law_354 rfl rfl ?_
  refine g_iload X 6 dL_law_355 rfl ?_
  refine g_iconst X (v := (2 : Int32)) dL_law_357 (by decide) ?_
  refine g_iadd X dL_law_358 ?_
  obtain ⟨b74, h⟩ := chk_s h
  refine g_sld X hX hbl hbA (i := (x5 + (2 : Int32))) (inB_vp b74) dL_law_359 ?_
  obtain ⟨r77, D76, e75, h⟩ := cL_s h
  refine g_Vk X (As := [.int (xs (x5 + (1 : Int32)).toNatClampNeg), .int (xs (x5 + (2 : Int32)).toNatClampNeg)]) (rest := []) (c_X13_dig l G E (xs (x5 + (1 : Int32)).toNatClampNeg) (xs (x5 + (2 : Int32)).toNatClampNeg) _ _ e75) 84 (wg_84 E _) rfl rfl kv_L_142 ⟨rfl, rfl⟩ ⟨rfl, hd_X13_dig⟩ (⟨Nat.le_of_ble_eq_true rfl, Nat.le_of_ble_eq_true rfl⟩) hk1 rfl rfl (Nat.le_of_ble_eq_true rfl) dL_law_360 ?_
  refine g_lstore X (lv' := [(7, .long r77), (6, .int r72), (0, .ref b), (1, .ref (E.1 0)), (2, .ref (E.1 84)), (3, .ref (E.1 99)), (4, .ref (E.1 100)), (5, .int x5)]) dL_law_363 (by decide) rfl ?_
  refine g_aload_n X 4 (i0 := 2) dL_law_365 rfl rfl ?_
  obtain ⟨r80, D79, e78, h⟩ := cI_s h
  refine g_Vk X (As := []) (rest := []) (c_X13_thrown l G E  _ _ e78) 84 (wg_84 E _) rfl rfl kv_L_136 ⟨rfl, rfl⟩ ⟨rfl, hd_X13_thrown⟩ (⟨Nat.le_of_ble_eq_true rfl, Nat.le_of_ble_eq_true rfl⟩) hk1 rfl rfl (Nat.le_of_ble_eq_true rfl) dL_law_366 ?_
  refine g_iload X 1 dL_law_369 rfl ?_
  refine g_icmp_eq X (tgt := 376) dL_law_371 (by decide) (fun c83 => ?_) (fun c83 => ?_)
  · have h := (ite_s h).1 c83
    refine g_iload X 1 dL_law_376 rfl ?_
    refine g_if_ne X (tgt := 392) dL_law_378 (by decide) (fun c82 => ?_) (fun c82 => ?_)
    · have h := (ite_s h).2 c82
      refine g_goto X (tgt := 2319) dL_law_392 (by decide) ?_
      refine g_iinc X 7 (v := (x5 + (4 : Int32))) (lv' := [(5, .int (x5 + (4 : Int32))), (7, .long r77), (6, .int r72), (0, .ref b), (1, .ref (E.1 0)), (2, .ref (E.1 84)), (3, .ref (E.1 99)), (4, .ref (E.1 100))]) dL_law_2319 rfl rfl (by decide) rfl ?_
      refine g_goto X (tgt := 28) dL_law_2322 (by decide) ?_
      refine g_sub (lv' := [(0, .ref b), (1, .ref (E.1 0)), (2, .ref (E.1 84)), (3, .ref (E.1 99)), (4, .ref (E.1 100)), (5, .int (x5 + (4 : Int32)))]) [3, 4, 5, 6, 7, 0] rfl ?_
      exact h1 _ (Option.some.inj h).symm
    · have h := (ite_s h).1 c82
      refine g_aload_n X 5 (i0 := 3) dL_law_381 rfl rfl ?_
      refine g_iconst X (v := (0 : Int32)) dL_law_382 (by decide) ?_
      refine g_lald X (D := D79) (f := (D79.2.2.2.1 0)) (i := (0 : Int32)) 99 (wg_99 E _) (inB_vp (by decide)) dL_law_383 ?_
      refine g_lload X 0 dL_law_384 rfl ?_
      refine g_lcmp X dL_law_386 ?_
      refine g_if_eq X (tgt := 392) dL_law_387 (by decide) (fun c81 => ?_) (fun c81 => ?_)
      · have h := (ite_s h).1 c81
        refine g_goto X (tgt := 2319) dL_law_392 (by decide) ?_
        refine g_iinc X 7 (v := (x5 + (4 : Int32))) (lv' := [(5, .int (x5 + (4 : Int32))), (7, .long r77), (6, .int r72), (0, .ref b), (1, .ref (E.1 0)), (2, .ref (E.1 84)), (3, .ref (E.1 99)), (4, .ref (E.1 100))]) dL_law_2319 rfl rfl (by decide) rfl ?_
        refine g_goto X (tgt := 28) dL_law_2322 (by decide) ?_
        refine g_sub (lv' := [(0, .ref b), (1, .ref (E.1 0)), (2, .ref (E.1 84)), (3, .ref (E.1 99)), (4, .ref (E.1 100)), (5, .int (x5 + (4 : Int32)))]) [3, 4, 5, 6, 7, 0] rfl ?_
        exact h1 _ (Option.some.inj h).symm
      · have h := (ite_s h).2 c81
        refine g_iconst X (v := (0 : Int32)) dL_law_390 (by decide) ?_
        exact g_lawret l X hr hE (by omega) (by omega) dL_law_391 (h2 _ (Option.some.inj h).symm)
  · have h := (ite_s h).2 c83
    refine g_iconst X (v := (0 : Int32)) dL_law_374 (by decide) ?_
    exact g_lawret l X hr hE (by omega) (by omega) dL_law_375 (h2 _ (Option.some.inj h).symm)
set_option maxRecDepth 100000 in
set_option maxHeartbeats 8000000 in
theorem bl_law_3 {p : Program} {l : Launch} {e : Env} {s : State} {m : MethodId} {b Ln : Nat} {xs : Nat → Int32} {below : List Frame} {meth : Method} {c : Code} {G : va_G} {E : EE} (X : CX p s m #[Value.ref b] meth c code RL 10 G E) (hfl : l.stackTraces = false) (hr : meth.sig.returnType = ret) (hX : va_X b Ln xs s s.heap) (hbl : b < s.heap.size) (hbA : ¬ fr E s.heap.size b) (hE : ∀ k, k < 101 → s.heap.size ≤ E.1 k) (K S : Nat) (hK : K + 1 ≤ 603072) (hS : S + 6 ≤ 7194730) (x5 : Int32) (D : DD) (o : (Nat × Int32 × DD) ⊕ Int32) (h : b_law_3 xs Ln x5 D = some o) (h1 : ∀ x, o = .inl x → hg_law p l e s m b below meth c G E (K + 1) (S + 6) x.1 x.2.1 x.2.2) (h2 : ∀ x, o = .inr x → x = 1) : GW p l e room_1 s m #[Value.ref b] below meth c G E 10 (lw_Z below #[Value.ref b] s) K S D 395 [(0, .ref b), (1, .ref (E.1 0)), (2, .ref (E.1 84)), (3, .ref (E.1 99)), (4, .ref (E.1 100)), (5, .int x5)] [] := by
  have hk0 : K + 0 ≤ room_1.cells ∧ S + 0 ≤ room_1.slots := ⟨by show K + 0 ≤ 603072; omega, by show S + 0 ≤ 7194730; omega⟩
  have hk1 : (K + 1) + 0 ≤ room_1.cells ∧ (S + 6) + 0 ≤ room_1.slots := ⟨by show K + 1 + 0 ≤ 603072; omega, by show S + 6 + 0 ≤ 7194730; omega⟩
  have hkw : K + 1 ≤ room_1.cells ∧ S + 6 ≤ room_1.slots := ⟨hK, hS⟩
  unfold b_law_3 at h
  refine g_aload_n X 1 (i0 := 1) dL_law_395 rfl rfl ?_
  refine g_aload_n X 0 (i0 := 0) dL_law_396 rfl rfl ?_
  refine g_iload X 5 dL_law_397 rfl ?_
  refine g_iconst X (v := (1 : Int32)) dL_law_399 (by decide) ?_
  refine g_iadd X dL_law_400 ?_
  obtain ⟨b84, h⟩ := chk_s h
  refine g_sld X hX hbl hbA (i := (x5 + (1 : Int32))) (inB_vp b84) dL_law_401 ?_
  refine g_aload_n X 0 (i0 := 0) dL_law_402 rfl rfl ?_
  refine g_iload X 5 dL_law_403 rfl ?_
  refine g_iconst X (v := (2 : Int32)) dL_law_405 (by decide) ?_
  refine g_iadd X dL_law_406 ?_
  obtain ⟨b85, h⟩ := chk_s h
  refine g_sld X hX hbl hbA (i := (x5 + (2 : Int32))) (inB_vp b85) dL_law_407 ?_
  refine g_aload_n X 3 (i0 := 3) dL_law_408 rfl rfl ?_
  obtain ⟨r88, D87, e86, h⟩ := cI_s h
  refine g_SWk X (As := [.ref (E.1 0), .int (xs (x5 + (1 : Int32)).toNatClampNeg), .int (xs (x5 + (2 : Int32)).toNatClampNeg), .ref (E.1 99)]) (rest := []) (c_L_hardnessOf l hfl G E (xs (x5 + (1 : Int32)).toNatClampNeg) (xs (x5 + (2 : Int32)).toNatClampNeg) _ _ e86) kw_L_143 ⟨rfl, rfl⟩ hd_L_hardnessOf (⟨Nat.le_of_ble_eq_true rfl, Nat.le_of_ble_eq_true rfl⟩) hkw rfl rfl (Nat.le_of_ble_eq_true rfl) dL_law_409 ?_
  refine g_istore X (lv' := [(6, .int r88), (0, .ref b), (1, .ref (E.1 0)), (2, .ref (E.1 84)), (3, .ref (E.1 99)), (4, .ref (E.1 100)), (5, .int x5)]) dL_law_412 (by decide) rfl ?_
  refine g_aload_n X 3 (i0 := 2) dL_law_414 rfl rfl ?_
  refine g_aload_n X 1 (i0 := 0) dL_law_415 rfl rfl ?_
  refine g_iload X 6 dL_law_416 rfl ?_
  refine g_iconst X (v := (1 : Int32)) dL_law_418 (by decide) ?_
  refine g_iadd X dL_law_419 ?_
  obtain ⟨b89, h⟩ := chk_s h
  refine g_sld X hX hbl hbA (i := (x5 + (1 : Int32))) (inB_vp b89) dL_law_420 ?_
  refine g_aload_n X 1 (i0 := 0) dL_law_421 rfl rfl ?_
  refine g_iload X 6 dL_law_422 rfl ?_
  refine g_iconst X (v := (2 : Int32)) dL_law_424 (by decide) ?_
  refine g_iadd X dL_law_425 ?_
  obtain ⟨b90, h⟩ := chk_s h
  refine g_sld X hX hbl hbA (i := (x5 + (2 : Int32))) (inB_vp b90) dL_law_426 ?_
  obtain ⟨r93, D92, e91, h⟩ := cI_s h
  refine g_Vk X (As := [.int (xs (x5 + (1 : Int32)).toNatClampNeg), .int (xs (x5 + (2 : Int32)).toNatClampNeg)]) (rest := []) (c_X13_hardnessOf l G E (xs (x5 + (1 : Int32)).toNatClampNeg) (xs (x5 + (2 : Int32)).toNatClampNeg) _ _ e91) 84 (wg_84 E _) rfl rfl kv_L_145 ⟨rfl, rfl⟩ ⟨rfl, hd_X13_hardnessOf⟩ (⟨Nat.le_of_ble_eq_true rfl, Nat.le_of_ble_eq_true rfl⟩) hk1 rfl rfl (Nat.le_of_ble_eq_true rfl) dL_law_427 ?_
  refine g_istore X (lv' := [(7, .int r93), (6, .int r88), (0, .ref b), (1, .ref (E.1 0)), (2, .ref (E.1 84)), (3, .ref (E.1 99)), (4, .ref (E.1 100)), (5, .int x5)]) dL_law_430 (by decide) rfl ?_
  refine g_aload_n X 4 (i0 := 2) dL_law_432 rfl rfl ?_
  obtain ⟨r96, D95, e94, h⟩ := cI_s h
  refine g_Vk X (As := []) (rest := []) (c_X13_thrown l G E  _ _ e94) 84 (wg_84 E _) rfl rfl kv_L_136 ⟨rfl, rfl⟩ ⟨rfl, hd_X13_thrown⟩ (⟨Nat.le_of_ble_eq_true rfl, Nat.le_of_ble_eq_true rfl⟩) hk1 rfl rfl (Nat.le_of_ble_eq_true rfl) dL_law_433 ?_
  refine g_iload X 1 dL_law_436 rfl ?_
  refine g_icmp_eq X (tgt := 443) dL_law_438 (by decide) (fun c99 => ?_) (fun c99 => ?_)
  · have h := (ite_s h).1 c99
    refine g_iload X 1 dL_law_443 rfl ?_
    refine g_if_ne X (tgt := 460) dL_law_445 (by decide) (fun c98 => ?_) (fun c98 => ?_)
    · have h := (ite_s h).2 c98
      refine g_goto X (tgt := 2319) dL_law_460 (by decide) ?_
      refine g_iinc X 7 (v := (x5 + (4 : Int32))) (lv' := [(5, .int (x5 + (4 : Int32))), (7, .int r93), (6, .int r88), (0, .ref b), (1, .ref (E.1 0)), (2, .ref (E.1 84)), (3, .ref (E.1 99)), (4, .ref (E.1 100))]) dL_law_2319 rfl rfl (by decide) rfl ?_
      refine g_goto X (tgt := 28) dL_law_2322 (by decide) ?_
      refine g_sub (lv' := [(0, .ref b), (1, .ref (E.1 0)), (2, .ref (E.1 84)), (3, .ref (E.1 99)), (4, .ref (E.1 100)), (5, .int (x5 + (4 : Int32)))]) [3, 4, 5, 6, 7, 0] rfl ?_
      exact h1 _ (Option.some.inj h).symm
    · have h := (ite_s h).1 c98
      refine g_aload_n X 5 (i0 := 3) dL_law_448 rfl rfl ?_
      refine g_iconst X (v := (0 : Int32)) dL_law_449 (by decide) ?_
      refine g_lald X (D := D95) (f := (D95.2.2.2.1 0)) (i := (0 : Int32)) 99 (wg_99 E _) (inB_vp (by decide)) dL_law_450 ?_
      refine g_iload X 0 dL_law_451 rfl ?_
      refine g_i2l X dL_law_453 ?_
      refine g_lcmp X dL_law_454 ?_
      refine g_if_eq X (tgt := 460) dL_law_455 (by decide) (fun c97 => ?_) (fun c97 => ?_)
      · have h := (ite_s h).1 c97
        refine g_goto X (tgt := 2319) dL_law_460 (by decide) ?_
        refine g_iinc X 7 (v := (x5 + (4 : Int32))) (lv' := [(5, .int (x5 + (4 : Int32))), (7, .int r93), (6, .int r88), (0, .ref b), (1, .ref (E.1 0)), (2, .ref (E.1 84)), (3, .ref (E.1 99)), (4, .ref (E.1 100))]) dL_law_2319 rfl rfl (by decide) rfl ?_
        refine g_goto X (tgt := 28) dL_law_2322 (by decide) ?_
        refine g_sub (lv' := [(0, .ref b), (1, .ref (E.1 0)), (2, .ref (E.1 84)), (3, .ref (E.1 99)), (4, .ref (E.1 100)), (5, .int (x5 + (4 : Int32)))]) [3, 4, 5, 6, 7, 0] rfl ?_
        exact h1 _ (Option.some.inj h).symm
      · have h := (ite_s h).2 c97
        refine g_iconst X (v := (0 : Int32)) dL_law_458 (by decide) ?_
        exact g_lawret l X hr hE (by omega) (by omega) dL_law_459 (h2 _ (Option.some.inj h).symm)
  · have h := (ite_s h).2 c99
    refine g_iconst X (v := (0 : Int32)) dL_law_441 (by decide) ?_
    exact g_lawret l X hr hE (by omega) (by omega) dL_law_442 (h2 _ (Option.some.inj h).symm)
set_option maxRecDepth 100000 in
set_option maxHeartbeats 8000000 in
theorem bl_law_4 {p : Program} {l : Launch} {e : Env} {s : State} {m : MethodId} {b Ln : Nat} {xs : Nat → Int32} {below : List Frame} {meth : Method} {c : Code} {G : va_G} {E : EE} (X : CX p s m #[Value.ref b] meth c code RL 10 G E) (hfl : l.stackTraces = false) (hr : meth.sig.returnType = ret) (hX : va_X b Ln xs s s.heap) (hbl : b < s.heap.size) (hbA : ¬ fr E s.heap.size b) (hE : ∀ k, k < 101 → s.heap.size ≤ E.1 k) (K S : Nat) (hK : K + 1 ≤ 603072) (hS : S + 6 ≤ 7194730) (x5 : Int32) (D : DD) (o : (Nat × Int32 × DD) ⊕ Int32) (h : b_law_4 xs Ln x5 D = some o) (h1 : ∀ x, o = .inl x → hg_law p l e s m b below meth c G E (K + 1) (S + 6) x.1 x.2.1 x.2.2) (h2 : ∀ x, o = .inr x → x = 1) : GW p l e room_1 s m #[Value.ref b] below meth c G E 10 (lw_Z below #[Value.ref b] s) K S D 463 [(0, .ref b), (1, .ref (E.1 0)), (2, .ref (E.1 84)), (3, .ref (E.1 99)), (4, .ref (E.1 100)), (5, .int x5)] [] := by
  have hk0 : K + 0 ≤ room_1.cells ∧ S + 0 ≤ room_1.slots := ⟨by show K + 0 ≤ 603072; omega, by show S + 0 ≤ 7194730; omega⟩
  have hk1 : (K + 1) + 0 ≤ room_1.cells ∧ (S + 6) + 0 ≤ room_1.slots := ⟨by show K + 1 + 0 ≤ 603072; omega, by show S + 6 + 0 ≤ 7194730; omega⟩
  have hkw : K + 1 ≤ room_1.cells ∧ S + 6 ≤ room_1.slots := ⟨hK, hS⟩
  unfold b_law_4 at h
  refine g_aload_n X 1 (i0 := 1) dL_law_463 rfl rfl ?_
  refine g_aload_n X 0 (i0 := 0) dL_law_464 rfl rfl ?_
  refine g_iload X 5 dL_law_465 rfl ?_
  refine g_iconst X (v := (1 : Int32)) dL_law_467 (by decide) ?_
  refine g_iadd X dL_law_468 ?_
  obtain ⟨b100, h⟩ := chk_s h
  refine g_sld X hX hbl hbA (i := (x5 + (1 : Int32))) (inB_vp b100) dL_law_469 ?_
  refine g_aload_n X 0 (i0 := 0) dL_law_470 rfl rfl ?_
  refine g_iload X 5 dL_law_471 rfl ?_
  refine g_iconst X (v := (2 : Int32)) dL_law_473 (by decide) ?_
  refine g_iadd X dL_law_474 ?_
  obtain ⟨b101, h⟩ := chk_s h
  refine g_sld X hX hbl hbA (i := (x5 + (2 : Int32))) (inB_vp b101) dL_law_475 ?_
  refine g_aload_n X 3 (i0 := 3) dL_law_476 rfl rfl ?_
  obtain ⟨r104, D103, e102, h⟩ := cI_s h
  refine g_SWk X (As := [.ref (E.1 0), .int (xs (x5 + (1 : Int32)).toNatClampNeg), .int (xs (x5 + (2 : Int32)).toNatClampNeg), .ref (E.1 99)]) (rest := []) (c_L_isOpen l hfl G E (xs (x5 + (1 : Int32)).toNatClampNeg) (xs (x5 + (2 : Int32)).toNatClampNeg) _ _ e102) kw_L_146 ⟨rfl, rfl⟩ hd_L_isOpen (⟨Nat.le_of_ble_eq_true rfl, Nat.le_of_ble_eq_true rfl⟩) hkw rfl rfl (Nat.le_of_ble_eq_true rfl) dL_law_477 ?_
  refine g_istore X (lv' := [(6, .int r104), (0, .ref b), (1, .ref (E.1 0)), (2, .ref (E.1 84)), (3, .ref (E.1 99)), (4, .ref (E.1 100)), (5, .int x5)]) dL_law_480 (by decide) rfl ?_
  refine g_aload_n X 3 (i0 := 2) dL_law_482 rfl rfl ?_
  refine g_aload_n X 1 (i0 := 0) dL_law_483 rfl rfl ?_
  refine g_iload X 6 dL_law_484 rfl ?_
  refine g_iconst X (v := (1 : Int32)) dL_law_486 (by decide) ?_
  refine g_iadd X dL_law_487 ?_
  obtain ⟨b105, h⟩ := chk_s h
  refine g_sld X hX hbl hbA (i := (x5 + (1 : Int32))) (inB_vp b105) dL_law_488 ?_
  refine g_aload_n X 1 (i0 := 0) dL_law_489 rfl rfl ?_
  refine g_iload X 6 dL_law_490 rfl ?_
  refine g_iconst X (v := (2 : Int32)) dL_law_492 (by decide) ?_
  refine g_iadd X dL_law_493 ?_
  obtain ⟨b106, h⟩ := chk_s h
  refine g_sld X hX hbl hbA (i := (x5 + (2 : Int32))) (inB_vp b106) dL_law_494 ?_
  obtain ⟨r109, D108, e107, h⟩ := cI_s h
  refine g_Vk X (As := [.int (xs (x5 + (1 : Int32)).toNatClampNeg), .int (xs (x5 + (2 : Int32)).toNatClampNeg)]) (rest := []) (c_X13_isOpen l G E (xs (x5 + (1 : Int32)).toNatClampNeg) (xs (x5 + (2 : Int32)).toNatClampNeg) _ _ e107) 84 (wg_84 E _) rfl rfl kv_L_148 ⟨rfl, rfl⟩ ⟨rfl, hd_X13_isOpen⟩ (⟨Nat.le_of_ble_eq_true rfl, Nat.le_of_ble_eq_true rfl⟩) hk1 rfl rfl (Nat.le_of_ble_eq_true rfl) dL_law_495 ?_
  refine g_istore X (lv' := [(7, .int r109), (6, .int r104), (0, .ref b), (1, .ref (E.1 0)), (2, .ref (E.1 84)), (3, .ref (E.1 99)), (4, .ref (E.1 100)), (5, .int x5)]) dL_law_498 (by decide) rfl ?_
  refine g_aload_n X 4 (i0 := 2) dL_law_500 rfl rfl ?_
  obtain ⟨r112, D111, e110, h⟩ := cI_s h
  refine g_Vk X (As := []) (rest := []) (c_X13_thrown l G E  _ _ e110) 84 (wg_84 E _) rfl rfl kv_L_136 ⟨rfl, rfl⟩ ⟨rfl, hd_X13_thrown⟩ (⟨Nat.le_of_ble_eq_true rfl, Nat.le_of_ble_eq_true rfl⟩) hk1 rfl rfl (Nat.le_of_ble_eq_true rfl) dL_law_501 ?_
  refine g_iload X 1 dL_law_504 rfl ?_
  refine g_icmp_eq X (tgt := 511) dL_law_506 (by decide) (fun c117 => ?_) (fun c117 => ?_)
  · have h := (ite_s h).1 c117
    refine g_iload X 1 dL_law_511 rfl ?_
    refine g_if_ne X (tgt := 535) dL_law_513 (by decide) (fun c116 => ?_) (fun c116 => ?_)
    · have h := (ite_s h).2 c116
      refine g_goto X (tgt := 2319) dL_law_535 (by decide) ?_
      refine g_iinc X 7 (v := (x5 + (4 : Int32))) (lv' := [(5, .int (x5 + (4 : Int32))), (7, .int r109), (6, .int r104), (0, .ref b), (1, .ref (E.1 0)), (2, .ref (E.1 84)), (3, .ref (E.1 99)), (4, .ref (E.1 100))]) dL_law_2319 rfl rfl (by decide) rfl ?_
      refine g_goto X (tgt := 28) dL_law_2322 (by decide) ?_
      refine g_sub (lv' := [(0, .ref b), (1, .ref (E.1 0)), (2, .ref (E.1 84)), (3, .ref (E.1 99)), (4, .ref (E.1 100)), (5, .int (x5 + (4 : Int32)))]) [3, 4, 5, 6, 7, 0] rfl ?_
      exact h1 _ (Option.some.inj h).symm
    · have h := (ite_s h).1 c116
      refine g_aload_n X 5 (i0 := 3) dL_law_516 rfl rfl ?_
      refine g_iconst X (v := (0 : Int32)) dL_law_517 (by decide) ?_
      refine g_lald X (D := D111) (f := (D111.2.2.2.1 0)) (i := (0 : Int32)) 99 (wg_99 E _) (inB_vp (by decide)) dL_law_518 ?_
      refine g_iload X 0 dL_law_519 rfl ?_
      refine g_if_eq X (tgt := 528) dL_law_521 (by decide) (fun c115 => ?_) (fun c115 => ?_)
      · have h := (ite_s h).1 c115
        refine g_lconst X (v := (0 : Int64)) dL_law_528 (by decide) ?_
        refine g_lcmp X dL_law_529 ?_
        refine g_if_eq X (tgt := 535) dL_law_530 (by decide) (fun c113 => ?_) (fun c113 => ?_)
        · have h := (ite_s h).1 c113
          refine g_goto X (tgt := 2319) dL_law_535 (by decide) ?_
          refine g_iinc X 7 (v := (x5 + (4 : Int32))) (lv' := [(5, .int (x5 + (4 : Int32))), (7, .int r109), (6, .int r104), (0, .ref b), (1, .ref (E.1 0)), (2, .ref (E.1 84)), (3, .ref (E.1 99)), (4, .ref (E.1 100))]) dL_law_2319 rfl rfl (by decide) rfl ?_
          refine g_goto X (tgt := 28) dL_law_2322 (by decide) ?_
          refine g_sub (lv' := [(0, .ref b), (1, .ref (E.1 0)), (2, .ref (E.1 84)), (3, .ref (E.1 99)), (4, .ref (E.1 100)), (5, .int (x5 + (4 : Int32)))]) [3, 4, 5, 6, 7, 0] rfl ?_
          exact h1 _ (Option.some.inj h).symm
        · have h := (ite_s h).2 c113
          refine g_iconst X (v := (0 : Int32)) dL_law_533 (by decide) ?_
          exact g_lawret l X hr hE (by omega) (by omega) dL_law_534 (h2 _ (Option.some.inj h).symm)
      · have h := (ite_s h).2 c115
        refine g_lconst X (v := (1 : Int64)) dL_law_524 (by decide) ?_
        refine g_goto X (tgt := 529) dL_law_525 (by decide) ?_
        refine g_lcmp X dL_law_529 ?_
        refine g_if_eq X (tgt := 535) dL_law_530 (by decide) (fun c114 => ?_) (fun c114 => ?_)
        · have h := (ite_s h).1 c114
          refine g_goto X (tgt := 2319) dL_law_535 (by decide) ?_
          refine g_iinc X 7 (v := (x5 + (4 : Int32))) (lv' := [(5, .int (x5 + (4 : Int32))), (7, .int r109), (6, .int r104), (0, .ref b), (1, .ref (E.1 0)), (2, .ref (E.1 84)), (3, .ref (E.1 99)), (4, .ref (E.1 100))]) dL_law_2319 rfl rfl (by decide) rfl ?_
          refine g_goto X (tgt := 28) dL_law_2322 (by decide) ?_
          refine g_sub (lv' := [(0, .ref b), (1, .ref (E.1 0)), (2, .ref (E.1 84)), (3, .ref (E.1 99)), (4, .ref (E.1 100)), (5, .int (x5 + (4 : Int32)))]) [3, 4, 5, 6, 7, 0] rfl ?_
          exact h1 _ (Option.some.inj h).symm
        · have h := (ite_s h).2 c114
          refine g_iconst X (v := (0 : Int32)) dL_law_533 (by decide) ?_
          exact g_lawret l X hr hE (by omega) (by omega) dL_law_534 (h2 _ (Option.some.inj h).symm)
  · have h := (ite_s h).2 c117
    refine g_iconst X (v := (0 : Int32)) dL_law_509 (by decide) ?_
    exact g_lawret l X hr hE (by omega) (by omega) dL_law_510 (h2 _ (Option.some.inj h).symm)
set_option maxRecDepth 100000 in
set_option maxHeartbeats 8000000 in
theorem bl_law_5 {p : Program} {l : Launch} {e : Env} {s : State} {m : MethodId} {b Ln : Nat} {xs : Nat → Int32} {below : List Frame} {meth : Method} {c : Code} {G : va_G} {E : EE} (X : CX p s m #[Value.ref b] meth c code RL 10 G E) (hfl : l.stackTraces = false) (hr : meth.sig.returnType = ret) (hX : va_X b Ln xs s s.heap) (hbl : b < s.heap.size) (hbA : ¬ fr E s.heap.size b) (hE : ∀ k, k < 101 → s.heap.size ≤ E.1 k) (K S : Nat) (hK : K + 1 ≤ 603072) (hS : S + 6 ≤ 7194730) (x5 : Int32) (D : DD) (o : (Nat × Int32 × DD) ⊕ Int32) (h : b_law_5 xs Ln x5 D = some o) (h1 : ∀ x, o = .inl x → hg_law p l e s m b below meth c G E (K + 1) (S + 6) x.1 x.2.1 x.2.2) (h2 : ∀ x, o = .inr x → x = 1) : GW p l e room_1 s m #[Value.ref b] below meth c G E 10 (lw_Z below #[Value.ref b] s) K S D 538 [(0, .ref b), (1, .ref (E.1 0)), (2, .ref (E.1 84)), (3, .ref (E.1 99)), (4, .ref (E.1 100)), (5, .int x5)] [] := by
  have hk0 : K + 0 ≤ room_1.cells ∧ S + 0 ≤ room_1.slots := ⟨by show K + 0 ≤ 603072; omega, by show S + 0 ≤ 7194730; omega⟩
  have hk1 : (K + 1) + 0 ≤ room_1.cells ∧ (S + 6) + 0 ≤ room_1.slots := ⟨by show K + 1 + 0 ≤ 603072; omega, by show S + 6 + 0 ≤ 7194730; omega⟩
  have hkw : K + 1 ≤ room_1.cells ∧ S + 6 ≤ room_1.slots := ⟨hK, hS⟩
  unfold b_law_5 at h
  refine g_aload_n X 1 (i0 := 1) dL_law_538 rfl rfl ?_
  obtain ⟨r120, D119, e118, h⟩ := cI_s h
  refine g_Vk X (As := []) (rest := []) (c_X12_openCount l G E  _ _ e118) 0 (wg_0 E _) rfl rfl kv_L_149 ⟨rfl, rfl⟩ ⟨rfl, hd_X12_openCount⟩ (⟨Nat.le_of_ble_eq_true rfl, Nat.le_of_ble_eq_true rfl⟩) hk0 rfl rfl (Nat.le_of_ble_eq_true rfl) dL_law_539 ?_
  refine g_aload_n X 2 (i0 := 2) dL_law_542 rfl rfl ?_
  obtain ⟨r123, D122, e121, h⟩ := cI_s h
  refine g_Vk X (As := []) (rest := [.int r120]) (c_X13_openCount l G E  _ _ e121) 84 (wg_84 E _) rfl rfl kv_L_152 ⟨rfl, rfl⟩ ⟨rfl, hd_X13_openCount⟩ (⟨Nat.le_of_ble_eq_true rfl, Nat.le_of_ble_eq_true rfl⟩) hk0 rfl rfl (Nat.le_of_ble_eq_true rfl) dL_law_543 ?_
  refine g_icmp_eq X (tgt := 2319) dL_law_546 (by decide) (fun c124 => ?_) (fun c124 => ?_)
  · have h := (ite_s h).1 c124
    refine g_iinc X 5 (v := (x5 + (4 : Int32))) (lv' := [(5, .int (x5 + (4 : Int32))), (0, .ref b), (1, .ref (E.1 0)), (2, .ref (E.1 84)), (3, .ref (E.1 99)), (4, .ref (E.1 100))]) dL_law_2319 rfl rfl (by decide) rfl ?_
    refine g_goto X (tgt := 28) dL_law_2322 (by decide) ?_
    refine g_sub (lv' := [(0, .ref b), (1, .ref (E.1 0)), (2, .ref (E.1 84)), (3, .ref (E.1 99)), (4, .ref (E.1 100)), (5, .int (x5 + (4 : Int32)))]) [1, 2, 3, 4, 5, 0] rfl ?_
    refine g_widen (k2 := K + 1) (s2 := S + 6) (by omega) (by omega) ?_
    exact h1 _ (Option.some.inj h).symm
  · have h := (ite_s h).2 c124
    refine g_iconst X (v := (0 : Int32)) dL_law_549 (by decide) ?_
    exact g_lawret l X hr hE (by omega) (by omega) dL_law_550 (h2 _ (Option.some.inj h).symm)
set_option maxRecDepth 100000 in
set_option maxHeartbeats 8000000 in
theorem bl_law_6 {p : Program} {l : Launch} {e : Env} {s : State} {m : MethodId} {b Ln : Nat} {xs : Nat → Int32} {below : List Frame} {meth : Method} {c : Code} {G : va_G} {E : EE} (X : CX p s m #[Value.ref b] meth c code RL 10 G E) (hfl : l.stackTraces = false) (hr : meth.sig.returnType = ret) (hX : va_X b Ln xs s s.heap) (hbl : b < s.heap.size) (hbA : ¬ fr E s.heap.size b) (hE : ∀ k, k < 101 → s.heap.size ≤ E.1 k) (K S : Nat) (hK : K + 1 ≤ 603072) (hS : S + 6 ≤ 7194730) (x5 : Int32) (D : DD) (o : (Nat × Int32 × DD) ⊕ Int32) (h : b_law_6 xs Ln x5 D = some o) (h1 : ∀ x, o = .inl x → hg_law p l e s m b below meth c G E (K + 1) (S + 6) x.1 x.2.1 x.2.2) (h2 : ∀ x, o = .inr x → x = 1) : GW p l e room_1 s m #[Value.ref b] below meth c G E 10 (lw_Z below #[Value.ref b] s) K S D 551 [(0, .ref b), (1, .ref (E.1 0)), (2, .ref (E.1 84)), (3, .ref (E.1 99)), (4, .ref (E.1 100)), (5, .int x5)] [] := by
  have hk0 : K + 0 ≤ room_1.cells ∧ S + 0 ≤ room_1.slots := ⟨by show K + 0 ≤ 603072; omega, by show S + 0 ≤ 7194730; omega⟩
  have hk1 : (K + 1) + 0 ≤ room_1.cells ∧ (S + 6) + 0 ≤ room_1.slots := ⟨by show K + 1 + 0 ≤ 603072; omega, by show S + 6 + 0 ≤ 7194730; omega⟩
  have hkw : K + 1 ≤ room_1.cells ∧ S + 6 ≤ room_1.slots := ⟨hK, hS⟩
  unfold b_law_6 at h
  refine g_aload_n X 1 (i0 := 1) dL_law_551 rfl rfl ?_
  refine g_aload_n X 0 (i0 := 0) dL_law_552 rfl rfl ?_
  refine g_iload X 5 dL_law_553 rfl ?_
  refine g_iconst X (v := (1 : Int32)) dL_law_555 (by decide) ?_
  refine g_iadd X dL_law_556 ?_
  obtain ⟨b125, h⟩ := chk_s h
  refine g_sld X hX hbl hbA (i := (x5 + (1 : Int32))) (inB_vp b125) dL_law_557 ?_
  refine g_aload_n X 3 (i0 := 3) dL_law_558 rfl rfl ?_
  obtain ⟨r128, D127, e126, h⟩ := cI_s h
  refine g_SWk X (As := [.ref (E.1 0), .int (xs (x5 + (1 : Int32)).toNatClampNeg), .ref (E.1 99)]) (rest := []) (c_L_veinCount l hfl G E (xs (x5 + (1 : Int32)).toNatClampNeg) _ _ e126) kw_L_153 ⟨rfl, rfl⟩ hd_L_veinCount (⟨Nat.le_of_ble_eq_true rfl, Nat.le_of_ble_eq_true rfl⟩) hkw rfl rfl (Nat.le_of_ble_eq_true rfl) dL_law_559 ?_
  refine g_istore X (lv' := [(6, .int r128), (0, .ref b), (1, .ref (E.1 0)), (2, .ref (E.1 84)), (3, .ref (E.1 99)), (4, .ref (E.1 100)), (5, .int x5)]) dL_law_562 (by decide) rfl ?_
  refine g_aload_n X 3 (i0 := 2) dL_law_564 rfl rfl ?_
  refine g_aload_n X 1 (i0 := 0) dL_law_565 rfl rfl ?_
  refine g_iload X 6 dL_law_566 rfl ?_
  refine g_iconst X (v := (1 : Int32)) dL_law_568 (by decide) ?_
  refine g_iadd X dL_law_569 ?_
  obtain ⟨b129, h⟩ := chk_s h
  refine g_sld X hX hbl hbA (i := (x5 + (1 : Int32))) (inB_vp b129) dL_law_570 ?_
  obtain ⟨r132, D131, e130, h⟩ := cI_s h
  refine g_Vk X (As := [.int (xs (x5 + (1 : Int32)).toNatClampNeg)]) (rest := []) (c_X13_veinCount l G E (xs (x5 + (1 : Int32)).toNatClampNeg) _ _ e130) 84 (wg_84 E _) rfl rfl kv_L_156 ⟨rfl, rfl⟩ ⟨rfl, hd_X13_veinCount⟩ (⟨Nat.le_of_ble_eq_true rfl, Nat.le_of_ble_eq_true rfl⟩) hk1 rfl rfl (Nat.le_of_ble_eq_true rfl) dL_law_571 ?_
  refine g_istore X (lv' := [(7, .int r132), (6, .int r128), (0, .ref b), (1, .ref (E.1 0)), (2, .ref (E.1 84)), (3, .ref (E.1 99)), (4, .ref (E.1 100)), (5, .int x5)]) dL_law_574 (by decide) rfl ?_
  refine g_aload_n X 4 (i0 := 2) dL_law_576 rfl rfl ?_
  obtain ⟨r135, D134, e133, h⟩ := cI_s h
  refine g_Vk X (As := []) (rest := []) (c_X13_thrown l G E  _ _ e133) 84 (wg_84 E _) rfl rfl kv_L_136 ⟨rfl, rfl⟩ ⟨rfl, hd_X13_thrown⟩ (⟨Nat.le_of_ble_eq_true rfl, Nat.le_of_ble_eq_true rfl⟩) hk1 rfl rfl (Nat.le_of_ble_eq_true rfl) dL_law_577 ?_
  refine g_iload X 1 dL_law_580 rfl ?_
  refine g_icmp_eq X (tgt := 587) dL_law_582 (by decide) (fun c138 => ?_) (fun c138 => ?_)
  · have h := (ite_s h).1 c138
    refine g_iload X 1 dL_law_587 rfl ?_
    refine g_if_ne X (tgt := 604) dL_law_589 (by decide) (fun c137 => ?_) (fun c137 => ?_)
    · have h := (ite_s h).2 c137
      refine g_goto X (tgt := 2319) dL_law_604 (by decide) ?_
      refine g_iinc X 7 (v := (x5 + (4 : Int32))) (lv' := [(5, .int (x5 + (4 : Int32))), (7, .int r132), (6, .int r128), (0, .ref b), (1, .ref (E.1 0)), (2, .ref (E.1 84)), (3, .ref (E.1 99)), (4, .ref (E.1 100))]) dL_law_2319 rfl rfl (by decide) rfl ?_
      refine g_goto X (tgt := 28) dL_law_2322 (by decide) ?_
      refine g_sub (lv' := [(0, .ref b), (1, .ref (E.1 0)), (2, .ref (E.1 84)), (3, .ref (E.1 99)), (4, .ref (E.1 100)), (5, .int (x5 + (4 : Int32)))]) [3, 4, 5, 6, 7, 0] rfl ?_
      exact h1 _ (Option.some.inj h).symm
    · have h := (ite_s h).1 c137
      refine g_aload_n X 5 (i0 := 3) dL_law_592 rfl rfl ?_
      refine g_iconst X (v := (0 : Int32)) dL_law_593 (by decide) ?_
      refine g_lald X (D := D134) (f := (D134.2.2.2.1 0)) (i := (0 : Int32)) 99 (wg_99 E _) (inB_vp (by decide)) dL_law_594 ?_
      refine g_iload X 0 dL_law_595 rfl ?_
      refine g_i2l X dL_law_597 ?_
      refine g_lcmp X dL_law_598 ?_
      refine g_if_eq X (tgt := 604) dL_law_599 (by decide) (fun c136 => ?_) (fun c136 => ?_)
      · have h := (ite_s h).1 c136
        refine g_goto X (tgt := 2319) dL_law_604 (by decide) ?_
        refine g_iinc X 7 (v := (x5 + (4 : Int32))) (lv' := [(5, .int (x5 + (4 : Int32))), (7, .int r132), (6, .int r128), (0, .ref b), (1, .ref (E.1 0)), (2, .ref (E.1 84)), (3, .ref (E.1 99)), (4, .ref (E.1 100))]) dL_law_2319 rfl rfl (by decide) rfl ?_
        refine g_goto X (tgt := 28) dL_law_2322 (by decide) ?_
        refine g_sub (lv' := [(0, .ref b), (1, .ref (E.1 0)), (2, .ref (E.1 84)), (3, .ref (E.1 99)), (4, .ref (E.1 100)), (5, .int (x5 + (4 : Int32)))]) [3, 4, 5, 6, 7, 0] rfl ?_
        exact h1 _ (Option.some.inj h).symm
      · have h := (ite_s h).2 c136
        refine g_iconst X (v := (0 : Int32)) dL_law_602 (by decide) ?_
        exact g_lawret l X hr hE (by omega) (by omega) dL_law_603 (h2 _ (Option.some.inj h).symm)
  · have h := (ite_s h).2 c138
    refine g_iconst X (v := (0 : Int32)) dL_law_585 (by decide) ?_
    exact g_lawret l X hr hE (by omega) (by omega) dL_law_586 (h2 _ (Option.some.inj h).symm)
set_option maxRecDepth 100000 in
set_option maxHeartbeats 8000000 in
theorem bl_law_7 {p : Program} {l : Launch} {e : Env} {s : State} {m : MethodId} {b Ln : Nat} {xs : Nat → Int32} {below : List Frame} {meth : Method} {c : Code} {G : va_G} {E : EE} (X : CX p s m #[Value.ref b] meth c code RL 10 G E) (hfl : l.stackTraces = false) (hr : meth.sig.returnType = ret) (hX : va_X b Ln xs s s.heap) (hbl : b < s.heap.size) (hbA : ¬ fr E s.heap.size b) (hE : ∀ k, k < 101 → s.heap.size ≤ E.1 k) (K S : Nat) (hK : K + 1 ≤ 603072) (hS : S + 6 ≤ 7194730) (x5 : Int32) (D : DD) (o : (Nat × Int32 × DD) ⊕ Int32) (h : b_law_7 xs Ln x5 D = some o) (h1 : ∀ x, o = .inl x → hg_law p l e s m b below meth c G E (K + 1) (S + 6) x.1 x.2.1 x.2.2) (h2 : ∀ x, o = .inr x → x = 1) : GW p l e room_1 s m #[Value.ref b] below meth c G E 10 (lw_Z below #[Value.ref b] s) K S D 607 [(0, .ref b), (1, .ref (E.1 0)), (2, .ref (E.1 84)), (3, .ref (E.1 99)), (4, .ref (E.1 100)), (5, .int x5)] [] := by
  have hk0 : K + 0 ≤ room_1.cells ∧ S + 0 ≤ room_1.slots := ⟨by show K + 0 ≤ 603072; omega, by show S + 0 ≤ 7194730; omega⟩
  have hk1 : (K + 1) + 0 ≤ room_1.cells ∧ (S + 6) + 0 ≤ room_1.slots := ⟨by show K + 1 + 0 ≤ 603072; omega, by show S + 6 + 0 ≤ 7194730; omega⟩
  have hkw : K + 1 ≤ room_1.cells ∧ S + 6 ≤ room_1.slots := ⟨hK, hS⟩
  unfold b_law_7 at h
  refine g_aload_n X 1 (i0 := 1) dL_law_607 rfl rfl ?_
  refine g_aload_n X 0 (i0 := 0) dL_law_608 rfl rfl ?_
  refine g_iload X 5 dL_law_609 rfl ?_
  refine g_iconst X (v := (1 : Int32)) dL_law_611 (by decide) ?_
  refine g_iadd X dL_law_612 ?_
  obtain ⟨b139, h⟩ := chk_s h
  refine g_sld X hX hbl hbA (i := (x5 + (1 : Int32))) (inB_vp b139) dL_law_613 ?_
  refine g_aload_n X 0 (i0 := 0) dL_law_614 rfl rfl ?_
  refine g_iload X 5 dL_law_615 rfl ?_
  refine g_iconst X (v := (2 : Int32)) dL_law_617 (by decide) ?_
  refine g_iadd X dL_law_618 ?_
  obtain ⟨b140, h⟩ := chk_s h
  refine g_sld X hX hbl hbA (i := (x5 + (2 : Int32))) (inB_vp b140) dL_law_619 ?_
  refine g_aload_n X 3 (i0 := 3) dL_law_620 rfl rfl ?_
  obtain ⟨r143, D142, e141, h⟩ := cI_s h
  refine g_SWk X (As := [.ref (E.1 0), .int (xs (x5 + (1 : Int32)).toNatClampNeg), .int (xs (x5 + (2 : Int32)).toNatClampNeg), .ref (E.1 99)]) (rest := []) (c_L_veinSize l hfl G E (xs (x5 + (1 : Int32)).toNatClampNeg) (xs (x5 + (2 : Int32)).toNatClampNeg) _ _ e141) kw_L_157 ⟨rfl, rfl⟩ hd_L_veinSize (⟨Nat.le_of_ble_eq_true rfl, Nat.le_of_ble_eq_true rfl⟩) hkw rfl rfl (Nat.le_of_ble_eq_true rfl) dL_law_621 ?_
  refine g_istore X (lv' := [(6, .int r143), (0, .ref b), (1, .ref (E.1 0)), (2, .ref (E.1 84)), (3, .ref (E.1 99)), (4, .ref (E.1 100)), (5, .int x5)]) dL_law_624 (by decide) rfl ?_
  refine g_aload_n X 3 (i0 := 2) dL_law_626 rfl rfl ?_
  refine g_aload_n X 1 (i0 := 0) dL_law_627 rfl rfl ?_
  refine g_iload X 6 dL_law_628 rfl ?_
  refine g_iconst X (v := (1 : Int32)) dL_law_630 (by decide) ?_
  refine g_iadd X dL_law_631 ?_
  obtain ⟨b144, h⟩ := chk_s h
  refine g_sld X hX hbl hbA (i := (x5 + (1 : Int32))) (inB_vp b144) dL_law_632 ?_
  refine g_aload_n X 1 (i0 := 0) dL_law_633 rfl rfl ?_
  refine g_iload X 6 dL_law_634 rfl ?_
  refine g_iconst X (v := (2 : Int32)) dL_law_636 (by decide) ?_
  refine g_iadd X dL_law_637 ?_
  obtain ⟨b145, h⟩ := chk_s h
  refine g_sld X hX hbl hbA (i := (x5 + (2 : Int32))) (inB_vp b145) dL_law_638 ?_
  obtain ⟨r148, D147, e146, h⟩ := cI_s h
  refine g_Vk X (As := [.int (xs (x5 + (1 : Int32)).toNatClampNeg), .int (xs (x5 + (2 : Int32)).toNatClampNeg)]) (rest := []) (c_X13_veinSize l G E (xs (x5 + (1 : Int32)).toNatClampNeg) (xs (x5 + (2 : Int32)).toNatClampNeg) _ _ e146) 84 (wg_84 E _) rfl rfl kv_L_159 ⟨rfl, rfl⟩ ⟨rfl, hd_X13_veinSize⟩ (⟨Nat.le_of_ble_eq_true rfl, Nat.le_of_ble_eq_true rfl⟩) hk1 rfl rfl (Nat.le_of_ble_eq_true rfl) dL_law_639 ?_
  refine g_istore X (lv' := [(7, .int r148), (6, .int r143), (0, .ref b), (1, .ref (E.1 0)), (2, .ref (E.1 84)), (3, .ref (E.1 99)), (4, .ref (E.1 100)), (5, .int x5)]) dL_law_642 (by decide) rfl ?_
  refine g_aload_n X 4 (i0 := 2) dL_law_644 rfl rfl ?_
  obtain ⟨r151, D150, e149, h⟩ := cI_s h
  refine g_Vk X (As := []) (rest := []) (c_X13_thrown l G E  _ _ e149) 84 (wg_84 E _) rfl rfl kv_L_136 ⟨rfl, rfl⟩ ⟨rfl, hd_X13_thrown⟩ (⟨Nat.le_of_ble_eq_true rfl, Nat.le_of_ble_eq_true rfl⟩) hk1 rfl rfl (Nat.le_of_ble_eq_true rfl) dL_law_645 ?_
  refine g_iload X 1 dL_law_648 rfl ?_
  refine g_icmp_eq X (tgt := 655) dL_law_650 (by decide) (fun c154 => ?_) (fun c154 => ?_)
  · have h := (ite_s h).1 c154
    refine g_iload X 1 dL_law_655 rfl ?_
    refine g_if_ne X (tgt := 672) dL_law_657 (by decide) (fun c153 => ?_) (fun c153 => ?_)
    · have h := (ite_s h).2 c153
      refine g_goto X (tgt := 2319) dL_law_672 (by decide) ?_
      refine g_iinc X 7 (v := (x5 + (4 : Int32))) (lv' := [(5, .int (x5 + (4 : Int32))), (7, .int r148), (6, .int r143), (0, .ref b), (1, .ref (E.1 0)), (2, .ref (E.1 84)), (3, .ref (E.1 99)), (4, .ref (E.1 100))]) dL_law_2319 rfl rfl (by decide) rfl ?_
      refine g_goto X (tgt := 28) dL_law_2322 (by decide) ?_
      refine g_sub (lv' := [(0, .ref b), (1, .ref (E.1 0)), (2, .ref (E.1 84)), (3, .ref (E.1 99)), (4, .ref (E.1 100)), (5, .int (x5 + (4 : Int32)))]) [3, 4, 5, 6, 7, 0] rfl ?_
      exact h1 _ (Option.some.inj h).symm
    · have h := (ite_s h).1 c153
      refine g_aload_n X 5 (i0 := 3) dL_law_660 rfl rfl ?_
      refine g_iconst X (v := (0 : Int32)) dL_law_661 (by decide) ?_
      refine g_lald X (D := D150) (f := (D150.2.2.2.1 0)) (i := (0 : Int32)) 99 (wg_99 E _) (inB_vp (by decide)) dL_law_662 ?_
      refine g_iload X 0 dL_law_663 rfl ?_
      refine g_i2l X dL_law_665 ?_
      refine g_lcmp X dL_law_666 ?_
      refine g_if_eq X (tgt := 672) dL_law_667 (by decide) (fun c152 => ?_) (fun c152 => ?_)
      · have h := (ite_s h).1 c152
        refine g_goto X (tgt := 2319) dL_law_672 (by decide) ?_
        refine g_iinc X 7 (v := (x5 + (4 : Int32))) (lv' := [(5, .int (x5 + (4 : Int32))), (7, .int r148), (6, .int r143), (0, .ref b), (1, .ref (E.1 0)), (2, .ref (E.1 84)), (3, .ref (E.1 99)), (4, .ref (E.1 100))]) dL_law_2319 rfl rfl (by decide) rfl ?_
        refine g_goto X (tgt := 28) dL_law_2322 (by decide) ?_
        refine g_sub (lv' := [(0, .ref b), (1, .ref (E.1 0)), (2, .ref (E.1 84)), (3, .ref (E.1 99)), (4, .ref (E.1 100)), (5, .int (x5 + (4 : Int32)))]) [3, 4, 5, 6, 7, 0] rfl ?_
        exact h1 _ (Option.some.inj h).symm
      · have h := (ite_s h).2 c152
        refine g_iconst X (v := (0 : Int32)) dL_law_670 (by decide) ?_
        exact g_lawret l X hr hE (by omega) (by omega) dL_law_671 (h2 _ (Option.some.inj h).symm)
  · have h := (ite_s h).2 c154
    refine g_iconst X (v := (0 : Int32)) dL_law_653 (by decide) ?_
    exact g_lawret l X hr hE (by omega) (by omega) dL_law_654 (h2 _ (Option.some.inj h).symm)
set_option maxRecDepth 100000 in
set_option maxHeartbeats 8000000 in
theorem bl_law_8 {p : Program} {l : Launch} {e : Env} {s : State} {m : MethodId} {b Ln : Nat} {xs : Nat → Int32} {below : List Frame} {meth : Method} {c : Code} {G : va_G} {E : EE} (X : CX p s m #[Value.ref b] meth c code RL 10 G E) (hfl : l.stackTraces = false) (hr : meth.sig.returnType = ret) (hX : va_X b Ln xs s s.heap) (hbl : b < s.heap.size) (hbA : ¬ fr E s.heap.size b) (hE : ∀ k, k < 101 → s.heap.size ≤ E.1 k) (K S : Nat) (hK : K + 1 ≤ 603072) (hS : S + 6 ≤ 7194730) (x5 : Int32) (D : DD) (o : (Nat × Int32 × DD) ⊕ Int32) (h : b_law_8 xs Ln x5 D = some o) (h1 : ∀ x, o = .inl x → hg_law p l e s m b below meth c G E (K + 1) (S + 6) x.1 x.2.1 x.2.2) (h2 : ∀ x, o = .inr x → x = 1) : GW p l e room_1 s m #[Value.ref b] below meth c G E 10 (lw_Z below #[Value.ref b] s) K S D 675 [(0, .ref b), (1, .ref (E.1 0)), (2, .ref (E.1 84)), (3, .ref (E.1 99)), (4, .ref (E.1 100)), (5, .int x5)] [] := by
  have hk0 : K + 0 ≤ room_1.cells ∧ S + 0 ≤ room_1.slots := ⟨by show K + 0 ≤ 603072; omega, by show S + 0 ≤ 7194730; omega⟩
  have hk1 : (K + 1) + 0 ≤ room_1.cells ∧ (S + 6) + 0 ≤ room_1.slots := ⟨by show K + 1 + 0 ≤ 603072; omega, by show S + 6 + 0 ≤ 7194730; omega⟩
  have hkw : K + 1 ≤ room_1.cells ∧ S + 6 ≤ room_1.slots := ⟨hK, hS⟩
  unfold b_law_8 at h
  refine g_aload_n X 1 (i0 := 1) dL_law_675 rfl rfl ?_
  refine g_aload_n X 0 (i0 := 0) dL_law_676 rfl rfl ?_
  refine g_iload X 5 dL_law_677 rfl ?_
  refine g_iconst X (v := (1 : Int32)) dL_law_679 (by decide) ?_
  refine g_iadd X dL_law_680 ?_
  obtain ⟨b155, h⟩ := chk_s h
  refine g_sld X hX hbl hbA (i := (x5 + (1 : Int32))) (inB_vp b155) dL_law_681 ?_
  refine g_aload_n X 0 (i0 := 0) dL_law_682 rfl rfl ?_
  refine g_iload X 5 dL_law_683 rfl ?_
  refine g_iconst X (v := (2 : Int32)) dL_law_685 (by decide) ?_
  refine g_iadd X dL_law_686 ?_
  obtain ⟨b156, h⟩ := chk_s h
  refine g_sld X hX hbl hbA (i := (x5 + (2 : Int32))) (inB_vp b156) dL_law_687 ?_
  refine g_aload_n X 0 (i0 := 0) dL_law_688 rfl rfl ?_
  refine g_iload X 5 dL_law_689 rfl ?_
  refine g_iconst X (v := (3 : Int32)) dL_law_691 (by decide) ?_
  refine g_iadd X dL_law_692 ?_
  obtain ⟨b157, h⟩ := chk_s h
  refine g_sld X hX hbl hbA (i := (x5 + (3 : Int32))) (inB_vp b157) dL_law_693 ?_
  refine g_aload_n X 3 (i0 := 3) dL_law_694 rfl rfl ?_
  obtain ⟨r160, D159, e158, h⟩ := cI_s h
  refine g_SWk X (As := [.ref (E.1 0), .int (xs (x5 + (1 : Int32)).toNatClampNeg), .int (xs (x5 + (2 : Int32)).toNatClampNeg), .int (xs (x5 + (3 : Int32)).toNatClampNeg), .ref (E.1 99)]) (rest := []) (c_L_addCharge l hfl G E (xs (x5 + (1 : Int32)).toNatClampNeg) (xs (x5 + (2 : Int32)).toNatClampNeg) (xs (x5 + (3 : Int32)).toNatClampNeg) _ _ e158) kw_L_160 ⟨rfl, rfl⟩ hd_L_addCharge (⟨Nat.le_of_ble_eq_true rfl, Nat.le_of_ble_eq_true rfl⟩) hkw rfl rfl (Nat.le_of_ble_eq_true rfl) dL_law_695 ?_
  refine g_istore X (lv' := [(6, .int r160), (0, .ref b), (1, .ref (E.1 0)), (2, .ref (E.1 84)), (3, .ref (E.1 99)), (4, .ref (E.1 100)), (5, .int x5)]) dL_law_698 (by decide) rfl ?_
  refine g_aload_n X 3 (i0 := 2) dL_law_700 rfl rfl ?_
  refine g_aload_n X 1 (i0 := 0) dL_law_701 rfl rfl ?_
  refine g_iload X 6 dL_law_702 rfl ?_
  refine g_iconst X (v := (1 : Int32)) dL_law_704 (by decide) ?_
  refine g_iadd X dL_law_705 ?_
  obtain ⟨b161, h⟩ := chk_s h
  refine g_sld X hX hbl hbA (i := (x5 + (1 : Int32))) (inB_vp b161) dL_law_706 ?_
  refine g_aload_n X 1 (i0 := 0) dL_law_707 rfl rfl ?_
  refine g_iload X 6 dL_law_708 rfl ?_
  refine g_iconst X (v := (2 : Int32)) dL_law_710 (by decide) ?_
  refine g_iadd X dL_law_711 ?_
  obtain ⟨b162, h⟩ := chk_s h
  refine g_sld X hX hbl hbA (i := (x5 + (2 : Int32))) (inB_vp b162) dL_law_712 ?_
  refine g_aload_n X 1 (i0 := 0) dL_law_713 rfl rfl ?_
  refine g_iload X 6 dL_law_714 rfl ?_
  refine g_iconst X (v := (3 : Int32)) dL_law_716 (by decide) ?_
  refine g_iadd X dL_law_717 ?_
  obtain ⟨b163, h⟩ := chk_s h
  refine g_sld X hX hbl hbA (i := (x5 + (3 : Int32))) (inB_vp b163) dL_law_718 ?_
  obtain ⟨r166, D165, e164, h⟩ := cI_s h
  refine g_Vk X (As := [.int (xs (x5 + (1 : Int32)).toNatClampNeg), .int (xs (x5 + (2 : Int32)).toNatClampNeg), .int (xs (x5 + (3 : Int32)).toNatClampNeg)]) (rest := []) (c_X13_addCharge l G E (xs (x5 + (1 : Int32)).toNatClampNeg) (xs (x5 + (2 : Int32)).toNatClampNeg) (xs (x5 + (3 : Int32)).toNatClampNeg) _ _ e164) 84 (wg_84 E _) rfl rfl kv_L_162 ⟨rfl, rfl⟩ ⟨rfl, hd_X13_addCharge⟩ (⟨Nat.le_of_ble_eq_true rfl, Nat.le_of_ble_eq_true rfl⟩) hk1 rfl rfl (Nat.le_of_ble_eq_true rfl) dL_law_719 ?_
  refine g_istore X (lv' := [(7, .int r166), (6, .int r160), (0, .ref b), (1, .ref (E.1 0)), (2, .ref (E.1 84)), (3, .ref (E.1 99)), (4, .ref (E.1 100)), (5, .int x5)]) dL_law_722 (by decide) rfl ?_
  refine g_aload_n X 4 (i0 := 2) dL_law_724 rfl rfl ?_
  obtain ⟨r169, D168, e167, h⟩ := cI_s h
  refine g_Vk X (As := []) (rest := []) (c_X13_thrown l G E  _ _ e167) 84 (wg_84 E _) rfl rfl kv_L_136 ⟨rfl, rfl⟩ ⟨rfl, hd_X13_thrown⟩ (⟨Nat.le_of_ble_eq_true rfl, Nat.le_of_ble_eq_true rfl⟩) hk1 rfl rfl (Nat.le_of_ble_eq_true rfl) dL_law_725 ?_
  refine g_iload X 1 dL_law_728 rfl ?_
  refine g_icmp_eq X (tgt := 735) dL_law_730 (by decide) (fun c172 => ?_) (fun c172 => ?_)
  · have h := (ite_s h).1 c172
    refine g_iload X 1 dL_law_735 rfl ?_
    refine g_if_ne X (tgt := 752) dL_law_737 (by decide) (fun c171 => ?_) (fun c171 => ?_)
    · have h := (ite_s h).2 c171
      refine g_goto X (tgt := 2319) dL_law_752 (by decide) ?_
      refine g_iinc X 7 (v := (x5 + (4 : Int32))) (lv' := [(5, .int (x5 + (4 : Int32))), (7, .int r166), (6, .int r160), (0, .ref b), (1, .ref (E.1 0)), (2, .ref (E.1 84)), (3, .ref (E.1 99)), (4, .ref (E.1 100))]) dL_law_2319 rfl rfl (by decide) rfl ?_
      refine g_goto X (tgt := 28) dL_law_2322 (by decide) ?_
      refine g_sub (lv' := [(0, .ref b), (1, .ref (E.1 0)), (2, .ref (E.1 84)), (3, .ref (E.1 99)), (4, .ref (E.1 100)), (5, .int (x5 + (4 : Int32)))]) [3, 4, 5, 6, 7, 0] rfl ?_
      exact h1 _ (Option.some.inj h).symm
    · have h := (ite_s h).1 c171
      refine g_aload_n X 5 (i0 := 3) dL_law_740 rfl rfl ?_
      refine g_iconst X (v := (0 : Int32)) dL_law_741 (by decide) ?_
      refine g_lald X (D := D168) (f := (D168.2.2.2.1 0)) (i := (0 : Int32)) 99 (wg_99 E _) (inB_vp (by decide)) dL_law_742 ?_
      refine g_iload X 0 dL_law_743 rfl ?_
      refine g_i2l X dL_law_745 ?_
      refine g_lcmp X dL_law_746 ?_
      refine g_if_eq X (tgt := 752) dL_law_747 (by decide) (fun c170 => ?_) (fun c170 => ?_)
      · have h := (ite_s h).1 c170
        refine g_goto X (tgt := 2319) dL_law_752 (by decide) ?_
        refine g_iinc X 7 (v := (x5 + (4 : Int32))) (lv' := [(5, .int (x5 + (4 : Int32))), (7, .int r166), (6, .int r160), (0, .ref b), (1, .ref (E.1 0)), (2, .ref (E.1 84)), (3, .ref (E.1 99)), (4, .ref (E.1 100))]) dL_law_2319 rfl rfl (by decide) rfl ?_
        refine g_goto X (tgt := 28) dL_law_2322 (by decide) ?_
        refine g_sub (lv' := [(0, .ref b), (1, .ref (E.1 0)), (2, .ref (E.1 84)), (3, .ref (E.1 99)), (4, .ref (E.1 100)), (5, .int (x5 + (4 : Int32)))]) [3, 4, 5, 6, 7, 0] rfl ?_
        exact h1 _ (Option.some.inj h).symm
      · have h := (ite_s h).2 c170
        refine g_iconst X (v := (0 : Int32)) dL_law_750 (by decide) ?_
        exact g_lawret l X hr hE (by omega) (by omega) dL_law_751 (h2 _ (Option.some.inj h).symm)
  · have h := (ite_s h).2 c172
    refine g_iconst X (v := (0 : Int32)) dL_law_733 (by decide) ?_
    exact g_lawret l X hr hE (by omega) (by omega) dL_law_734 (h2 _ (Option.some.inj h).symm)
set_option maxRecDepth 100000 in
set_option maxHeartbeats 8000000 in
theorem bl_law_9 {p : Program} {l : Launch} {e : Env} {s : State} {m : MethodId} {b Ln : Nat} {xs : Nat → Int32} {below : List Frame} {meth : Method} {c : Code} {G : va_G} {E : EE} (X : CX p s m #[Value.ref b] meth c code RL 10 G E) (hfl : l.stackTraces = false) (hr : meth.sig.returnType = ret) (hX : va_X b Ln xs s s.heap) (hbl : b < s.heap.size) (hbA : ¬ fr E s.heap.size b) (hE : ∀ k, k < 101 → s.heap.size ≤ E.1 k) (K S : Nat) (hK : K + 1 ≤ 603072) (hS : S + 6 ≤ 7194730) (x5 : Int32) (D : DD) (o : (Nat × Int32 × DD) ⊕ Int32) (h : b_law_9 xs Ln x5 D = some o) (h1 : ∀ x, o = .inl x → hg_law p l e s m b below meth c G E (K + 1) (S + 6) x.1 x.2.1 x.2.2) (h2 : ∀ x, o = .inr x → x = 1) : GW p l e room_1 s m #[Value.ref b] below meth c G E 10 (lw_Z below #[Value.ref b] s) K S D 755 [(0, .ref b), (1, .ref (E.1 0)), (2, .ref (E.1 84)), (3, .ref (E.1 99)), (4, .ref (E.1 100)), (5, .int x5)] [] := by
  have hk0 : K + 0 ≤ room_1.cells ∧ S + 0 ≤ room_1.slots := ⟨by show K + 0 ≤ 603072; omega, by show S + 0 ≤ 7194730; omega⟩
  have hk1 : (K + 1) + 0 ≤ room_1.cells ∧ (S + 6) + 0 ≤ room_1.slots := ⟨by show K + 1 + 0 ≤ 603072; omega, by show S + 6 + 0 ≤ 7194730; omega⟩
  have hkw : K + 1 ≤ room_1.cells ∧ S + 6 ≤ room_1.slots := ⟨hK, hS⟩
  unfold b_law_9 at h
  refine g_aload_n X 1 (i0 := 1) dL_law_755 rfl rfl ?_
  refine g_aload_n X 0 (i0 := 0) dL_law_756 rfl rfl ?_
  refine g_iload X 5 dL_law_757 rfl ?_
  refine g_iconst X (v := (1 : Int32)) dL_law_759 (by decide) ?_
  refine g_iadd X dL_law_760 ?_
  obtain ⟨b173, h⟩ := chk_s h
  refine g_sld X hX hbl hbA (i := (x5 + (1 : Int32))) (inB_vp b173) dL_law_761 ?_
  refine g_aload_n X 3 (i0 := 3) dL_law_762 rfl rfl ?_
  obtain ⟨r176, D175, e174, h⟩ := cI_s h
  refine g_SWk X (As := [.ref (E.1 0), .int (xs (x5 + (1 : Int32)).toNatClampNeg), .ref (E.1 99)]) (rest := []) (c_L_removeCharge l hfl G E (xs (x5 + (1 : Int32)).toNatClampNeg) _ _ e174) kw_L_163 ⟨rfl, rfl⟩ hd_L_removeCharge (⟨Nat.le_of_ble_eq_true rfl, Nat.le_of_ble_eq_true rfl⟩) hkw rfl rfl (Nat.le_of_ble_eq_true rfl) dL_law_763 ?_
  refine g_istore X (lv' := [(6, .int r176), (0, .ref b), (1, .ref (E.1 0)), (2, .ref (E.1 84)), (3, .ref (E.1 99)), (4, .ref (E.1 100)), (5, .int x5)]) dL_law_766 (by decide) rfl ?_
  refine g_aload_n X 3 (i0 := 2) dL_law_768 rfl rfl ?_
  refine g_aload_n X 1 (i0 := 0) dL_law_769 rfl rfl ?_
  refine g_iload X 6 dL_law_770 rfl ?_
  refine g_iconst X (v := (1 : Int32)) dL_law_772 (by decide) ?_
  refine g_iadd X dL_law_773 ?_
  obtain ⟨b177, h⟩ := chk_s h
  refine g_sld X hX hbl hbA (i := (x5 + (1 : Int32))) (inB_vp b177) dL_law_774 ?_
  obtain ⟨r180, D179, e178, h⟩ := cI_s h
  refine g_Vk X (As := [.int (xs (x5 + (1 : Int32)).toNatClampNeg)]) (rest := []) (c_X13_removeCharge l G E (xs (x5 + (1 : Int32)).toNatClampNeg) _ _ e178) 84 (wg_84 E _) rfl rfl kv_L_165 ⟨rfl, rfl⟩ ⟨rfl, hd_X13_removeCharge⟩ (⟨Nat.le_of_ble_eq_true rfl, Nat.le_of_ble_eq_true rfl⟩) hk1 rfl rfl (Nat.le_of_ble_eq_true rfl) dL_law_775 ?_
  refine g_istore X (lv' := [(7, .int r180), (6, .int r176), (0, .ref b), (1, .ref (E.1 0)), (2, .ref (E.1 84)), (3, .ref (E.1 99)), (4, .ref (E.1 100)), (5, .int x5)]) dL_law_778 (by decide) rfl ?_
  refine g_aload_n X 4 (i0 := 2) dL_law_780 rfl rfl ?_
  obtain ⟨r183, D182, e181, h⟩ := cI_s h
  refine g_Vk X (As := []) (rest := []) (c_X13_thrown l G E  _ _ e181) 84 (wg_84 E _) rfl rfl kv_L_136 ⟨rfl, rfl⟩ ⟨rfl, hd_X13_thrown⟩ (⟨Nat.le_of_ble_eq_true rfl, Nat.le_of_ble_eq_true rfl⟩) hk1 rfl rfl (Nat.le_of_ble_eq_true rfl) dL_law_781 ?_
  refine g_iload X 1 dL_law_784 rfl ?_
  refine g_icmp_eq X (tgt := 791) dL_law_786 (by decide) (fun c186 => ?_) (fun c186 => ?_)
  · have h := (ite_s h).1 c186
    refine g_iload X 1 dL_law_791 rfl ?_
    refine g_if_ne X (tgt := 808) dL_law_793 (by decide) (fun c185 => ?_) (fun c185 => ?_)
    · have h := (ite_s h).2 c185
      refine g_goto X (tgt := 2319) dL_law_808 (by decide) ?_
      refine g_iinc X 7 (v := (x5 + (4 : Int32))) (lv' := [(5, .int (x5 + (4 : Int32))), (7, .int r180), (6, .int r176), (0, .ref b), (1, .ref (E.1 0)), (2, .ref (E.1 84)), (3, .ref (E.1 99)), (4, .ref (E.1 100))]) dL_law_2319 rfl rfl (by decide) rfl ?_
      refine g_goto X (tgt := 28) dL_law_2322 (by decide) ?_
      refine g_sub (lv' := [(0, .ref b), (1, .ref (E.1 0)), (2, .ref (E.1 84)), (3, .ref (E.1 99)), (4, .ref (E.1 100)), (5, .int (x5 + (4 : Int32)))]) [3, 4, 5, 6, 7, 0] rfl ?_
      exact h1 _ (Option.some.inj h).symm
    · have h := (ite_s h).1 c185
      refine g_aload_n X 5 (i0 := 3) dL_law_796 rfl rfl ?_
      refine g_iconst X (v := (0 : Int32)) dL_law_797 (by decide) ?_
      refine g_lald X (D := D182) (f := (D182.2.2.2.1 0)) (i := (0 : Int32)) 99 (wg_99 E _) (inB_vp (by decide)) dL_law_798 ?_
      refine g_iload X 0 dL_law_799 rfl ?_
      refine g_i2l X dL_law_801 ?_
      refine g_lcmp X dL_law_802 ?_
      refine g_if_eq X (tgt := 808) dL_law_803 (by decide) (fun c184 => ?_) (fun c184 => ?_)
      · have h := (ite_s h).1 c184
        refine g_goto X (tgt := 2319) dL_law_808 (by decide) ?_
        refine g_iinc X 7 (v := (x5 + (4 : Int32))) (lv' := [(5, .int (x5 + (4 : Int32))), (7, .int r180), (6, .int r176), (0, .ref b), (1, .ref (E.1 0)), (2, .ref (E.1 84)), (3, .ref (E.1 99)), (4, .ref (E.1 100))]) dL_law_2319 rfl rfl (by decide) rfl ?_
        refine g_goto X (tgt := 28) dL_law_2322 (by decide) ?_
        refine g_sub (lv' := [(0, .ref b), (1, .ref (E.1 0)), (2, .ref (E.1 84)), (3, .ref (E.1 99)), (4, .ref (E.1 100)), (5, .int (x5 + (4 : Int32)))]) [3, 4, 5, 6, 7, 0] rfl ?_
        exact h1 _ (Option.some.inj h).symm
      · have h := (ite_s h).2 c184
        refine g_iconst X (v := (0 : Int32)) dL_law_806 (by decide) ?_
        exact g_lawret l X hr hE (by omega) (by omega) dL_law_807 (h2 _ (Option.some.inj h).symm)
  · have h := (ite_s h).2 c186
    refine g_iconst X (v := (0 : Int32)) dL_law_789 (by decide) ?_
    exact g_lawret l X hr hE (by omega) (by omega) dL_law_790 (h2 _ (Option.some.inj h).symm)
set_option maxRecDepth 100000 in
set_option maxHeartbeats 8000000 in
theorem bl_law_10 {p : Program} {l : Launch} {e : Env} {s : State} {m : MethodId} {b Ln : Nat} {xs : Nat → Int32} {below : List Frame} {meth : Method} {c : Code} {G : va_G} {E : EE} (X : CX p s m #[Value.ref b] meth c code RL 10 G E) (hfl : l.stackTraces = false) (hr : meth.sig.returnType = ret) (hX : va_X b Ln xs s s.heap) (hbl : b < s.heap.size) (hbA : ¬ fr E s.heap.size b) (hE : ∀ k, k < 101 → s.heap.size ≤ E.1 k) (K S : Nat) (hK : K + 1 ≤ 603072) (hS : S + 6 ≤ 7194730) (x5 : Int32) (D : DD) (o : (Nat × Int32 × DD) ⊕ Int32) (h : b_law_10 xs Ln x5 D = some o) (h1 : ∀ x, o = .inl x → hg_law p l e s m b below meth c G E (K + 1) (S + 6) x.1 x.2.1 x.2.2) (h2 : ∀ x, o = .inr x → x = 1) : GW p l e room_1 s m #[Value.ref b] below meth c G E 10 (lw_Z below #[Value.ref b] s) K S D 811 [(0, .ref b), (1, .ref (E.1 0)), (2, .ref (E.1 84)), (3, .ref (E.1 99)), (4, .ref (E.1 100)), (5, .int x5)] [] := by
  have hk0 : K + 0 ≤ room_1.cells ∧ S + 0 ≤ room_1.slots := ⟨by show K + 0 ≤ 603072; omega, by show S + 0 ≤ 7194730; omega⟩
  have hk1 : (K + 1) + 0 ≤ room_1.cells ∧ (S + 6) + 0 ≤ room_1.slots := ⟨by show K + 1 + 0 ≤ 603072; omega, by show S + 6 + 0 ≤ 7194730; omega⟩
  have hkw : K + 1 ≤ room_1.cells ∧ S + 6 ≤ room_1.slots := ⟨hK, hS⟩
  unfold b_law_10 at h
  refine g_aload_n X 1 (i0 := 1) dL_law_811 rfl rfl ?_
  refine g_aload_n X 0 (i0 := 0) dL_law_812 rfl rfl ?_
  refine g_iload X 5 dL_law_813 rfl ?_
  refine g_iconst X (v := (1 : Int32)) dL_law_815 (by decide) ?_
  refine g_iadd X dL_law_816 ?_
  obtain ⟨b187, h⟩ := chk_s h
  refine g_sld X hX hbl hbA (i := (x5 + (1 : Int32))) (inB_vp b187) dL_law_817 ?_
  refine g_aload_n X 3 (i0 := 3) dL_law_818 rfl rfl ?_
  obtain ⟨r190, D189, e188, h⟩ := cI_s h
  refine g_SWk X (As := [.ref (E.1 0), .int (xs (x5 + (1 : Int32)).toNatClampNeg), .ref (E.1 99)]) (rest := []) (c_L_ignite l hfl G E (xs (x5 + (1 : Int32)).toNatClampNeg) _ _ e188) kw_L_166 ⟨rfl, rfl⟩ hd_L_ignite (⟨Nat.le_of_ble_eq_true rfl, Nat.le_of_ble_eq_true rfl⟩) hkw rfl rfl (Nat.le_of_ble_eq_true rfl) dL_law_819 ?_
  refine g_istore X (lv' := [(6, .int r190), (0, .ref b), (1, .ref (E.1 0)), (2, .ref (E.1 84)), (3, .ref (E.1 99)), (4, .ref (E.1 100)), (5, .int x5)]) dL_law_822 (by decide) rfl ?_
  refine g_aload_n X 3 (i0 := 2) dL_law_824 rfl rfl ?_
  refine g_aload_n X 1 (i0 := 0) dL_law_825 rfl rfl ?_
  refine g_iload X 6 dL_law_826 rfl ?_
  refine g_iconst X (v := (1 : Int32)) dL_law_828 (by decide) ?_
  refine g_iadd X dL_law_829 ?_
  obtain ⟨b191, h⟩ := chk_s h
  refine g_sld X hX hbl hbA (i := (x5 + (1 : Int32))) (inB_vp b191) dL_law_830 ?_
  obtain ⟨r194, D193, e192, h⟩ := cI_s h
  refine g_Vk X (As := [.int (xs (x5 + (1 : Int32)).toNatClampNeg)]) (rest := []) (c_X13_ignite l G E (xs (x5 + (1 : Int32)).toNatClampNeg) _ _ e192) 84 (wg_84 E _) rfl rfl kv_L_168 ⟨rfl, rfl⟩ ⟨rfl, hd_X13_ignite⟩ (⟨Nat.le_of_ble_eq_true rfl, Nat.le_of_ble_eq_true rfl⟩) hk1 rfl rfl (Nat.le_of_ble_eq_true rfl) dL_law_831 ?_
  refine g_istore X (lv' := [(7, .int r194), (6, .int r190), (0, .ref b), (1, .ref (E.1 0)), (2, .ref (E.1 84)), (3, .ref (E.1 99)), (4, .ref (E.1 100)), (5, .int x5)]) dL_law_834 (by decide) rfl ?_
  refine g_aload_n X 4 (i0 := 2) dL_law_836 rfl rfl ?_
  obtain ⟨r197, D196, e195, h⟩ := cI_s h
  refine g_Vk X (As := []) (rest := []) (c_X13_thrown l G E  _ _ e195) 84 (wg_84 E _) rfl rfl kv_L_136 ⟨rfl, rfl⟩ ⟨rfl, hd_X13_thrown⟩ (⟨Nat.le_of_ble_eq_true rfl, Nat.le_of_ble_eq_true rfl⟩) hk1 rfl rfl (Nat.le_of_ble_eq_true rfl) dL_law_837 ?_
  refine g_iload X 1 dL_law_840 rfl ?_
  refine g_icmp_eq X (tgt := 847) dL_law_842 (by decide) (fun c200 => ?_) (fun c200 => ?_)
  · have h := (ite_s h).1 c200
    refine g_iload X 1 dL_law_847 rfl ?_
    refine g_if_ne X (tgt := 864) dL_law_849 (by decide) (fun c199 => ?_) (fun c199 => ?_)
    · have h := (ite_s h).2 c199
      refine g_goto X (tgt := 2319) dL_law_864 (by decide) ?_
      refine g_iinc X 7 (v := (x5 + (4 : Int32))) (lv' := [(5, .int (x5 + (4 : Int32))), (7, .int r194), (6, .int r190), (0, .ref b), (1, .ref (E.1 0)), (2, .ref (E.1 84)), (3, .ref (E.1 99)), (4, .ref (E.1 100))]) dL_law_2319 rfl rfl (by decide) rfl ?_
      refine g_goto X (tgt := 28) dL_law_2322 (by decide) ?_
      refine g_sub (lv' := [(0, .ref b), (1, .ref (E.1 0)), (2, .ref (E.1 84)), (3, .ref (E.1 99)), (4, .ref (E.1 100)), (5, .int (x5 + (4 : Int32)))]) [3, 4, 5, 6, 7, 0] rfl ?_
      exact h1 _ (Option.some.inj h).symm
    · have h := (ite_s h).1 c199
      refine g_aload_n X 5 (i0 := 3) dL_law_852 rfl rfl ?_
      refine g_iconst X (v := (0 : Int32)) dL_law_853 (by decide) ?_
      refine g_lald X (D := D196) (f := (D196.2.2.2.1 0)) (i := (0 : Int32)) 99 (wg_99 E _) (inB_vp (by decide)) dL_law_854 ?_
      refine g_iload X 0 dL_law_855 rfl ?_
      refine g_i2l X dL_law_857 ?_
      refine g_lcmp X dL_law_858 ?_
      refine g_if_eq X (tgt := 864) dL_law_859 (by decide) (fun c198 => ?_) (fun c198 => ?_)
      · have h := (ite_s h).1 c198
        refine g_goto X (tgt := 2319) dL_law_864 (by decide) ?_
        refine g_iinc X 7 (v := (x5 + (4 : Int32))) (lv' := [(5, .int (x5 + (4 : Int32))), (7, .int r194), (6, .int r190), (0, .ref b), (1, .ref (E.1 0)), (2, .ref (E.1 84)), (3, .ref (E.1 99)), (4, .ref (E.1 100))]) dL_law_2319 rfl rfl (by decide) rfl ?_
        refine g_goto X (tgt := 28) dL_law_2322 (by decide) ?_
        refine g_sub (lv' := [(0, .ref b), (1, .ref (E.1 0)), (2, .ref (E.1 84)), (3, .ref (E.1 99)), (4, .ref (E.1 100)), (5, .int (x5 + (4 : Int32)))]) [3, 4, 5, 6, 7, 0] rfl ?_
        exact h1 _ (Option.some.inj h).symm
      · have h := (ite_s h).2 c198
        refine g_iconst X (v := (0 : Int32)) dL_law_862 (by decide) ?_
        exact g_lawret l X hr hE (by omega) (by omega) dL_law_863 (h2 _ (Option.some.inj h).symm)
  · have h := (ite_s h).2 c200
    refine g_iconst X (v := (0 : Int32)) dL_law_845 (by decide) ?_
    exact g_lawret l X hr hE (by omega) (by omega) dL_law_846 (h2 _ (Option.some.inj h).symm)
set_option maxRecDepth 100000 in
set_option maxHeartbeats 8000000 in
theorem bl_law_11 {p : Program} {l : Launch} {e : Env} {s : State} {m : MethodId} {b Ln : Nat} {xs : Nat → Int32} {below : List Frame} {meth : Method} {c : Code} {G : va_G} {E : EE} (X : CX p s m #[Value.ref b] meth c code RL 10 G E) (hfl : l.stackTraces = false) (hr : meth.sig.returnType = ret) (hX : va_X b Ln xs s s.heap) (hbl : b < s.heap.size) (hbA : ¬ fr E s.heap.size b) (hE : ∀ k, k < 101 → s.heap.size ≤ E.1 k) (K S : Nat) (hK : K + 1 ≤ 603072) (hS : S + 6 ≤ 7194730) (x5 : Int32) (D : DD) (o : (Nat × Int32 × DD) ⊕ Int32) (h : b_law_11 xs Ln x5 D = some o) (h1 : ∀ x, o = .inl x → hg_law p l e s m b below meth c G E (K + 1) (S + 6) x.1 x.2.1 x.2.2) (h2 : ∀ x, o = .inr x → x = 1) : GW p l e room_1 s m #[Value.ref b] below meth c G E 10 (lw_Z below #[Value.ref b] s) K S D 867 [(0, .ref b), (1, .ref (E.1 0)), (2, .ref (E.1 84)), (3, .ref (E.1 99)), (4, .ref (E.1 100)), (5, .int x5)] [] := by
  have hk0 : K + 0 ≤ room_1.cells ∧ S + 0 ≤ room_1.slots := ⟨by show K + 0 ≤ 603072; omega, by show S + 0 ≤ 7194730; omega⟩
  have hk1 : (K + 1) + 0 ≤ room_1.cells ∧ (S + 6) + 0 ≤ room_1.slots := ⟨by show K + 1 + 0 ≤ 603072; omega, by show S + 6 + 0 ≤ 7194730; omega⟩
  have hkw : K + 1 ≤ room_1.cells ∧ S + 6 ≤ room_1.slots := ⟨hK, hS⟩
  unfold b_law_11 at h
  refine g_aload_n X 1 (i0 := 1) dL_law_867 rfl rfl ?_
  obtain ⟨r203, D202, e201, h⟩ := cI_s h
  refine g_Vk X (As := []) (rest := []) (c_X12_chargeCount l G E  _ _ e201) 0 (wg_0 E _) rfl rfl kv_L_169 ⟨rfl, rfl⟩ ⟨rfl, hd_X12_chargeCount⟩ (⟨Nat.le_of_ble_eq_true rfl, Nat.le_of_ble_eq_true rfl⟩) hk0 rfl rfl (Nat.le_of_ble_eq_true rfl) dL_law_868 ?_
  refine g_aload_n X 2 (i0 := 2) dL_law_871 rfl rfl ?_
  obtain ⟨r206, D205, e204, h⟩ := cI_s h
  refine g_Vk X (As := []) (rest := [.int r203]) (c_X13_chargeCount l G E  _ _ e204) 84 (wg_84 E _) rfl rfl kv_L_172 ⟨rfl, rfl⟩ ⟨rfl, hd_X13_chargeCount⟩ (⟨Nat.le_of_ble_eq_true rfl, Nat.le_of_ble_eq_true rfl⟩) hk0 rfl rfl (Nat.le_of_ble_eq_true rfl) dL_law_872 ?_
  refine g_icmp_eq X (tgt := 2319) dL_law_875 (by decide) (fun c207 => ?_) (fun c207 => ?_)
  · have h := (ite_s h).1 c207
    refine g_iinc X 5 (v := (x5 + (4 : Int32))) (lv' := [(5, .int (x5 + (4 : Int32))), (0, .ref b), (1, .ref (E.1 0)), (2, .ref (E.1 84)), (3, .ref (E.1 99)), (4, .ref (E.1 100))]) dL_law_2319 rfl rfl (by decide) rfl ?_
    refine g_goto X (tgt := 28) dL_law_2322 (by decide) ?_
    refine g_sub (lv' := [(0, .ref b), (1, .ref (E.1 0)), (2, .ref (E.1 84)), (3, .ref (E.1 99)), (4, .ref (E.1 100)), (5, .int (x5 + (4 : Int32)))]) [1, 2, 3, 4, 5, 0] rfl ?_
    refine g_widen (k2 := K + 1) (s2 := S + 6) (by omega) (by omega) ?_
    exact h1 _ (Option.some.inj h).symm
  · have h := (ite_s h).2 c207
    refine g_iconst X (v := (0 : Int32)) dL_law_878 (by decide) ?_
    exact g_lawret l X hr hE (by omega) (by omega) dL_law_879 (h2 _ (Option.some.inj h).symm)
set_option maxRecDepth 100000 in
set_option maxHeartbeats 8000000 in
theorem bl_law_12 {p : Program} {l : Launch} {e : Env} {s : State} {m : MethodId} {b Ln : Nat} {xs : Nat → Int32} {below : List Frame} {meth : Method} {c : Code} {G : va_G} {E : EE} (X : CX p s m #[Value.ref b] meth c code RL 10 G E) (hfl : l.stackTraces = false) (hr : meth.sig.returnType = ret) (hX : va_X b Ln xs s s.heap) (hbl : b < s.heap.size) (hbA : ¬ fr E s.heap.size b) (hE : ∀ k, k < 101 → s.heap.size ≤ E.1 k) (K S : Nat) (hK : K + 1 ≤ 603072) (hS : S + 6 ≤ 7194730) (x5 : Int32) (D : DD) (o : (Nat × Int32 × DD) ⊕ Int32) (h : b_law_12 xs Ln x5 D = some o) (h1 : ∀ x, o = .inl x → hg_law p l e s m b below meth c G E (K + 1) (S + 6) x.1 x.2.1 x.2.2) (h2 : ∀ x, o = .inr x → x = 1) : GW p l e room_1 s m #[Value.ref b] below meth c G E 10 (lw_Z below #[Value.ref b] s) K S D 880 [(0, .ref b), (1, .ref (E.1 0)), (2, .ref (E.1 84)), (3, .ref (E.1 99)), (4, .ref (E.1 100)), (5, .int x5)] [] := by
  have hk0 : K + 0 ≤ room_1.cells ∧ S + 0 ≤ room_1.slots := ⟨by show K + 0 ≤ 603072; omega, by show S + 0 ≤ 7194730; omega⟩
  have hk1 : (K + 1) + 0 ≤ room_1.cells ∧ (S + 6) + 0 ≤ room_1.slots := ⟨by show K + 1 + 0 ≤ 603072; omega, by show S + 6 + 0 ≤ 7194730; omega⟩
  have hkw : K + 1 ≤ room_1.cells ∧ S + 6 ≤ room_1.slots := ⟨hK, hS⟩
  unfold b_law_12 at h
  refine g_aload_n X 1 (i0 := 1) dL_law_880 rfl rfl ?_
  refine g_aload_n X 0 (i0 := 0) dL_law_881 rfl rfl ?_
  refine g_iload X 5 dL_law_882 rfl ?_
  refine g_iconst X (v := (1 : Int32)) dL_law_884 (by decide) ?_
  refine g_iadd X dL_law_885 ?_
  obtain ⟨b208, h⟩ := chk_s h
  refine g_sld X hX hbl hbA (i := (x5 + (1 : Int32))) (inB_vp b208) dL_law_886 ?_
  refine g_aload_n X 3 (i0 := 3) dL_law_887 rfl rfl ?_
  obtain ⟨r211, D210, e209, h⟩ := cI_s h
  refine g_SWk X (As := [.ref (E.1 0), .int (xs (x5 + (1 : Int32)).toNatClampNeg), .ref (E.1 99)]) (rest := []) (c_L_chargeRow l hfl G E (xs (x5 + (1 : Int32)).toNatClampNeg) _ _ e209) kw_L_173 ⟨rfl, rfl⟩ hd_L_chargeRow (⟨Nat.le_of_ble_eq_true rfl, Nat.le_of_ble_eq_true rfl⟩) hkw rfl rfl (Nat.le_of_ble_eq_true rfl) dL_law_888 ?_
  refine g_istore X (lv' := [(6, .int r211), (0, .ref b), (1, .ref (E.1 0)), (2, .ref (E.1 84)), (3, .ref (E.1 99)), (4, .ref (E.1 100)), (5, .int x5)]) dL_law_891 (by decide) rfl ?_
  refine g_aload_n X 3 (i0 := 2) dL_law_893 rfl rfl ?_
  refine g_aload_n X 1 (i0 := 0) dL_law_894 rfl rfl ?_
  refine g_iload X 6 dL_law_895 rfl ?_
  refine g_iconst X (v := (1 : Int32)) dL_law_897 (by decide) ?_
  refine g_iadd X dL_law_898 ?_
  obtain ⟨b212, h⟩ := chk_s h
  refine g_sld X hX hbl hbA (i := (x5 + (1 : Int32))) (inB_vp b212) dL_law_899 ?_
  obtain ⟨r215, D214, e213, h⟩ := cI_s h
  refine g_Vk X (As := [.int (xs (x5 + (1 : Int32)).toNatClampNeg)]) (rest := []) (c_X13_chargeRow l G E (xs (x5 + (1 : Int32)).toNatClampNeg) _ _ e213) 84 (wg_84 E _) rfl rfl kv_L_175 ⟨rfl, rfl⟩ ⟨rfl, hd_X13_chargeRow⟩ (⟨Nat.le_of_ble_eq_true rfl, Nat.le_of_ble_eq_true rfl⟩) hk1 rfl rfl (Nat.le_of_ble_eq_true rfl) dL_law_900 ?_
  refine g_istore X (lv' := [(7, .int r215), (6, .int r211), (0, .ref b), (1, .ref (E.1 0)), (2, .ref (E.1 84)), (3, .ref (E.1 99)), (4, .ref (E.1 100)), (5, .int x5)]) dL_law_903 (by decide) rfl ?_
  refine g_aload_n X 4 (i0 := 2) dL_law_905 rfl rfl ?_
  obtain ⟨r218, D217, e216, h⟩ := cI_s h
  refine g_Vk X (As := []) (rest := []) (c_X13_thrown l G E  _ _ e216) 84 (wg_84 E _) rfl rfl kv_L_136 ⟨rfl, rfl⟩ ⟨rfl, hd_X13_thrown⟩ (⟨Nat.le_of_ble_eq_true rfl, Nat.le_of_ble_eq_true rfl⟩) hk1 rfl rfl (Nat.le_of_ble_eq_true rfl) dL_law_906 ?_
  refine g_iload X 1 dL_law_909 rfl ?_
  refine g_icmp_eq X (tgt := 916) dL_law_911 (by decide) (fun c221 => ?_) (fun c221 => ?_)
  · have h := (ite_s h).1 c221
    refine g_iload X 1 dL_law_916 rfl ?_
    refine g_if_ne X (tgt := 933) dL_law_918 (by decide) (fun c220 => ?_) (fun c220 => ?_)
    · have h := (ite_s h).2 c220
      refine g_goto X (tgt := 2319) dL_law_933 (by decide) ?_
      refine g_iinc X 7 (v := (x5 + (4 : Int32))) (lv' := [(5, .int (x5 + (4 : Int32))), (7, .int r215), (6, .int r211), (0, .ref b), (1, .ref (E.1 0)), (2, .ref (E.1 84)), (3, .ref (E.1 99)), (4, .ref (E.1 100))]) dL_law_2319 rfl rfl (by decide) rfl ?_
      refine g_goto X (tgt := 28) dL_law_2322 (by decide) ?_
      refine g_sub (lv' := [(0, .ref b), (1, .ref (E.1 0)), (2, .ref (E.1 84)), (3, .ref (E.1 99)), (4, .ref (E.1 100)), (5, .int (x5 + (4 : Int32)))]) [3, 4, 5, 6, 7, 0] rfl ?_
      exact h1 _ (Option.some.inj h).symm
    · have h := (ite_s h).1 c220
      refine g_aload_n X 5 (i0 := 3) dL_law_921 rfl rfl ?_
      refine g_iconst X (v := (0 : Int32)) dL_law_922 (by decide) ?_
      refine g_lald X (D := D217) (f := (D217.2.2.2.1 0)) (i := (0 : Int32)) 99 (wg_99 E _) (inB_vp (by decide)) dL_law_923 ?_
      refine g_iload X 0 dL_law_924 rfl ?_
      refine g_i2l X dL_law_926 ?_
      refine g_lcmp X dL_law_927 ?_
      refine g_if_eq X (tgt := 933) dL_law_928 (by decide) (fun c219 => ?_) (fun c219 => ?_)
      · have h := (ite_s h).1 c219
        refine g_goto X (tgt := 2319) dL_law_933 (by decide) ?_
        refine g_iinc X 7 (v := (x5 + (4 : Int32))) (lv' := [(5, .int (x5 + (4 : Int32))), (7, .int r215), (6, .int r211), (0, .ref b), (1, .ref (E.1 0)), (2, .ref (E.1 84)), (3, .ref (E.1 99)), (4, .ref (E.1 100))]) dL_law_2319 rfl rfl (by decide) rfl ?_
        refine g_goto X (tgt := 28) dL_law_2322 (by decide) ?_
        refine g_sub (lv' := [(0, .ref b), (1, .ref (E.1 0)), (2, .ref (E.1 84)), (3, .ref (E.1 99)), (4, .ref (E.1 100)), (5, .int (x5 + (4 : Int32)))]) [3, 4, 5, 6, 7, 0] rfl ?_
        exact h1 _ (Option.some.inj h).symm
      · have h := (ite_s h).2 c219
        refine g_iconst X (v := (0 : Int32)) dL_law_931 (by decide) ?_
        exact g_lawret l X hr hE (by omega) (by omega) dL_law_932 (h2 _ (Option.some.inj h).symm)
  · have h := (ite_s h).2 c221
    refine g_iconst X (v := (0 : Int32)) dL_law_914 (by decide) ?_
    exact g_lawret l X hr hE (by omega) (by omega) dL_law_915 (h2 _ (Option.some.inj h).symm)
set_option maxRecDepth 100000 in
set_option maxHeartbeats 8000000 in
theorem bl_law_13 {p : Program} {l : Launch} {e : Env} {s : State} {m : MethodId} {b Ln : Nat} {xs : Nat → Int32} {below : List Frame} {meth : Method} {c : Code} {G : va_G} {E : EE} (X : CX p s m #[Value.ref b] meth c code RL 10 G E) (hfl : l.stackTraces = false) (hr : meth.sig.returnType = ret) (hX : va_X b Ln xs s s.heap) (hbl : b < s.heap.size) (hbA : ¬ fr E s.heap.size b) (hE : ∀ k, k < 101 → s.heap.size ≤ E.1 k) (K S : Nat) (hK : K + 1 ≤ 603072) (hS : S + 6 ≤ 7194730) (x5 : Int32) (D : DD) (o : (Nat × Int32 × DD) ⊕ Int32) (h : b_law_13 xs Ln x5 D = some o) (h1 : ∀ x, o = .inl x → hg_law p l e s m b below meth c G E (K + 1) (S + 6) x.1 x.2.1 x.2.2) (h2 : ∀ x, o = .inr x → x = 1) : GW p l e room_1 s m #[Value.ref b] below meth c G E 10 (lw_Z below #[Value.ref b] s) K S D 936 [(0, .ref b), (1, .ref (E.1 0)), (2, .ref (E.1 84)), (3, .ref (E.1 99)), (4, .ref (E.1 100)), (5, .int x5)] [] := by
  have hk0 : K + 0 ≤ room_1.cells ∧ S + 0 ≤ room_1.slots := ⟨by show K + 0 ≤ 603072; omega, by show S + 0 ≤ 7194730; omega⟩
  have hk1 : (K + 1) + 0 ≤ room_1.cells ∧ (S + 6) + 0 ≤ room_1.slots := ⟨by show K + 1 + 0 ≤ 603072; omega, by show S + 6 + 0 ≤ 7194730; omega⟩
  have hkw : K + 1 ≤ room_1.cells ∧ S + 6 ≤ room_1.slots := ⟨hK, hS⟩
  unfold b_law_13 at h
  refine g_aload_n X 1 (i0 := 1) dL_law_936 rfl rfl ?_
  refine g_aload_n X 0 (i0 := 0) dL_law_937 rfl rfl ?_
  refine g_iload X 5 dL_law_938 rfl ?_
  refine g_iconst X (v := (1 : Int32)) dL_law_940 (by decide) ?_
  refine g_iadd X dL_law_941 ?_
  obtain ⟨b222, h⟩ := chk_s h
  refine g_sld X hX hbl hbA (i := (x5 + (1 : Int32))) (inB_vp b222) dL_law_942 ?_
  refine g_aload_n X 3 (i0 := 3) dL_law_943 rfl rfl ?_
  obtain ⟨r225, D224, e223, h⟩ := cI_s h
  refine g_SWk X (As := [.ref (E.1 0), .int (xs (x5 + (1 : Int32)).toNatClampNeg), .ref (E.1 99)]) (rest := []) (c_L_chargeColumn l hfl G E (xs (x5 + (1 : Int32)).toNatClampNeg) _ _ e223) kw_L_176 ⟨rfl, rfl⟩ hd_L_chargeColumn (⟨Nat.le_of_ble_eq_true rfl, Nat.le_of_ble_eq_true rfl⟩) hkw rfl rfl (Nat.le_of_ble_eq_true rfl) dL_law_944 ?_
  refine g_istore X (lv' := [(6, .int r225), (0, .ref b), (1, .ref (E.1 0)), (2, .ref (E.1 84)), (3, .ref (E.1 99)), (4, .ref (E.1 100)), (5, .int x5)]) dL_law_947 (by decide) rfl ?_
  refine g_aload_n X 3 (i0 := 2) dL_law_949 rfl rfl ?_
  refine g_aload_n X 1 (i0 := 0) dL_law_950 rfl rfl ?_
  refine g_iload X 6 dL_law_951 rfl ?_
  refine g_iconst X (v := (1 : Int32)) dL_law_953 (by decide) ?_
  refine g_iadd X dL_law_954 ?_
  obtain ⟨b226, h⟩ := chk_s h
  refine g_sld X hX hbl hbA (i := (x5 + (1 : Int32))) (inB_vp b226) dL_law_955 ?_
  obtain ⟨r229, D228, e227, h⟩ := cI_s h
  refine g_Vk X (As := [.int (xs (x5 + (1 : Int32)).toNatClampNeg)]) (rest := []) (c_X13_chargeColumn l G E (xs (x5 + (1 : Int32)).toNatClampNeg) _ _ e227) 84 (wg_84 E _) rfl rfl kv_L_178 ⟨rfl, rfl⟩ ⟨rfl, hd_X13_chargeColumn⟩ (⟨Nat.le_of_ble_eq_true rfl, Nat.le_of_ble_eq_true rfl⟩) hk1 rfl rfl (Nat.le_of_ble_eq_true rfl) dL_law_956 ?_
  refine g_istore X (lv' := [(7, .int r229), (6, .int r225), (0, .ref b), (1, .ref (E.1 0)), (2, .ref (E.1 84)), (3, .ref (E.1 99)), (4, .ref (E.1 100)), (5, .int x5)]) dL_law_959 (by decide) rfl ?_
  refine g_aload_n X 4 (i0 := 2) dL_law_961 rfl rfl ?_
  obtain ⟨r232, D231, e230, h⟩ := cI_s h
  refine g_Vk X (As := []) (rest := []) (c_X13_thrown l G E  _ _ e230) 84 (wg_84 E _) rfl rfl kv_L_136 ⟨rfl, rfl⟩ ⟨rfl, hd_X13_thrown⟩ (⟨Nat.le_of_ble_eq_true rfl, Nat.le_of_ble_eq_true rfl⟩) hk1 rfl rfl (Nat.le_of_ble_eq_true rfl) dL_law_962 ?_
  refine g_iload X 1 dL_law_965 rfl ?_
  refine g_icmp_eq X (tgt := 972) dL_law_967 (by decide) (fun c235 => ?_) (fun c235 => ?_)
  · have h := (ite_s h).1 c235
    refine g_iload X 1 dL_law_972 rfl ?_
    refine g_if_ne X (tgt := 989) dL_law_974 (by decide) (fun c234 => ?_) (fun c234 => ?_)
    · have h := (ite_s h).2 c234
      refine g_goto X (tgt := 2319) dL_law_989 (by decide) ?_
      refine g_iinc X 7 (v := (x5 + (4 : Int32))) (lv' := [(5, .int (x5 + (4 : Int32))), (7, .int r229), (6, .int r225), (0, .ref b), (1, .ref (E.1 0)), (2, .ref (E.1 84)), (3, .ref (E.1 99)), (4, .ref (E.1 100))]) dL_law_2319 rfl rfl (by decide) rfl ?_
      refine g_goto X (tgt := 28) dL_law_2322 (by decide) ?_
      refine g_sub (lv' := [(0, .ref b), (1, .ref (E.1 0)), (2, .ref (E.1 84)), (3, .ref (E.1 99)), (4, .ref (E.1 100)), (5, .int (x5 + (4 : Int32)))]) [3, 4, 5, 6, 7, 0] rfl ?_
      exact h1 _ (Option.some.inj h).symm
    · have h := (ite_s h).1 c234
      refine g_aload_n X 5 (i0 := 3) dL_law_977 rfl rfl ?_
      refine g_iconst X (v := (0 : Int32)) dL_law_978 (by decide) ?_
      refine g_lald X (D := D231) (f := (D231.2.2.2.1 0)) (i := (0 : Int32)) 99 (wg_99 E _) (inB_vp (by decide)) dL_law_979 ?_
      refine g_iload X 0 dL_law_980 rfl ?_
      refine g_i2l X dL_law_982 ?_
      refine g_lcmp X dL_law_983 ?_
      refine g_if_eq X (tgt := 989) dL_law_984 (by decide) (fun c233 => ?_) (fun c233 => ?_)
      · have h := (ite_s h).1 c233
        refine g_goto X (tgt := 2319) dL_law_989 (by decide) ?_
        refine g_iinc X 7 (v := (x5 + (4 : Int32))) (lv' := [(5, .int (x5 + (4 : Int32))), (7, .int r229), (6, .int r225), (0, .ref b), (1, .ref (E.1 0)), (2, .ref (E.1 84)), (3, .ref (E.1 99)), (4, .ref (E.1 100))]) dL_law_2319 rfl rfl (by decide) rfl ?_
        refine g_goto X (tgt := 28) dL_law_2322 (by decide) ?_
        refine g_sub (lv' := [(0, .ref b), (1, .ref (E.1 0)), (2, .ref (E.1 84)), (3, .ref (E.1 99)), (4, .ref (E.1 100)), (5, .int (x5 + (4 : Int32)))]) [3, 4, 5, 6, 7, 0] rfl ?_
        exact h1 _ (Option.some.inj h).symm
      · have h := (ite_s h).2 c233
        refine g_iconst X (v := (0 : Int32)) dL_law_987 (by decide) ?_
        exact g_lawret l X hr hE (by omega) (by omega) dL_law_988 (h2 _ (Option.some.inj h).symm)
  · have h := (ite_s h).2 c235
    refine g_iconst X (v := (0 : Int32)) dL_law_970 (by decide) ?_
    exact g_lawret l X hr hE (by omega) (by omega) dL_law_971 (h2 _ (Option.some.inj h).symm)
set_option maxRecDepth 100000 in
set_option maxHeartbeats 8000000 in
theorem bl_law_14 {p : Program} {l : Launch} {e : Env} {s : State} {m : MethodId} {b Ln : Nat} {xs : Nat → Int32} {below : List Frame} {meth : Method} {c : Code} {G : va_G} {E : EE} (X : CX p s m #[Value.ref b] meth c code RL 10 G E) (hfl : l.stackTraces = false) (hr : meth.sig.returnType = ret) (hX : va_X b Ln xs s s.heap) (hbl : b < s.heap.size) (hbA : ¬ fr E s.heap.size b) (hE : ∀ k, k < 101 → s.heap.size ≤ E.1 k) (K S : Nat) (hK : K + 1 ≤ 603072) (hS : S + 6 ≤ 7194730) (x5 : Int32) (D : DD) (o : (Nat × Int32 × DD) ⊕ Int32) (h : b_law_14 xs Ln x5 D = some o) (h1 : ∀ x, o = .inl x → hg_law p l e s m b below meth c G E (K + 1) (S + 6) x.1 x.2.1 x.2.2) (h2 : ∀ x, o = .inr x → x = 1) : GW p l e room_1 s m #[Value.ref b] below meth c G E 10 (lw_Z below #[Value.ref b] s) K S D 992 [(0, .ref b), (1, .ref (E.1 0)), (2, .ref (E.1 84)), (3, .ref (E.1 99)), (4, .ref (E.1 100)), (5, .int x5)] [] := by
  have hk0 : K + 0 ≤ room_1.cells ∧ S + 0 ≤ room_1.slots := ⟨by show K + 0 ≤ 603072; omega, by show S + 0 ≤ 7194730; omega⟩
  have hk1 : (K + 1) + 0 ≤ room_1.cells ∧ (S + 6) + 0 ≤ room_1.slots := ⟨by show K + 1 + 0 ≤ 603072; omega, by show S + 6 + 0 ≤ 7194730; omega⟩
  have hkw : K + 1 ≤ room_1.cells ∧ S + 6 ≤ room_1.slots := ⟨hK, hS⟩
  unfold b_law_14 at h
  refine g_aload_n X 1 (i0 := 1) dL_law_992 rfl rfl ?_
  refine g_aload_n X 0 (i0 := 0) dL_law_993 rfl rfl ?_
  refine g_iload X 5 dL_law_994 rfl ?_
  refine g_iconst X (v := (1 : Int32)) dL_law_996 (by decide) ?_
  refine g_iadd X dL_law_997 ?_
  obtain ⟨b236, h⟩ := chk_s h
  refine g_sld X hX hbl hbA (i := (x5 + (1 : Int32))) (inB_vp b236) dL_law_998 ?_
  refine g_aload_n X 3 (i0 := 3) dL_law_999 rfl rfl ?_
  obtain ⟨r239, D238, e237, h⟩ := cI_s h
  refine g_SWk X (As := [.ref (E.1 0), .int (xs (x5 + (1 : Int32)).toNatClampNeg), .ref (E.1 99)]) (rest := []) (c_L_chargeStrength l hfl G E (xs (x5 + (1 : Int32)).toNatClampNeg) _ _ e237) kw_L_179 ⟨rfl, rfl⟩ hd_L_chargeStrength (⟨Nat.le_of_ble_eq_true rfl, Nat.le_of_ble_eq_true rfl⟩) hkw rfl rfl (Nat.le_of_ble_eq_true rfl) dL_law_1000 ?_
  refine g_istore X (lv' := [(6, .int r239), (0, .ref b), (1, .ref (E.1 0)), (2, .ref (E.1 84)), (3, .ref (E.1 99)), (4, .ref (E.1 100)), (5, .int x5)]) dL_law_1003 (by decide) rfl ?_
  refine g_aload_n X 3 (i0 := 2) dL_law_1005 rfl rfl ?_
  refine g_aload_n X 1 (i0 := 0) dL_law_1006 rfl rfl ?_
  refine g_iload X 6 dL_law_1007 rfl ?_
  refine g_iconst X (v := (1 : Int32)) dL_law_1009 (by decide) ?_
  refine g_iadd X dL_law_1010 ?_
  obtain ⟨b240, h⟩ := chk_s h
  refine g_sld X hX hbl hbA (i := (x5 + (1 : Int32))) (inB_vp b240) dL_law_1011 ?_
  obtain ⟨r243, D242, e241, h⟩ := cI_s h
  refine g_Vk X (As := [.int (xs (x5 + (1 : Int32)).toNatClampNeg)]) (rest := []) (c_X13_chargeStrength l G E (xs (x5 + (1 : Int32)).toNatClampNeg) _ _ e241) 84 (wg_84 E _) rfl rfl kv_L_181 ⟨rfl, rfl⟩ ⟨rfl, hd_X13_chargeStrength⟩ (⟨Nat.le_of_ble_eq_true rfl, Nat.le_of_ble_eq_true rfl⟩) hk1 rfl rfl (Nat.le_of_ble_eq_true rfl) dL_law_1012 ?_
  refine g_istore X (lv' := [(7, .int r243), (6, .int r239), (0, .ref b), (1, .ref (E.1 0)), (2, .ref (E.1 84)), (3, .ref (E.1 99)), (4, .ref (E.1 100)), (5, .int x5)]) dL_law_1015 (by decide) rfl ?_
  refine g_aload_n X 4 (i0 := 2) dL_law_1017 rfl rfl ?_
  obtain ⟨r246, D245, e244, h⟩ := cI_s h
  refine g_Vk X (As := []) (rest := []) (c_X13_thrown l G E  _ _ e244) 84 (wg_84 E _) rfl rfl kv_L_136 ⟨rfl, rfl⟩ ⟨rfl, hd_X13_thrown⟩ (⟨Nat.le_of_ble_eq_true rfl, Nat.le_of_ble_eq_true rfl⟩) hk1 rfl rfl (Nat.le_of_ble_eq_true rfl) dL_law_1018 ?_
  refine g_iload X 1 dL_law_1021 rfl ?_
  refine g_icmp_eq X (tgt := 1028) dL_law_1023 (by decide) (fun c249 => ?_) (fun c249 => ?_)
  · have h := (ite_s h).1 c249
    refine g_iload X 1 dL_law_1028 rfl ?_
    refine g_if_ne X (tgt := 1045) dL_law_1030 (by decide) (fun c248 => ?_) (fun c248 => ?_)
    · have h := (ite_s h).2 c248
      refine g_goto X (tgt := 2319) dL_law_1045 (by decide) ?_
      refine g_iinc X 7 (v := (x5 + (4 : Int32))) (lv' := [(5, .int (x5 + (4 : Int32))), (7, .int r243), (6, .int r239), (0, .ref b), (1, .ref (E.1 0)), (2, .ref (E.1 84)), (3, .ref (E.1 99)), (4, .ref (E.1 100))]) dL_law_2319 rfl rfl (by decide) rfl ?_
      refine g_goto X (tgt := 28) dL_law_2322 (by decide) ?_
      refine g_sub (lv' := [(0, .ref b), (1, .ref (E.1 0)), (2, .ref (E.1 84)), (3, .ref (E.1 99)), (4, .ref (E.1 100)), (5, .int (x5 + (4 : Int32)))]) [3, 4, 5, 6, 7, 0] rfl ?_
      exact h1 _ (Option.some.inj h).symm
    · have h := (ite_s h).1 c248
      refine g_aload_n X 5 (i0 := 3) dL_law_1033 rfl rfl ?_
      refine g_iconst X (v := (0 : Int32)) dL_law_1034 (by decide) ?_
      refine g_lald X (D := D245) (f := (D245.2.2.2.1 0)) (i := (0 : Int32)) 99 (wg_99 E _) (inB_vp (by decide)) dL_law_1035 ?_
      refine g_iload X 0 dL_law_1036 rfl ?_
      refine g_i2l X dL_law_1038 ?_
      refine g_lcmp X dL_law_1039 ?_
      refine g_if_eq X (tgt := 1045) dL_law_1040 (by decide) (fun c247 => ?_) (fun c247 => ?_)
      · have h := (ite_s h).1 c247
        refine g_goto X (tgt := 2319) dL_law_1045 (by decide) ?_
        refine g_iinc X 7 (v := (x5 + (4 : Int32))) (lv' := [(5, .int (x5 + (4 : Int32))), (7, .int r243), (6, .int r239), (0, .ref b), (1, .ref (E.1 0)), (2, .ref (E.1 84)), (3, .ref (E.1 99)), (4, .ref (E.1 100))]) dL_law_2319 rfl rfl (by decide) rfl ?_
        refine g_goto X (tgt := 28) dL_law_2322 (by decide) ?_
        refine g_sub (lv' := [(0, .ref b), (1, .ref (E.1 0)), (2, .ref (E.1 84)), (3, .ref (E.1 99)), (4, .ref (E.1 100)), (5, .int (x5 + (4 : Int32)))]) [3, 4, 5, 6, 7, 0] rfl ?_
        exact h1 _ (Option.some.inj h).symm
      · have h := (ite_s h).2 c247
        refine g_iconst X (v := (0 : Int32)) dL_law_1043 (by decide) ?_
        exact g_lawret l X hr hE (by omega) (by omega) dL_law_1044 (h2 _ (Option.some.inj h).symm)
  · have h := (ite_s h).2 c249
    refine g_iconst X (v := (0 : Int32)) dL_law_1026 (by decide) ?_
    exact g_lawret l X hr hE (by omega) (by omega) dL_law_1027 (h2 _ (Option.some.inj h).symm)
set_option maxRecDepth 100000 in
set_option maxHeartbeats 8000000 in
theorem bl_law_15 {p : Program} {l : Launch} {e : Env} {s : State} {m : MethodId} {b Ln : Nat} {xs : Nat → Int32} {below : List Frame} {meth : Method} {c : Code} {G : va_G} {E : EE} (X : CX p s m #[Value.ref b] meth c code RL 10 G E) (hfl : l.stackTraces = false) (hr : meth.sig.returnType = ret) (hX : va_X b Ln xs s s.heap) (hbl : b < s.heap.size) (hbA : ¬ fr E s.heap.size b) (hE : ∀ k, k < 101 → s.heap.size ≤ E.1 k) (K S : Nat) (hK : K + 1 ≤ 603072) (hS : S + 6 ≤ 7194730) (x5 : Int32) (D : DD) (o : (Nat × Int32 × DD) ⊕ Int32) (h : b_law_15 xs Ln x5 D = some o) (h1 : ∀ x, o = .inl x → hg_law p l e s m b below meth c G E (K + 1) (S + 6) x.1 x.2.1 x.2.2) (h2 : ∀ x, o = .inr x → x = 1) : GW p l e room_1 s m #[Value.ref b] below meth c G E 10 (lw_Z below #[Value.ref b] s) K S D 1048 [(0, .ref b), (1, .ref (E.1 0)), (2, .ref (E.1 84)), (3, .ref (E.1 99)), (4, .ref (E.1 100)), (5, .int x5)] [] := by
  have hk0 : K + 0 ≤ room_1.cells ∧ S + 0 ≤ room_1.slots := ⟨by show K + 0 ≤ 603072; omega, by show S + 0 ≤ 7194730; omega⟩
  have hk1 : (K + 1) + 0 ≤ room_1.cells ∧ (S + 6) + 0 ≤ room_1.slots := ⟨by show K + 1 + 0 ≤ 603072; omega, by show S + 6 + 0 ≤ 7194730; omega⟩
  have hkw : K + 1 ≤ room_1.cells ∧ S + 6 ≤ room_1.slots := ⟨hK, hS⟩
  unfold b_law_15 at h
  refine g_aload_n X 1 (i0 := 1) dL_law_1048 rfl rfl ?_
  refine g_aload_n X 0 (i0 := 0) dL_law_1049 rfl rfl ?_
  refine g_iload X 5 dL_law_1050 rfl ?_
  refine g_iconst X (v := (1 : Int32)) dL_law_1052 (by decide) ?_
  refine g_iadd X dL_law_1053 ?_
  obtain ⟨b250, h⟩ := chk_s h
  refine g_sld X hX hbl hbA (i := (x5 + (1 : Int32))) (inB_vp b250) dL_law_1054 ?_
  refine g_aload_n X 3 (i0 := 3) dL_law_1055 rfl rfl ?_
  obtain ⟨r253, D252, e251, h⟩ := cI_s h
  refine g_SWk X (As := [.ref (E.1 0), .int (xs (x5 + (1 : Int32)).toNatClampNeg), .ref (E.1 99)]) (rest := []) (c_L_chainOf l hfl G E (xs (x5 + (1 : Int32)).toNatClampNeg) _ _ e251) kw_L_182 ⟨rfl, rfl⟩ hd_L_chainOf (⟨Nat.le_of_ble_eq_true rfl, Nat.le_of_ble_eq_true rfl⟩) hkw rfl rfl (Nat.le_of_ble_eq_true rfl) dL_law_1056 ?_
  refine g_istore X (lv' := [(6, .int r253), (0, .ref b), (1, .ref (E.1 0)), (2, .ref (E.1 84)), (3, .ref (E.1 99)), (4, .ref (E.1 100)), (5, .int x5)]) dL_law_1059 (by decide) rfl ?_
  refine g_aload_n X 3 (i0 := 2) dL_law_1061 rfl rfl ?_
  refine g_aload_n X 1 (i0 := 0) dL_law_1062 rfl rfl ?_
  refine g_iload X 6 dL_law_1063 rfl ?_
  refine g_iconst X (v := (1 : Int32)) dL_law_1065 (by decide) ?_
  refine g_iadd X dL_law_1066 ?_
  obtain ⟨b254, h⟩ := chk_s h
  refine g_sld X hX hbl hbA (i := (x5 + (1 : Int32))) (inB_vp b254) dL_law_1067 ?_
  obtain ⟨r257, D256, e255, h⟩ := cI_s h
  refine g_Vk X (As := [.int (xs (x5 + (1 : Int32)).toNatClampNeg)]) (rest := []) (c_X13_chainOf l G E (xs (x5 + (1 : Int32)).toNatClampNeg) _ _ e255) 84 (wg_84 E _) rfl rfl kv_L_184 ⟨rfl, rfl⟩ ⟨rfl, hd_X13_chainOf⟩ (⟨Nat.le_of_ble_eq_true rfl, Nat.le_of_ble_eq_true rfl⟩) hk1 rfl rfl (Nat.le_of_ble_eq_true rfl) dL_law_1068 ?_
  refine g_istore X (lv' := [(7, .int r257), (6, .int r253), (0, .ref b), (1, .ref (E.1 0)), (2, .ref (E.1 84)), (3, .ref (E.1 99)), (4, .ref (E.1 100)), (5, .int x5)]) dL_law_1071 (by decide) rfl ?_
  refine g_aload_n X 4 (i0 := 2) dL_law_1073 rfl rfl ?_
  obtain ⟨r260, D259, e258, h⟩ := cI_s h
  refine g_Vk X (As := []) (rest := []) (c_X13_thrown l G E  _ _ e258) 84 (wg_84 E _) rfl rfl kv_L_136 ⟨rfl, rfl⟩ ⟨rfl, hd_X13_thrown⟩ (⟨Nat.le_of_ble_eq_true rfl, Nat.le_of_ble_eq_true rfl⟩) hk1 rfl rfl (Nat.le_of_ble_eq_true rfl) dL_law_1074 ?_
  refine g_iload X 1 dL_law_1077 rfl ?_
  refine g_icmp_eq X (tgt := 1084) dL_law_1079 (by decide) (fun c263 => ?_) (fun c263 => ?_)
  · have h := (ite_s h).1 c263
    refine g_iload X 1 dL_law_1084 rfl ?_
    refine g_if_ne X (tgt := 1101) dL_law_1086 (by decide) (fun c262 => ?_) (fun c262 => ?_)
    · have h := (ite_s h).2 c262
      refine g_goto X (tgt := 2319) dL_law_1101 (by decide) ?_
      refine g_iinc X 7 (v := (x5 + (4 : Int32))) (lv' := [(5, .int (x5 + (4 : Int32))), (7, .int r257), (6, .int r253), (0, .ref b), (1, .ref (E.1 0)), (2, .ref (E.1 84)), (3, .ref (E.1 99)), (4, .ref (E.1 100))]) dL_law_2319 rfl rfl (by decide) rfl ?_
      refine g_goto X (tgt := 28) dL_law_2322 (by decide) ?_
      refine g_sub (lv' := [(0, .ref b), (1, .ref (E.1 0)), (2, .ref (E.1 84)), (3, .ref (E.1 99)), (4, .ref (E.1 100)), (5, .int (x5 + (4 : Int32)))]) [3, 4, 5, 6, 7, 0] rfl ?_
      exact h1 _ (Option.some.inj h).symm
    · have h := (ite_s h).1 c262
      refine g_aload_n X 5 (i0 := 3) dL_law_1089 rfl rfl ?_
      refine g_iconst X (v := (0 : Int32)) dL_law_1090 (by decide) ?_
      refine g_lald X (D := D259) (f := (D259.2.2.2.1 0)) (i := (0 : Int32)) 99 (wg_99 E _) (inB_vp (by decide)) dL_law_1091 ?_
      refine g_iload X 0 dL_law_1092 rfl ?_
      refine g_i2l X dL_law_1094 ?_
      refine g_lcmp X dL_law_1095 ?_
      refine g_if_eq X (tgt := 1101) dL_law_1096 (by decide) (fun c261 => ?_) (fun c261 => ?_)
      · have h := (ite_s h).1 c261
        refine g_goto X (tgt := 2319) dL_law_1101 (by decide) ?_
        refine g_iinc X 7 (v := (x5 + (4 : Int32))) (lv' := [(5, .int (x5 + (4 : Int32))), (7, .int r257), (6, .int r253), (0, .ref b), (1, .ref (E.1 0)), (2, .ref (E.1 84)), (3, .ref (E.1 99)), (4, .ref (E.1 100))]) dL_law_2319 rfl rfl (by decide) rfl ?_
        refine g_goto X (tgt := 28) dL_law_2322 (by decide) ?_
        refine g_sub (lv' := [(0, .ref b), (1, .ref (E.1 0)), (2, .ref (E.1 84)), (3, .ref (E.1 99)), (4, .ref (E.1 100)), (5, .int (x5 + (4 : Int32)))]) [3, 4, 5, 6, 7, 0] rfl ?_
        exact h1 _ (Option.some.inj h).symm
      · have h := (ite_s h).2 c261
        refine g_iconst X (v := (0 : Int32)) dL_law_1099 (by decide) ?_
        exact g_lawret l X hr hE (by omega) (by omega) dL_law_1100 (h2 _ (Option.some.inj h).symm)
  · have h := (ite_s h).2 c263
    refine g_iconst X (v := (0 : Int32)) dL_law_1082 (by decide) ?_
    exact g_lawret l X hr hE (by omega) (by omega) dL_law_1083 (h2 _ (Option.some.inj h).symm)
set_option maxRecDepth 100000 in
set_option maxHeartbeats 8000000 in
theorem bl_law_16 {p : Program} {l : Launch} {e : Env} {s : State} {m : MethodId} {b Ln : Nat} {xs : Nat → Int32} {below : List Frame} {meth : Method} {c : Code} {G : va_G} {E : EE} (X : CX p s m #[Value.ref b] meth c code RL 10 G E) (hfl : l.stackTraces = false) (hr : meth.sig.returnType = ret) (hX : va_X b Ln xs s s.heap) (hbl : b < s.heap.size) (hbA : ¬ fr E s.heap.size b) (hE : ∀ k, k < 101 → s.heap.size ≤ E.1 k) (K S : Nat) (hK : K + 1 ≤ 603072) (hS : S + 6 ≤ 7194730) (x5 : Int32) (D : DD) (o : (Nat × Int32 × DD) ⊕ Int32) (h : b_law_16 xs Ln x5 D = some o) (h1 : ∀ x, o = .inl x → hg_law p l e s m b below meth c G E (K + 1) (S + 6) x.1 x.2.1 x.2.2) (h2 : ∀ x, o = .inr x → x = 1) : GW p l e room_1 s m #[Value.ref b] below meth c G E 10 (lw_Z below #[Value.ref b] s) K S D 1104 [(0, .ref b), (1, .ref (E.1 0)), (2, .ref (E.1 84)), (3, .ref (E.1 99)), (4, .ref (E.1 100)), (5, .int x5)] [] := by
  have hk0 : K + 0 ≤ room_1.cells ∧ S + 0 ≤ room_1.slots := ⟨by show K + 0 ≤ 603072; omega, by show S + 0 ≤ 7194730; omega⟩
  have hk1 : (K + 1) + 0 ≤ room_1.cells ∧ (S + 6) + 0 ≤ room_1.slots := ⟨by show K + 1 + 0 ≤ 603072; omega, by show S + 6 + 0 ≤ 7194730; omega⟩
  have hkw : K + 1 ≤ room_1.cells ∧ S + 6 ≤ room_1.slots := ⟨hK, hS⟩
  unfold b_law_16 at h
  refine g_aload_n X 1 (i0 := 1) dL_law_1104 rfl rfl ?_
  refine g_aload_n X 0 (i0 := 0) dL_law_1105 rfl rfl ?_
  refine g_iload X 5 dL_law_1106 rfl ?_
  refine g_iconst X (v := (1 : Int32)) dL_law_1108 (by decide) ?_
  refine g_iadd X dL_law_1109 ?_
  obtain ⟨b264, h⟩ := chk_s h
  refine g_sld X hX hbl hbA (i := (x5 + (1 : Int32))) (inB_vp b264) dL_law_1110 ?_
  refine g_aload_n X 3 (i0 := 3) dL_law_1111 rfl rfl ?_
  obtain ⟨r267, D266, e265, h⟩ := cI_s h
  refine g_SWk X (As := [.ref (E.1 0), .int (xs (x5 + (1 : Int32)).toNatClampNeg), .ref (E.1 99)]) (rest := []) (c_L_chainByRounds l hfl G E (xs (x5 + (1 : Int32)).toNatClampNeg) _ _ e265) kw_L_185 ⟨rfl, rfl⟩ hd_L_chainByRounds (⟨Nat.le_of_ble_eq_true rfl, Nat.le_of_ble_eq_true rfl⟩) hkw rfl rfl (Nat.le_of_ble_eq_true rfl) dL_law_1112 ?_
  refine g_istore X (lv' := [(6, .int r267), (0, .ref b), (1, .ref (E.1 0)), (2, .ref (E.1 84)), (3, .ref (E.1 99)), (4, .ref (E.1 100)), (5, .int x5)]) dL_law_1115 (by decide) rfl ?_
  refine g_aload_n X 3 (i0 := 2) dL_law_1117 rfl rfl ?_
  refine g_aload_n X 1 (i0 := 0) dL_law_1118 rfl rfl ?_
  refine g_iload X 6 dL_law_1119 rfl ?_
  refine g_iconst X (v := (1 : Int32)) dL_law_1121 (by decide) ?_
  refine g_iadd X dL_law_1122 ?_
  obtain ⟨b268, h⟩ := chk_s h
  refine g_sld X hX hbl hbA (i := (x5 + (1 : Int32))) (inB_vp b268) dL_law_1123 ?_
  obtain ⟨r271, D270, e269, h⟩ := cI_s h
  refine g_Vk X (As := [.int (xs (x5 + (1 : Int32)).toNatClampNeg)]) (rest := []) (c_X13_chainByRounds l G E (xs (x5 + (1 : Int32)).toNatClampNeg) _ _ e269) 84 (wg_84 E _) rfl rfl kv_L_187 ⟨rfl, rfl⟩ ⟨rfl, hd_X13_chainByRounds⟩ (⟨Nat.le_of_ble_eq_true rfl, Nat.le_of_ble_eq_true rfl⟩) hk1 rfl rfl (Nat.le_of_ble_eq_true rfl) dL_law_1124 ?_
  refine g_istore X (lv' := [(7, .int r271), (6, .int r267), (0, .ref b), (1, .ref (E.1 0)), (2, .ref (E.1 84)), (3, .ref (E.1 99)), (4, .ref (E.1 100)), (5, .int x5)]) dL_law_1127 (by decide) rfl ?_
  refine g_aload_n X 4 (i0 := 2) dL_law_1129 rfl rfl ?_
  obtain ⟨r274, D273, e272, h⟩ := cI_s h
  refine g_Vk X (As := []) (rest := []) (c_X13_thrown l G E  _ _ e272) 84 (wg_84 E _) rfl rfl kv_L_136 ⟨rfl, rfl⟩ ⟨rfl, hd_X13_thrown⟩ (⟨Nat.le_of_ble_eq_true rfl, Nat.le_of_ble_eq_true rfl⟩) hk1 rfl rfl (Nat.le_of_ble_eq_true rfl) dL_law_1130 ?_
  refine g_iload X 1 dL_law_1133 rfl ?_
  refine g_icmp_eq X (tgt := 1140) dL_law_1135 (by decide) (fun c277 => ?_) (fun c277 => ?_)
  · have h := (ite_s h).1 c277
    refine g_iload X 1 dL_law_1140 rfl ?_
    refine g_if_ne X (tgt := 1157) dL_law_1142 (by decide) (fun c276 => ?_) (fun c276 => ?_)
    · have h := (ite_s h).2 c276
      refine g_goto X (tgt := 2319) dL_law_1157 (by decide) ?_
      refine g_iinc X 7 (v := (x5 + (4 : Int32))) (lv' := [(5, .int (x5 + (4 : Int32))), (7, .int r271), (6, .int r267), (0, .ref b), (1, .ref (E.1 0)), (2, .ref (E.1 84)), (3, .ref (E.1 99)), (4, .ref (E.1 100))]) dL_law_2319 rfl rfl (by decide) rfl ?_
      refine g_goto X (tgt := 28) dL_law_2322 (by decide) ?_
      refine g_sub (lv' := [(0, .ref b), (1, .ref (E.1 0)), (2, .ref (E.1 84)), (3, .ref (E.1 99)), (4, .ref (E.1 100)), (5, .int (x5 + (4 : Int32)))]) [3, 4, 5, 6, 7, 0] rfl ?_
      exact h1 _ (Option.some.inj h).symm
    · have h := (ite_s h).1 c276
      refine g_aload_n X 5 (i0 := 3) dL_law_1145 rfl rfl ?_
      refine g_iconst X (v := (0 : Int32)) dL_law_1146 (by decide) ?_
      refine g_lald X (D := D273) (f := (D273.2.2.2.1 0)) (i := (0 : Int32)) 99 (wg_99 E _) (inB_vp (by decide)) dL_law_1147 ?_
      refine g_iload X 0 dL_law_1148 rfl ?_
      refine g_i2l X dL_law_1150 ?_
      refine g_lcmp X dL_law_1151 ?_
      refine g_if_eq X (tgt := 1157) dL_law_1152 (by decide) (fun c275 => ?_) (fun c275 => ?_)
      · have h := (ite_s h).1 c275
        refine g_goto X (tgt := 2319) dL_law_1157 (by decide) ?_
        refine g_iinc X 7 (v := (x5 + (4 : Int32))) (lv' := [(5, .int (x5 + (4 : Int32))), (7, .int r271), (6, .int r267), (0, .ref b), (1, .ref (E.1 0)), (2, .ref (E.1 84)), (3, .ref (E.1 99)), (4, .ref (E.1 100))]) dL_law_2319 rfl rfl (by decide) rfl ?_
        refine g_goto X (tgt := 28) dL_law_2322 (by decide) ?_
        refine g_sub (lv' := [(0, .ref b), (1, .ref (E.1 0)), (2, .ref (E.1 84)), (3, .ref (E.1 99)), (4, .ref (E.1 100)), (5, .int (x5 + (4 : Int32)))]) [3, 4, 5, 6, 7, 0] rfl ?_
        exact h1 _ (Option.some.inj h).symm
      · have h := (ite_s h).2 c275
        refine g_iconst X (v := (0 : Int32)) dL_law_1155 (by decide) ?_
        exact g_lawret l X hr hE (by omega) (by omega) dL_law_1156 (h2 _ (Option.some.inj h).symm)
  · have h := (ite_s h).2 c277
    refine g_iconst X (v := (0 : Int32)) dL_law_1138 (by decide) ?_
    exact g_lawret l X hr hE (by omega) (by omega) dL_law_1139 (h2 _ (Option.some.inj h).symm)
set_option maxRecDepth 100000 in
set_option maxHeartbeats 8000000 in
theorem bl_law_17 {p : Program} {l : Launch} {e : Env} {s : State} {m : MethodId} {b Ln : Nat} {xs : Nat → Int32} {below : List Frame} {meth : Method} {c : Code} {G : va_G} {E : EE} (X : CX p s m #[Value.ref b] meth c code RL 10 G E) (hfl : l.stackTraces = false) (hr : meth.sig.returnType = ret) (hX : va_X b Ln xs s s.heap) (hbl : b < s.heap.size) (hbA : ¬ fr E s.heap.size b) (hE : ∀ k, k < 101 → s.heap.size ≤ E.1 k) (K S : Nat) (hK : K + 1 ≤ 603072) (hS : S + 6 ≤ 7194730) (x5 : Int32) (D : DD) (o : (Nat × Int32 × DD) ⊕ Int32) (h : b_law_17 xs Ln x5 D = some o) (h1 : ∀ x, o = .inl x → hg_law p l e s m b below meth c G E (K + 1) (S + 6) x.1 x.2.1 x.2.2) (h2 : ∀ x, o = .inr x → x = 1) : GW p l e room_1 s m #[Value.ref b] below meth c G E 10 (lw_Z below #[Value.ref b] s) K S D 1160 [(0, .ref b), (1, .ref (E.1 0)), (2, .ref (E.1 84)), (3, .ref (E.1 99)), (4, .ref (E.1 100)), (5, .int x5)] [] := by
  have hk0 : K + 0 ≤ room_1.cells ∧ S + 0 ≤ room_1.slots := ⟨by show K + 0 ≤ 603072; omega, by show S + 0 ≤ 7194730; omega⟩
  have hk1 : (K + 1) + 0 ≤ room_1.cells ∧ (S + 6) + 0 ≤ room_1.slots := ⟨by show K + 1 + 0 ≤ 603072; omega, by show S + 6 + 0 ≤ 7194730; omega⟩
  have hkw : K + 1 ≤ room_1.cells ∧ S + 6 ≤ room_1.slots := ⟨hK, hS⟩
  unfold b_law_17 at h
  refine g_aload_n X 1 (i0 := 1) dL_law_1160 rfl rfl ?_
  refine g_aload_n X 0 (i0 := 0) dL_law_1161 rfl rfl ?_
  refine g_iload X 5 dL_law_1162 rfl ?_
  refine g_iconst X (v := (1 : Int32)) dL_law_1164 (by decide) ?_
  refine g_iadd X dL_law_1165 ?_
  obtain ⟨b278, h⟩ := chk_s h
  refine g_sld X hX hbl hbA (i := (x5 + (1 : Int32))) (inB_vp b278) dL_law_1166 ?_
  refine g_aload_n X 3 (i0 := 3) dL_law_1167 rfl rfl ?_
  obtain ⟨r281, D280, e279, h⟩ := cI_s h
  refine g_SWk X (As := [.ref (E.1 0), .int (xs (x5 + (1 : Int32)).toNatClampNeg), .ref (E.1 99)]) (rest := []) (c_L_opensOf l hfl G E (xs (x5 + (1 : Int32)).toNatClampNeg) _ _ e279) kw_L_188 ⟨rfl, rfl⟩ hd_L_opensOf (⟨Nat.le_of_ble_eq_true rfl, Nat.le_of_ble_eq_true rfl⟩) hkw rfl rfl (Nat.le_of_ble_eq_true rfl) dL_law_1168 ?_
  refine g_istore X (lv' := [(6, .int r281), (0, .ref b), (1, .ref (E.1 0)), (2, .ref (E.1 84)), (3, .ref (E.1 99)), (4, .ref (E.1 100)), (5, .int x5)]) dL_law_1171 (by decide) rfl ?_
  refine g_aload_n X 3 (i0 := 2) dL_law_1173 rfl rfl ?_
  refine g_aload_n X 1 (i0 := 0) dL_law_1174 rfl rfl ?_
  refine g_iload X 6 dL_law_1175 rfl ?_
  refine g_iconst X (v := (1 : Int32)) dL_law_1177 (by decide) ?_
  refine g_iadd X dL_law_1178 ?_
  obtain ⟨b282, h⟩ := chk_s h
  refine g_sld X hX hbl hbA (i := (x5 + (1 : Int32))) (inB_vp b282) dL_law_1179 ?_
  obtain ⟨r285, D284, e283, h⟩ := cI_s h
  refine g_Vk X (As := [.int (xs (x5 + (1 : Int32)).toNatClampNeg)]) (rest := []) (c_X13_opensOf l G E (xs (x5 + (1 : Int32)).toNatClampNeg) _ _ e283) 84 (wg_84 E _) rfl rfl kv_L_190 ⟨rfl, rfl⟩ ⟨rfl, hd_X13_opensOf⟩ (⟨Nat.le_of_ble_eq_true rfl, Nat.le_of_ble_eq_true rfl⟩) hk1 rfl rfl (Nat.le_of_ble_eq_true rfl) dL_law_1180 ?_
  refine g_istore X (lv' := [(7, .int r285), (6, .int r281), (0, .ref b), (1, .ref (E.1 0)), (2, .ref (E.1 84)), (3, .ref (E.1 99)), (4, .ref (E.1 100)), (5, .int x5)]) dL_law_1183 (by decide) rfl ?_
  refine g_aload_n X 4 (i0 := 2) dL_law_1185 rfl rfl ?_
  obtain ⟨r288, D287, e286, h⟩ := cI_s h
  refine g_Vk X (As := []) (rest := []) (c_X13_thrown l G E  _ _ e286) 84 (wg_84 E _) rfl rfl kv_L_136 ⟨rfl, rfl⟩ ⟨rfl, hd_X13_thrown⟩ (⟨Nat.le_of_ble_eq_true rfl, Nat.le_of_ble_eq_true rfl⟩) hk1 rfl rfl (Nat.le_of_ble_eq_true rfl) dL_law_1186 ?_
  refine g_iload X 1 dL_law_1189 rfl ?_
  refine g_icmp_eq X (tgt := 1196) dL_law_1191 (by decide) (fun c291 => ?_) (fun c291 => ?_)
  · have h := (ite_s h).1 c291
    refine g_iload X 1 dL_law_1196 rfl ?_
    refine g_if_ne X (tgt := 1213) dL_law_1198 (by decide) (fun c290 => ?_) (fun c290 => ?_)
    · have h := (ite_s h).2 c290
      refine g_goto X (tgt := 2319) dL_law_1213 (by decide) ?_
      refine g_iinc X 7 (v := (x5 + (4 : Int32))) (lv' := [(5, .int (x5 + (4 : Int32))), (7, .int r285), (6, .int r281), (0, .ref b), (1, .ref (E.1 0)), (2, .ref (E.1 84)), (3, .ref (E.1 99)), (4, .ref (E.1 100))]) dL_law_2319 rfl rfl (by decide) rfl ?_
      refine g_goto X (tgt := 28) dL_law_2322 (by decide) ?_
      refine g_sub (lv' := [(0, .ref b), (1, .ref (E.1 0)), (2, .ref (E.1 84)), (3, .ref (E.1 99)), (4, .ref (E.1 100)), (5, .int (x5 + (4 : Int32)))]) [3, 4, 5, 6, 7, 0] rfl ?_
      exact h1 _ (Option.some.inj h).symm
    · have h := (ite_s h).1 c290
      refine g_aload_n X 5 (i0 := 3) dL_law_1201 rfl rfl ?_
      refine g_iconst X (v := (0 : Int32)) dL_law_1202 (by decide) ?_
      refine g_lald X (D := D287) (f := (D287.2.2.2.1 0)) (i := (0 : Int32)) 99 (wg_99 E _) (inB_vp (by decide)) dL_law_1203 ?_
      refine g_iload X 0 dL_law_1204 rfl ?_
      refine g_i2l X dL_law_1206 ?_
      refine g_lcmp X dL_law_1207 ?_
      refine g_if_eq X (tgt := 1213) dL_law_1208 (by decide) (fun c289 => ?_) (fun c289 => ?_)
      · have h := (ite_s h).1 c289
        refine g_goto X (tgt := 2319) dL_law_1213 (by decide) ?_
        refine g_iinc X 7 (v := (x5 + (4 : Int32))) (lv' := [(5, .int (x5 + (4 : Int32))), (7, .int r285), (6, .int r281), (0, .ref b), (1, .ref (E.1 0)), (2, .ref (E.1 84)), (3, .ref (E.1 99)), (4, .ref (E.1 100))]) dL_law_2319 rfl rfl (by decide) rfl ?_
        refine g_goto X (tgt := 28) dL_law_2322 (by decide) ?_
        refine g_sub (lv' := [(0, .ref b), (1, .ref (E.1 0)), (2, .ref (E.1 84)), (3, .ref (E.1 99)), (4, .ref (E.1 100)), (5, .int (x5 + (4 : Int32)))]) [3, 4, 5, 6, 7, 0] rfl ?_
        exact h1 _ (Option.some.inj h).symm
      · have h := (ite_s h).2 c289
        refine g_iconst X (v := (0 : Int32)) dL_law_1211 (by decide) ?_
        exact g_lawret l X hr hE (by omega) (by omega) dL_law_1212 (h2 _ (Option.some.inj h).symm)
  · have h := (ite_s h).2 c291
    refine g_iconst X (v := (0 : Int32)) dL_law_1194 (by decide) ?_
    exact g_lawret l X hr hE (by omega) (by omega) dL_law_1195 (h2 _ (Option.some.inj h).symm)
set_option maxRecDepth 100000 in
set_option maxHeartbeats 8000000 in
theorem bl_law_18 {p : Program} {l : Launch} {e : Env} {s : State} {m : MethodId} {b Ln : Nat} {xs : Nat → Int32} {below : List Frame} {meth : Method} {c : Code} {G : va_G} {E : EE} (X : CX p s m #[Value.ref b] meth c code RL 10 G E) (hfl : l.stackTraces = false) (hr : meth.sig.returnType = ret) (hX : va_X b Ln xs s s.heap) (hbl : b < s.heap.size) (hbA : ¬ fr E s.heap.size b) (hE : ∀ k, k < 101 → s.heap.size ≤ E.1 k) (K S : Nat) (hK : K + 1 ≤ 603072) (hS : S + 6 ≤ 7194730) (x5 : Int32) (D : DD) (o : (Nat × Int32 × DD) ⊕ Int32) (h : b_law_18 xs Ln x5 D = some o) (h1 : ∀ x, o = .inl x → hg_law p l e s m b below meth c G E (K + 1) (S + 6) x.1 x.2.1 x.2.2) (h2 : ∀ x, o = .inr x → x = 1) : GW p l e room_1 s m #[Value.ref b] below meth c G E 10 (lw_Z below #[Value.ref b] s) K S D 1216 [(0, .ref b), (1, .ref (E.1 0)), (2, .ref (E.1 84)), (3, .ref (E.1 99)), (4, .ref (E.1 100)), (5, .int x5)] [] := by
  have hk0 : K + 0 ≤ room_1.cells ∧ S + 0 ≤ room_1.slots := ⟨by show K + 0 ≤ 603072; omega, by show S + 0 ≤ 7194730; omega⟩
  have hk1 : (K + 1) + 0 ≤ room_1.cells ∧ (S + 6) + 0 ≤ room_1.slots := ⟨by show K + 1 + 0 ≤ 603072; omega, by show S + 6 + 0 ≤ 7194730; omega⟩
  have hkw : K + 1 ≤ room_1.cells ∧ S + 6 ≤ room_1.slots := ⟨hK, hS⟩
  unfold b_law_18 at h
  refine g_aload_n X 1 (i0 := 1) dL_law_1216 rfl rfl ?_
  refine g_aload_n X 3 (i0 := 3) dL_law_1217 rfl rfl ?_
  obtain ⟨r294, D293, e292, h⟩ := cI_s h
  refine g_SWk X (As := [.ref (E.1 0), .ref (E.1 99)]) (rest := []) (c_L_bestCharge l hfl G E  _ _ e292) kw_L_191 ⟨rfl, rfl⟩ hd_L_bestCharge (⟨Nat.le_of_ble_eq_true rfl, Nat.le_of_ble_eq_true rfl⟩) hkw rfl rfl (Nat.le_of_ble_eq_true rfl) dL_law_1218 ?_
  refine g_istore X (lv' := [(6, .int r294), (0, .ref b), (1, .ref (E.1 0)), (2, .ref (E.1 84)), (3, .ref (E.1 99)), (4, .ref (E.1 100)), (5, .int x5)]) dL_law_1221 (by decide) rfl ?_
  refine g_aload_n X 3 (i0 := 2) dL_law_1223 rfl rfl ?_
  obtain ⟨r297, D296, e295, h⟩ := cI_s h
  refine g_Vk X (As := []) (rest := []) (c_X13_bestCharge l G E  _ _ e295) 84 (wg_84 E _) rfl rfl kv_L_194 ⟨rfl, rfl⟩ ⟨rfl, hd_X13_bestCharge⟩ (⟨Nat.le_of_ble_eq_true rfl, Nat.le_of_ble_eq_true rfl⟩) hk1 rfl rfl (Nat.le_of_ble_eq_true rfl) dL_law_1224 ?_
  refine g_istore X (lv' := [(7, .int r297), (6, .int r294), (0, .ref b), (1, .ref (E.1 0)), (2, .ref (E.1 84)), (3, .ref (E.1 99)), (4, .ref (E.1 100)), (5, .int x5)]) dL_law_1227 (by decide) rfl ?_
  refine g_aload_n X 4 (i0 := 2) dL_law_1229 rfl rfl ?_
  obtain ⟨r300, D299, e298, h⟩ := cI_s h
  refine g_Vk X (As := []) (rest := []) (c_X13_thrown l G E  _ _ e298) 84 (wg_84 E _) rfl rfl kv_L_136 ⟨rfl, rfl⟩ ⟨rfl, hd_X13_thrown⟩ (⟨Nat.le_of_ble_eq_true rfl, Nat.le_of_ble_eq_true rfl⟩) hk1 rfl rfl (Nat.le_of_ble_eq_true rfl) dL_law_1230 ?_
  refine g_iload X 1 dL_law_1233 rfl ?_
  refine g_icmp_eq X (tgt := 1240) dL_law_1235 (by decide) (fun c303 => ?_) (fun c303 => ?_)
  · have h := (ite_s h).1 c303
    refine g_iload X 1 dL_law_1240 rfl ?_
    refine g_if_ne X (tgt := 1257) dL_law_1242 (by decide) (fun c302 => ?_) (fun c302 => ?_)
    · have h := (ite_s h).2 c302
      refine g_goto X (tgt := 2319) dL_law_1257 (by decide) ?_
      refine g_iinc X 7 (v := (x5 + (4 : Int32))) (lv' := [(5, .int (x5 + (4 : Int32))), (7, .int r297), (6, .int r294), (0, .ref b), (1, .ref (E.1 0)), (2, .ref (E.1 84)), (3, .ref (E.1 99)), (4, .ref (E.1 100))]) dL_law_2319 rfl rfl (by decide) rfl ?_
      refine g_goto X (tgt := 28) dL_law_2322 (by decide) ?_
      refine g_sub (lv' := [(0, .ref b), (1, .ref (E.1 0)), (2, .ref (E.1 84)), (3, .ref (E.1 99)), (4, .ref (E.1 100)), (5, .int (x5 + (4 : Int32)))]) [3, 4, 5, 6, 7, 0] rfl ?_
      exact h1 _ (Option.some.inj h).symm
    · have h := (ite_s h).1 c302
      refine g_aload_n X 5 (i0 := 3) dL_law_1245 rfl rfl ?_
      refine g_iconst X (v := (0 : Int32)) dL_law_1246 (by decide) ?_
      refine g_lald X (D := D299) (f := (D299.2.2.2.1 0)) (i := (0 : Int32)) 99 (wg_99 E _) (inB_vp (by decide)) dL_law_1247 ?_
      refine g_iload X 0 dL_law_1248 rfl ?_
      refine g_i2l X dL_law_1250 ?_
      refine g_lcmp X dL_law_1251 ?_
      refine g_if_eq X (tgt := 1257) dL_law_1252 (by decide) (fun c301 => ?_) (fun c301 => ?_)
      · have h := (ite_s h).1 c301
        refine g_goto X (tgt := 2319) dL_law_1257 (by decide) ?_
        refine g_iinc X 7 (v := (x5 + (4 : Int32))) (lv' := [(5, .int (x5 + (4 : Int32))), (7, .int r297), (6, .int r294), (0, .ref b), (1, .ref (E.1 0)), (2, .ref (E.1 84)), (3, .ref (E.1 99)), (4, .ref (E.1 100))]) dL_law_2319 rfl rfl (by decide) rfl ?_
        refine g_goto X (tgt := 28) dL_law_2322 (by decide) ?_
        refine g_sub (lv' := [(0, .ref b), (1, .ref (E.1 0)), (2, .ref (E.1 84)), (3, .ref (E.1 99)), (4, .ref (E.1 100)), (5, .int (x5 + (4 : Int32)))]) [3, 4, 5, 6, 7, 0] rfl ?_
        exact h1 _ (Option.some.inj h).symm
      · have h := (ite_s h).2 c301
        refine g_iconst X (v := (0 : Int32)) dL_law_1255 (by decide) ?_
        exact g_lawret l X hr hE (by omega) (by omega) dL_law_1256 (h2 _ (Option.some.inj h).symm)
  · have h := (ite_s h).2 c303
    refine g_iconst X (v := (0 : Int32)) dL_law_1238 (by decide) ?_
    exact g_lawret l X hr hE (by omega) (by omega) dL_law_1239 (h2 _ (Option.some.inj h).symm)
set_option maxRecDepth 100000 in
set_option maxHeartbeats 8000000 in
theorem bl_law_19 {p : Program} {l : Launch} {e : Env} {s : State} {m : MethodId} {b Ln : Nat} {xs : Nat → Int32} {below : List Frame} {meth : Method} {c : Code} {G : va_G} {E : EE} (X : CX p s m #[Value.ref b] meth c code RL 10 G E) (hfl : l.stackTraces = false) (hr : meth.sig.returnType = ret) (hX : va_X b Ln xs s s.heap) (hbl : b < s.heap.size) (hbA : ¬ fr E s.heap.size b) (hE : ∀ k, k < 101 → s.heap.size ≤ E.1 k) (K S : Nat) (hK : K + 1 ≤ 603072) (hS : S + 6 ≤ 7194730) (x5 : Int32) (D : DD) (o : (Nat × Int32 × DD) ⊕ Int32) (h : b_law_19 xs Ln x5 D = some o) (h1 : ∀ x, o = .inl x → hg_law p l e s m b below meth c G E (K + 1) (S + 6) x.1 x.2.1 x.2.2) (h2 : ∀ x, o = .inr x → x = 1) : GW p l e room_1 s m #[Value.ref b] below meth c G E 10 (lw_Z below #[Value.ref b] s) K S D 1260 [(0, .ref b), (1, .ref (E.1 0)), (2, .ref (E.1 84)), (3, .ref (E.1 99)), (4, .ref (E.1 100)), (5, .int x5)] [] := by
  have hk0 : K + 0 ≤ room_1.cells ∧ S + 0 ≤ room_1.slots := ⟨by show K + 0 ≤ 603072; omega, by show S + 0 ≤ 7194730; omega⟩
  have hk1 : (K + 1) + 0 ≤ room_1.cells ∧ (S + 6) + 0 ≤ room_1.slots := ⟨by show K + 1 + 0 ≤ 603072; omega, by show S + 6 + 0 ≤ 7194730; omega⟩
  have hkw : K + 1 ≤ room_1.cells ∧ S + 6 ≤ room_1.slots := ⟨hK, hS⟩
  unfold b_law_19 at h
  refine g_aload_n X 1 (i0 := 1) dL_law_1260 rfl rfl ?_
  obtain ⟨r306, D305, e304, h⟩ := cI_s h
  refine g_Vk X (As := []) (rest := []) (c_X12_tunnelCost l G E  _ _ e304) 0 (wg_0 E _) rfl rfl kv_L_195 ⟨rfl, rfl⟩ ⟨rfl, hd_X12_tunnelCost⟩ (⟨Nat.le_of_ble_eq_true rfl, Nat.le_of_ble_eq_true rfl⟩) hk0 rfl rfl (Nat.le_of_ble_eq_true rfl) dL_law_1261 ?_
  refine g_aload_n X 2 (i0 := 2) dL_law_1264 rfl rfl ?_
  obtain ⟨r309, D308, e307, h⟩ := cI_s h
  refine g_Vk X (As := []) (rest := [.int r306]) (c_X13_tunnelCost l G E  _ _ e307) 84 (wg_84 E _) rfl rfl kv_L_198 ⟨rfl, rfl⟩ ⟨rfl, hd_X13_tunnelCost⟩ (⟨Nat.le_of_ble_eq_true rfl, Nat.le_of_ble_eq_true rfl⟩) hk0 rfl rfl (Nat.le_of_ble_eq_true rfl) dL_law_1265 ?_
  refine g_icmp_eq X (tgt := 2319) dL_law_1268 (by decide) (fun c310 => ?_) (fun c310 => ?_)
  · have h := (ite_s h).1 c310
    refine g_iinc X 5 (v := (x5 + (4 : Int32))) (lv' := [(5, .int (x5 + (4 : Int32))), (0, .ref b), (1, .ref (E.1 0)), (2, .ref (E.1 84)), (3, .ref (E.1 99)), (4, .ref (E.1 100))]) dL_law_2319 rfl rfl (by decide) rfl ?_
    refine g_goto X (tgt := 28) dL_law_2322 (by decide) ?_
    refine g_sub (lv' := [(0, .ref b), (1, .ref (E.1 0)), (2, .ref (E.1 84)), (3, .ref (E.1 99)), (4, .ref (E.1 100)), (5, .int (x5 + (4 : Int32)))]) [1, 2, 3, 4, 5, 0] rfl ?_
    refine g_widen (k2 := K + 1) (s2 := S + 6) (by omega) (by omega) ?_
    exact h1 _ (Option.some.inj h).symm
  · have h := (ite_s h).2 c310
    refine g_iconst X (v := (0 : Int32)) dL_law_1271 (by decide) ?_
    exact g_lawret l X hr hE (by omega) (by omega) dL_law_1272 (h2 _ (Option.some.inj h).symm)
set_option maxRecDepth 100000 in
set_option maxHeartbeats 8000000 in
theorem bl_law_20 {p : Program} {l : Launch} {e : Env} {s : State} {m : MethodId} {b Ln : Nat} {xs : Nat → Int32} {below : List Frame} {meth : Method} {c : Code} {G : va_G} {E : EE} (X : CX p s m #[Value.ref b] meth c code RL 10 G E) (hfl : l.stackTraces = false) (hr : meth.sig.returnType = ret) (hX : va_X b Ln xs s s.heap) (hbl : b < s.heap.size) (hbA : ¬ fr E s.heap.size b) (hE : ∀ k, k < 101 → s.heap.size ≤ E.1 k) (K S : Nat) (hK : K + 1 ≤ 603072) (hS : S + 6 ≤ 7194730) (x5 : Int32) (D : DD) (o : (Nat × Int32 × DD) ⊕ Int32) (h : b_law_20 xs Ln x5 D = some o) (h1 : ∀ x, o = .inl x → hg_law p l e s m b below meth c G E (K + 1) (S + 6) x.1 x.2.1 x.2.2) (h2 : ∀ x, o = .inr x → x = 1) : GW p l e room_1 s m #[Value.ref b] below meth c G E 10 (lw_Z below #[Value.ref b] s) K S D 1273 [(0, .ref b), (1, .ref (E.1 0)), (2, .ref (E.1 84)), (3, .ref (E.1 99)), (4, .ref (E.1 100)), (5, .int x5)] [] := by
  have hk0 : K + 0 ≤ room_1.cells ∧ S + 0 ≤ room_1.slots := ⟨by show K + 0 ≤ 603072; omega, by show S + 0 ≤ 7194730; omega⟩
  have hk1 : (K + 1) + 0 ≤ room_1.cells ∧ (S + 6) + 0 ≤ room_1.slots := ⟨by show K + 1 + 0 ≤ 603072; omega, by show S + 6 + 0 ≤ 7194730; omega⟩
  have hkw : K + 1 ≤ room_1.cells ∧ S + 6 ≤ room_1.slots := ⟨hK, hS⟩
  unfold b_law_20 at h
  refine g_aload_n X 1 (i0 := 1) dL_law_1273 rfl rfl ?_
  obtain ⟨r313, D312, e311, h⟩ := cI_s h
  refine g_Vk X (As := []) (rest := []) (c_X12_tunnelByRounds l G E  _ _ e311) 0 (wg_0 E _) rfl rfl kv_L_199 ⟨rfl, rfl⟩ ⟨rfl, hd_X12_tunnelByRounds⟩ (⟨Nat.le_of_ble_eq_true rfl, Nat.le_of_ble_eq_true rfl⟩) hk0 rfl rfl (Nat.le_of_ble_eq_true rfl) dL_law_1274 ?_
  refine g_aload_n X 2 (i0 := 2) dL_law_1277 rfl rfl ?_
  obtain ⟨r316, D315, e314, h⟩ := cI_s h
  refine g_Vk X (As := []) (rest := [.int r313]) (c_X13_tunnelByRounds l G E  _ _ e314) 84 (wg_84 E _) rfl rfl kv_L_202 ⟨rfl, rfl⟩ ⟨rfl, hd_X13_tunnelByRounds⟩ (⟨Nat.le_of_ble_eq_true rfl, Nat.le_of_ble_eq_true rfl⟩) hk0 rfl rfl (Nat.le_of_ble_eq_true rfl) dL_law_1278 ?_
  refine g_icmp_eq X (tgt := 2319) dL_law_1281 (by decide) (fun c317 => ?_) (fun c317 => ?_)
  · have h := (ite_s h).1 c317
    refine g_iinc X 5 (v := (x5 + (4 : Int32))) (lv' := [(5, .int (x5 + (4 : Int32))), (0, .ref b), (1, .ref (E.1 0)), (2, .ref (E.1 84)), (3, .ref (E.1 99)), (4, .ref (E.1 100))]) dL_law_2319 rfl rfl (by decide) rfl ?_
    refine g_goto X (tgt := 28) dL_law_2322 (by decide) ?_
    refine g_sub (lv' := [(0, .ref b), (1, .ref (E.1 0)), (2, .ref (E.1 84)), (3, .ref (E.1 99)), (4, .ref (E.1 100)), (5, .int (x5 + (4 : Int32)))]) [1, 2, 3, 4, 5, 0] rfl ?_
    refine g_widen (k2 := K + 1) (s2 := S + 6) (by omega) (by omega) ?_
    exact h1 _ (Option.some.inj h).symm
  · have h := (ite_s h).2 c317
    refine g_iconst X (v := (0 : Int32)) dL_law_1284 (by decide) ?_
    exact g_lawret l X hr hE (by omega) (by omega) dL_law_1285 (h2 _ (Option.some.inj h).symm)
set_option maxRecDepth 100000 in
set_option maxHeartbeats 8000000 in
theorem bl_law_21 {p : Program} {l : Launch} {e : Env} {s : State} {m : MethodId} {b Ln : Nat} {xs : Nat → Int32} {below : List Frame} {meth : Method} {c : Code} {G : va_G} {E : EE} (X : CX p s m #[Value.ref b] meth c code RL 10 G E) (hfl : l.stackTraces = false) (hr : meth.sig.returnType = ret) (hX : va_X b Ln xs s s.heap) (hbl : b < s.heap.size) (hbA : ¬ fr E s.heap.size b) (hE : ∀ k, k < 101 → s.heap.size ≤ E.1 k) (K S : Nat) (hK : K + 1 ≤ 603072) (hS : S + 6 ≤ 7194730) (x5 : Int32) (D : DD) (o : (Nat × Int32 × DD) ⊕ Int32) (h : b_law_21 xs Ln x5 D = some o) (h1 : ∀ x, o = .inl x → hg_law p l e s m b below meth c G E (K + 1) (S + 6) x.1 x.2.1 x.2.2) (h2 : ∀ x, o = .inr x → x = 1) : GW p l e room_1 s m #[Value.ref b] below meth c G E 10 (lw_Z below #[Value.ref b] s) K S D 1286 [(0, .ref b), (1, .ref (E.1 0)), (2, .ref (E.1 84)), (3, .ref (E.1 99)), (4, .ref (E.1 100)), (5, .int x5)] [] := by
  have hk0 : K + 0 ≤ room_1.cells ∧ S + 0 ≤ room_1.slots := ⟨by show K + 0 ≤ 603072; omega, by show S + 0 ≤ 7194730; omega⟩
  have hk1 : (K + 1) + 0 ≤ room_1.cells ∧ (S + 6) + 0 ≤ room_1.slots := ⟨by show K + 1 + 0 ≤ 603072; omega, by show S + 6 + 0 ≤ 7194730; omega⟩
  have hkw : K + 1 ≤ room_1.cells ∧ S + 6 ≤ room_1.slots := ⟨hK, hS⟩
  unfold b_law_21 at h
  refine g_aload_n X 1 (i0 := 1) dL_law_1286 rfl rfl ?_
  obtain ⟨r320, D319, e318, h⟩ := cI_s h
  refine g_Vk X (As := []) (rest := []) (c_X12_mostSlabs l G E  _ _ e318) 0 (wg_0 E _) rfl rfl kv_L_203 ⟨rfl, rfl⟩ ⟨rfl, hd_X12_mostSlabs⟩ (⟨Nat.le_of_ble_eq_true rfl, Nat.le_of_ble_eq_true rfl⟩) hk0 rfl rfl (Nat.le_of_ble_eq_true rfl) dL_law_1287 ?_
  refine g_aload_n X 2 (i0 := 2) dL_law_1290 rfl rfl ?_
  obtain ⟨r323, D322, e321, h⟩ := cI_s h
  refine g_Vk X (As := []) (rest := [.int r320]) (c_X13_mostSlabs l G E  _ _ e321) 84 (wg_84 E _) rfl rfl kv_L_206 ⟨rfl, rfl⟩ ⟨rfl, hd_X13_mostSlabs⟩ (⟨Nat.le_of_ble_eq_true rfl, Nat.le_of_ble_eq_true rfl⟩) hk0 rfl rfl (Nat.le_of_ble_eq_true rfl) dL_law_1291 ?_
  refine g_icmp_eq X (tgt := 2319) dL_law_1294 (by decide) (fun c324 => ?_) (fun c324 => ?_)
  · have h := (ite_s h).1 c324
    refine g_iinc X 5 (v := (x5 + (4 : Int32))) (lv' := [(5, .int (x5 + (4 : Int32))), (0, .ref b), (1, .ref (E.1 0)), (2, .ref (E.1 84)), (3, .ref (E.1 99)), (4, .ref (E.1 100))]) dL_law_2319 rfl rfl (by decide) rfl ?_
    refine g_goto X (tgt := 28) dL_law_2322 (by decide) ?_
    refine g_sub (lv' := [(0, .ref b), (1, .ref (E.1 0)), (2, .ref (E.1 84)), (3, .ref (E.1 99)), (4, .ref (E.1 100)), (5, .int (x5 + (4 : Int32)))]) [1, 2, 3, 4, 5, 0] rfl ?_
    refine g_widen (k2 := K + 1) (s2 := S + 6) (by omega) (by omega) ?_
    exact h1 _ (Option.some.inj h).symm
  · have h := (ite_s h).2 c324
    refine g_iconst X (v := (0 : Int32)) dL_law_1297 (by decide) ?_
    exact g_lawret l X hr hE (by omega) (by omega) dL_law_1298 (h2 _ (Option.some.inj h).symm)
