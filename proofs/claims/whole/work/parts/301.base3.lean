/-! rows of the law itself: calls at any count of cells, the script, long and double locals, the end -/
section GG3
variable {p : Program} {l : Launch} {e : Env} {R : Room} {s : State} {m : MethodId} {args : Array Value} {below : List Frame} {meth : Method} {c : Code} {G : va_G} {E : EE} {nL : Nat} {Q : State → Prop} {D D' : DD} {pc : Nat} {lv lv' : List (Nat × Value)} {st rest : List Value} {cc : ByteArray} {own : String} {kc ks : Nat}
theorem g_widen {k2 s2 : Nat} (h1 : kc ≤ k2) (h2 : ks ≤ s2) (k : GW p l e R s m args below meth c G E nL Q k2 s2 D pc lv st) : GW p l e R s m args below meth c G E nL Q kc ks D pc lv st := fun H locs ls hP hS h => W.widen h1 h2 (k H locs ls hP hS h)
theorem g_lload (X : CX p s m args meth c cc own nL G E) (j : Nat) {i : Nat} {x : Int64} (hdg : decode cc pc = .ok (.lload i, 2)) (hk : lv[j]? = some (i, .long x)) (k : GW p l e R s m args below meth c G E nL Q kc ks D (pc + 2) lv (.long x :: st)) : GW p l e R s m args below meth c G E nL Q kc ks D pc lv st := fun H locs ls hP hS h => lv_lload X.1.1 X.1.2.1 hdg (lv_at h j hk) (k H locs ls hP hS h)
theorem g_dload (X : CX p s m args meth c cc own nL G E) (j : Nat) {i : Nat} {x : UInt64} (hdg : decode cc pc = .ok (.dload i, 2)) (hk : lv[j]? = some (i, .double x)) (k : GW p l e R s m args below meth c G E nL Q kc ks D (pc + 2) lv (.double x :: st)) : GW p l e R s m args below meth c G E nL Q kc ks D pc lv st := fun H locs ls hP hS h => lv_dload X.1.1 X.1.2.1 hdg (lv_at h j hk) (k H locs ls hP hS h)
theorem g_lstore (X : CX p s m args meth c cc own nL G E) {i : Nat} {x : Int64} (hdg : decode cc pc = .ok (.lstore i, 2)) (hn : i + 1 < nL) (hl : (i, Value.long x) :: lv.filter (fun q => !(q.1 == i) && (!(q.1 == i + 1) && !(q.1 + 1 == i && q.2.category == 2))) = lv') (k : GW p l e R s m args below meth c G E nL Q kc ks D (pc + 2) lv' st) : GW p l e R s m args below meth c G E nL Q kc ks D pc lv (.long x :: st) := fun H locs ls hP hS h => lv_lstore X.1.1 X.1.2.1 hdg h hn hl (fun ls h => k H locs ls hP hS h)
theorem g_dstore (X : CX p s m args meth c cc own nL G E) {i : Nat} {x : UInt64} (hdg : decode cc pc = .ok (.dstore i, 2)) (hn : i + 1 < nL) (hl : (i, Value.double x) :: lv.filter (fun q => !(q.1 == i) && (!(q.1 == i + 1) && !(q.1 + 1 == i && q.2.category == 2))) = lv') (k : GW p l e R s m args below meth c G E nL Q kc ks D (pc + 2) lv' st) : GW p l e R s m args below meth c G E nL Q kc ks D pc lv (.double x :: st) := fun H locs ls hP hS h => lv_dstore X.1.1 X.1.2.1 hdg h hn hl (fun ls h => k H locs ls hP hS h)
theorem g_sld (X : CX p s m args meth c cc own nL G E) {b Ln : Nat} {xs : Nat → Int32} (hX : va_X b Ln xs s s.heap) (hbl : b < s.heap.size) (hbA : ¬ fr E s.heap.size b) {i : Int32} (hin : vp_in i Ln) (hdg : decode cc pc = .ok (.iaload, 1)) (k : GW p l e R s m args below meth c G E nL Q kc ks D (pc + 1) lv (.int (xs i.toNatClampNeg) :: st)) : GW p l e R s m args below meth c G E nL Q kc ks D pc lv (.int i :: .ref b :: st) := fun H locs ls hP hS h => va_sld X.1.1 X.1.2.1 hX hbl hbA hS hin hdg (k H locs ls hP hS h)
theorem g_slen (X : CX p s m args meth c cc own nL G E) {b Ln : Nat} {xs : Nat → Int32} (hX : va_X b Ln xs s s.heap) (hbl : b < s.heap.size) (hbA : ¬ fr E s.heap.size b) (hdg : decode cc pc = .ok (.arraylength, 1)) (k : GW p l e R s m args below meth c G E nL Q kc ks D (pc + 1) lv (.int (Int32.ofNat Ln) :: st)) : GW p l e R s m args below meth c G E nL Q kc ks D pc lv (.ref b :: st) := fun H locs ls hP hS h => va_slen X.1.1 X.1.2.1 hX hbl hbA hS hdg (k H locs ls hP hS h)
variable {y : MethodName} {bytes : ByteArray} {maxL n index mc ms : Nat} {ret : Option FieldType} {rm : Room} {As : List Value}
theorem g_gok {av : List Value} {r : RT} {H : Heap} {locs : List Loc} {ls : Array Slot} (hr : va_Run p l e R s m args below meth c H locs kc ks mc ms (F0 m pc ls st) rest (QR G E H.size r av.toArray) (fr E H.size)) (hS : va_S (fr E s.heap.size) s.heap H locs) (h : lv_has ls nL lv) (k : GW p l e R s m args below meth c G E nL Q (kc + mc) (ks + ms) r.2.2 (pc + 3) lv ((r.2.1.map (cvE E)).toList ++ rest)) : W p l e R s m args below meth c H locs kc ks Q (F0 m pc ls st) := by
  intro T hT X
  obtain ⟨v, st₀, t, T', L, h0, X', hL, e1, e2, ⟨q0, hv, hP, hz, hk⟩, stp⟩ := hr T hT X
  cases hv
  rw [h0] at hz hk
  have hA : ∀ q, fr E H.size q → fr E s.heap.size q := fr_sub hS.1
  obtain ⟨t2, a1, b1⟩ := k T'.heap (locs ++ L) ls (by rw [e1]; exact hP) ⟨Nat.le_trans hS.1 (by rw [e1]; exact hz), fun q h1 h2 => by rw [e1, hk q (Nat.lt_of_lt_of_le h1 hS.1) (fun z => h2 (hA q z))]; exact hS.2.1 q h1 h2, fun q hq => by
      rcases List.mem_append.mp hq with h | h
      · exact hS.2.2 q h
      · exact hA _ (hL q h)⟩ h T' rfl X'
  exact ⟨t2, stp t2 a1, b1⟩
theorem g_Vk (X : CX p s m args meth c cc own nL G E) {C : String} {a ci : Nat} {q : vw_C} {fs : List Value} {r : RT} (hM : MM l G E y bytes maxL ret rm (.ref a :: As) D r) (q0 : Nat) (he : (wd E D)[q0]? = some (a, .inr (ci, fs))) (hc : vwCl[ci]? = some q) (hq : q.1 = C) (hg : GoodIn UT (wsV own index C y (Cond.code y bytes maxL ret :: UT))) (hrm : rm.cells = 0 ∧ rm.slots = 0)
    (hd : y.cls = C ∧ y.cls ≠ "java/lang/invoke/MethodHandle" ∧ y.cls ≠ "java/lang/invoke/VarHandle" ∧ (parseMethodDescriptor y.desc).map (fun d => d.parameters.length) = some n) (hR : rm.frames + 1 ≤ R.frames ∧ 8 + (maxL + 11) + rm.locals ≤ R.locals) (hf : kc + 0 ≤ R.cells ∧ ks + 0 ≤ R.slots) (hn : As.length = n) (hst : st = As.reverse ++ .ref a :: rest) (hW : (rest.map fun v => v.category).sum ≤ 8) (hdg : decode cc pc = .ok (.invokevirtual index, 3)) (k : GW p l e R s m args below meth c G E nL Q kc ks r.2.2 (pc + 3) lv ((r.2.1.map (cvE E)).toList ++ rest)) : GW p l e R s m args below meth c G E nL Q kc ks D pc lv st := fun H locs ls hP hS h =>
  g_gok (va_runV X.1 (hM H.size) (cwV n X.1.2.2.2.2 hg rfl hrm.1 hrm.2 hd hR) ⟨PP_blind, by rw [← hq]; exact va_recv X.2.2.1.1 hP hc he, fun U hU hW => ⟨rfl, PP_in X hP hS hU hW⟩⟩ rfl hn h.1 hst (lv_room hW) hdg hf) hS h k
theorem gu_SW {own : String} {idx : Nat} {y : MethodName} {b : ByteArray} {mL : Nat} {ret : Option FieldType} {hh : List (Nat × Nat × Nat × Nat)} (h1 : Cond.methodLink own idx y ∈ UT) (h2 : Cond.static y ∈ UT) (h4 : Cond.initialized y.cls ∈ UT) (h5 : Cond.codeWith y b mL ret hh ∈ UT) : GoodIn UT (va_wsS own idx y (Cond.codeWith y b mL ret hh :: UT)) := gu (by
  unfold va_wsS
  intro w hw
  simp only [List.cons_append, List.nil_append, List.mem_cons] at hw
  rcases hw with rfl | rfl | rfl | rfl | hw <;> assumption)
theorem g_SWk (X : CX p s m args meth c cc own nL G E) {hh : List (Nat × Nat × Nat × Nat)} {r : RT} (hM : MW l G E y bytes maxL ret hh rm As D r) (hg : GoodIn UT (va_wsS own index y (Cond.codeWith y bytes maxL ret hh :: UT))) (hrm : rm.cells = 1 ∧ rm.slots = 6)
    (hd : y.cls ≠ "java/lang/invoke/MethodHandle" ∧ y.cls ≠ "java/lang/invoke/VarHandle" ∧ (parseMethodDescriptor y.desc).map (fun d => d.parameters.length) = some n) (hR : rm.frames + 1 ≤ R.frames ∧ 8 + (maxL + 11) + rm.locals ≤ R.locals) (hf : kc + 1 ≤ R.cells ∧ ks + 6 ≤ R.slots) (hn : As.length = n) (hst : st = As.reverse ++ rest) (hW : (rest.map fun v => v.category).sum ≤ 8) (hdg : decode cc pc = .ok (.invokestatic index, 3)) (k : GW p l e R s m args below meth c G E nL Q (kc + 1) (ks + 6) r.2.2 (pc + 3) lv ((r.2.1.map (cvE E)).toList ++ rest)) : GW p l e R s m args below meth c G E nL Q kc ks D pc lv st := fun H locs ls hP hS h =>
  g_gok (vx_runSW X.1 (hM H.size) (vx_cwSW n X.1.2.2.2.2 hg rfl hrm.1 hrm.2 hd hR) ⟨PP_blind, fun U hU hW => ⟨rfl, PP_in X hP hS hU hW⟩⟩ rfl hn h.1 hst (lv_room hW) hdg hf) hS h k
end GG3
theorem g_lawret {p : Program} (l : Launch) {e : Env} {s : State} {m : MethodId} {below : List Frame} {meth : Method} {c : Code} {G : va_G} {E : EE} {b : Nat} {D : DD} {pc kc ks : Nat} {lv : List (Nat × Value)} {v : Int32} (X : CX p s m #[Value.ref b] meth c code RL 10 G E) (hr : meth.sig.returnType = ret) (hE : ∀ k, k < 101 → s.heap.size ≤ E.1 k) (hk : kc ≤ 603072) (hs : ks ≤ 7194730) (hdg : decode code pc = .ok (.ireturn, 1)) (hv : v = 1) : GW p l e room_1 s m #[Value.ref b] below meth c G E 10 (lw_Z below #[Value.ref b] s) kc ks D pc lv [.int v] := fun H locs ls hP hS h => by
  subst hv
  refine va_forget (fun q hq => ?_) (W.widen hk hs (W.base (lw_ret (Drawn.sameBut.refl s.drawn lw_cs) X.1.1 X.1.2.1 hr X.2.1 hdg)))
  rcases hS.2.2 q hq with ⟨k, h1, h2⟩ | h1
  · rw [h2]; exact hE k h1
  · exact h1
def cD {α : Type} (o : Option RT) (k : UInt64 → DD → Option α) : Option α := match o with
  | some (0, some (.double x), D) => k x D
  | _ => none
theorem cD_s {α : Type} {o : Option RT} {k : UInt64 → DD → Option α} {y : α} (h : cD o k = some y) : ∃ x D, o = some (0, some (.double x), D) ∧ k x D = some y := by
  unfold cD at h
  split at h
  · exact ⟨_, _, rfl, h⟩
  · cases h
def cF {α : Type} (o : Option RT) (k : UInt32 → DD → Option α) : Option α := match o with
  | some (0, some (.float x), D) => k x D
  | _ => none
theorem cF_s {α : Type} {o : Option RT} {k : UInt32 → DD → Option α} {y : α} (h : cF o k = some y) : ∃ x D, o = some (0, some (.float x), D) ∧ k x D = some y := by
  unfold cF at h
  split at h
  · exact ⟨_, _, rfl, h⟩
  · cases h
def lrun (T : Nat → Int32 → DD → Option ((Nat × Int32 × DD) ⊕ Int32)) : Nat → Nat → Int32 → DD → Option Int32
  | 0, _, _, _ => none
  | n + 1, k, i, D => match T k i D with
    | some (.inl o) => lrun T n o.1 o.2.1 o.2.2
    | some (.inr r) => some r
    | none => none
theorem lrun_G {T : Nat → Int32 → DD → Option ((Nat × Int32 × DD) ⊕ Int32)} {HG : Nat → Nat → Int32 → DD → Prop} (hstep : ∀ n k i D o, T k i D = some o → (∀ x, o = .inl x → HG n x.1 x.2.1 x.2.2) → (∀ x, o = .inr x → x = 1) → HG (n + 1) k i D) : ∀ n k i D, lrun T n k i D = some 1 → HG n k i D := by
  intro n
  induction n with
  | zero => intro k i D h; cases h
  | succ n ih =>
    intro k i D h
    rw [lrun] at h
    cases hT : T k i D with
    | none => rw [hT] at h; cases h
    | some o =>
      rw [hT] at h
      cases o with
      | inl x => exact hstep n k i D _ hT (fun x' hx => by cases hx; exact ih _ _ _ h) (fun x' hx => by cases hx)
      | inr x => exact hstep n k i D _ hT (fun x' hx => by cases hx) (fun x' hx => by cases hx; exact Option.some.inj h)
