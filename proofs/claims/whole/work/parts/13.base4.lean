/-! rows on the constants: commands, their words, the statics -/
section GG4
variable {p : Program} {l : Launch} {e : Env} {R : Room} {s : State} {m : MethodId} {args : Array Value} {below : List Frame} {meth : Method} {c : Code} {G : va_G} {E : EE} {nL : Nat} {Q : State → Prop} {D D' : DD} {pc : Nat} {lv lv' : List (Nat × Value)} {st rest : List Value} {cc : ByteArray} {own : String} {kc ks : Nat}
theorem g_getK (X : CX p s m args meth c cc own nL G E) {o n d : String} {index q : Nat} {v : Value} (hO : va_OF o n d v q (fr E s.heap.size) s s.heap) (hlink : Cond.fieldLink own index o n d ∈ UT) (hdg : decode cc pc = .ok (.getfield index, 3)) (k : GW p l e R s m args below meth c G E nL Q kc ks D (pc + 3) lv (v :: st)) : GW p l e R s m args below meth c G E nL Q kc ks D pc lv (.ref q :: st) := fun H locs ls hP hS h => vk_getf X.1.1 X.1.2.1 hO hS X.1.2.2.2.1 (X.1.2.2.2.2 _ hlink) (fun x hx => hx) hdg (k H locs ls hP hS h)
theorem g_gets (X : CX p s m args meth c cc own nL G E) {o n d : String} {index : Nat} {v : Value} (hZ : va_Z o n d v (fr E s.heap.size) s s.heap) (hlink : Cond.fieldLink own index o n d ∈ UT) (hdg : decode cc pc = .ok (.getstatic index, 3)) (k : GW p l e R s m args below meth c G E nL Q kc ks D (pc + 3) lv (v :: st)) : GW p l e R s m args below meth c G E nL Q kc ks D pc lv st := fun H locs ls hP hS h => va_gets X.1.1 X.1.2.1 hZ hS X.1.2.2.2.1 (X.1.2.2.2.2 _ hlink) (fun x hx => hx) hdg (k H locs ls hP hS h)
theorem g_tlen (X : CX p s m args meth c cc own nL G E) {ty : FieldType} {t N : Nat} {f : Nat → Value} (hT : va_T ty t N f (fr E s.heap.size) s s.heap) {v : Int32} (hv : Int32.ofNat N = v) (hdg : decode cc pc = .ok (.arraylength, 1)) (k : GW p l e R s m args below meth c G E nL Q kc ks D (pc + 1) lv (.int v :: st)) : GW p l e R s m args below meth c G E nL Q kc ks D pc lv (.ref t :: st) := fun H locs ls hP hS h => va_tlen X.1.1 X.1.2.1 hT hS hv hdg (k H locs ls hP hS h)
theorem g_ti (X : CX p s m args meth c cc own nL G E) {t N : Nat} {f : Nat → Value} (hT : va_T .int t N f (fr E s.heap.size) s s.heap) {i : Int32} (hin : vp_in i N) {v : Value} (hv : f i.toNatClampNeg = v) (hdg : decode cc pc = .ok (.iaload, 1)) (k : GW p l e R s m args below meth c G E nL Q kc ks D (pc + 1) lv (v :: st)) : GW p l e R s m args below meth c G E nL Q kc ks D pc lv (.int i :: .ref t :: st) := fun H locs ls hP hS h => va_ti X.1.1 X.1.2.1 hT hS hin hv hdg (k H locs ls hP hS h)
theorem g_tb (X : CX p s m args meth c cc own nL G E) {t N : Nat} {f : Nat → Value} (hT : va_T .byte t N f (fr E s.heap.size) s s.heap) {i : Int32} (hin : vp_in i N) {v : Value} (hv : f i.toNatClampNeg = v) (hdg : decode cc pc = .ok (.baload, 1)) (k : GW p l e R s m args below meth c G E nL Q kc ks D (pc + 1) lv (v :: st)) : GW p l e R s m args below meth c G E nL Q kc ks D pc lv (.int i :: .ref t :: st) := fun H locs ls hP hS h => va_tb X.1.1 X.1.2.1 hT hS hin hv hdg (k H locs ls hP hS h)
theorem g_tq (X : CX p s m args meth c cc own nL G E) {C : String} {t N : Nat} {f : Nat → Value} (hT : va_T (.object C) t N f (fr E s.heap.size) s s.heap) {i : Int32} (hin : vp_in i N) {v : Value} (hv : f i.toNatClampNeg = v) (hdg : decode cc pc = .ok (.aaload, 1)) (k : GW p l e R s m args below meth c G E nL Q kc ks D (pc + 1) lv (v :: st)) : GW p l e R s m args below meth c G E nL Q kc ks D pc lv (.int i :: .ref t :: st) := fun H locs ls hP hS h => vb_tq X.1.1 X.1.2.1 hT hS hin hv hdg (k H locs ls hP hS h)
theorem wg_cmd (E : EE) (D : DD) : (wd E D)[82]? = some (E.1 82, .inl (E.2 4, 10, .inr (.inr (.inr (.inr (fun j => (D.2.2.2.2.2 j).map E.1)))))) := rfl
/-- a command out of the row of the read commands -/
theorem g_cmdld (X : CX p s m args meth c cc own nL G E) {i : Int32} (hin : vp_in i 10) (hdg : decode cc pc = .ok (.aaload, 1)) (k : GW p l e R s m args below meth c G E nL Q kc ks D (pc + 1) lv (va_rf ((D.2.2.2.2.2 i.toNatClampNeg).map E.1) :: st)) : GW p l e R s m args below meth c G E nL Q kc ks D pc lv (.int i :: .ref (E.1 82) :: st) := fun H locs ls hP hS h => va_aldq X.1.1 X.1.2.1 X.2.2.1.1 hP 82 4 (wg_cmd E D) rfl hin hdg (k H locs ls hP hS h)
theorem ws_cmd (E : EE) (D : DD) (i q : Nat) : (wd E D).set 82 (E.1 82, .inl (E.2 4, 10, .inr (.inr (.inr (.inr (va_up (fun j => (D.2.2.2.2.2 j).map E.1) i (some (E.1 q)))))))) = wd E (setC D (va_up D.2.2.2.2.2 i (some q))) := by
  have h : va_up (fun j => (D.2.2.2.2.2 j).map E.1) i (some (E.1 q)) = fun j => ((va_up D.2.2.2.2.2 i (some q)) j).map E.1 := by
    funext j
    unfold va_up
    split <;> rfl
  rw [h]
  rfl
/-- a command into that row -/
theorem g_cmdst (X : CX p s m args meth c cc own nL G E) (q : Nat) (hO : va_O "StoneQuarry$Command" (E.1 q) (fr E s.heap.size) s s.heap) {i : Int32} (hin : vp_in i 10) (hdg : decode cc pc = .ok (.aastore, 1)) (k : GW p l e R s m args below meth c G E nL Q kc ks (setC D (va_up D.2.2.2.2.2 i.toNatClampNeg (some q))) (pc + 1) lv st) : GW p l e R s m args below meth c G E nL Q kc ks D pc lv (.ref (E.1 q) :: .int i :: .ref (E.1 82) :: st) := fun H locs ls hP hS h => by
  obtain ⟨cell, h1, h2, h3, -⟩ := hO.kept hS.2.1
  exact vb_astq X.1.1 X.1.2.1 X.2.2.1.1 hP (X.2.2.2.1 D) hS 82 4 (wg_cmd E D) rfl ⟨cell, h1, h2, h3⟩ vb_asgS hin hdg (fun H1 locs1 hP1 _ hS1 => k H1 locs1 ls (by rw [← ws_cmd]; exact hP1) hS1 h)
variable {y : MethodName} {bytes : ByteArray} {maxL n index : Nat} {ret : Option FieldType} {rm : Room} {As : List Value}
/-- a call on a constant object -/
theorem g_VK (X : CX p s m args meth c cc own nL G E) {C : String} {a : Nat} {r : RT} (hO : va_O C a (fr E s.heap.size) s s.heap) (hM : MM l G E y bytes maxL ret rm (.ref a :: As) D r) (hg : GoodIn UT (wsV own index C y (Cond.code y bytes maxL ret :: UT))) (hrm : rm.cells = 0 ∧ rm.slots = 0)
    (hd : y.cls = C ∧ y.cls ≠ "java/lang/invoke/MethodHandle" ∧ y.cls ≠ "java/lang/invoke/VarHandle" ∧ (parseMethodDescriptor y.desc).map (fun d => d.parameters.length) = some n) (hR : rm.frames + 1 ≤ R.frames ∧ 8 + (maxL + 11) + rm.locals ≤ R.locals) (hn : As.length = n) (hst : st = As.reverse ++ .ref a :: rest) (hW : (rest.map fun v => v.category).sum ≤ 8) (hdg : decode cc pc = .ok (.invokevirtual index, 3)) (k : GW p l e R s m args below meth c G E nL Q 0 0 r.2.2 (pc + 3) lv ((r.2.1.map (cvE E)).toList ++ rest)) : GW p l e R s m args below meth c G E nL Q 0 0 D pc lv st := fun H locs ls hP hS h => by
  obtain ⟨cell, h1, h2, h3, -⟩ := hO.kept hS.2.1
  exact g_go (va_runV X.1 (hM H.size) (cwV n X.1.2.2.2.2 hg rfl hrm.1 hrm.2 hd hR) ⟨PP_blind, ⟨cell, h1, h2, h3⟩, fun U hU hW => ⟨rfl, PP_in X hP hS hU hW⟩⟩ rfl hn h.1 hst (lv_room hW) hdg ⟨Nat.zero_le _, Nat.zero_le _⟩) hS h k
/-- the same, of a method that its superclass has -/
theorem g_UK (X : CX p s m args meth c cc own nL G E) {C owner : String} {a : Nat} {x : MethodName} {r : RT} (hO : va_O C a (fr E s.heap.size) s s.heap) (hM : MM l G E y bytes maxL ret rm (.ref a :: As) D r) (hg : GoodIn UT (va_wsU own index C owner x y (Cond.code y bytes maxL ret :: UT))) (hyx : y = ⟨owner, x.name, x.desc⟩) (hrm : rm.cells = 0 ∧ rm.slots = 0)
    (hd : owner ≠ "java/lang/invoke/MethodHandle" ∧ owner ≠ "java/lang/invoke/VarHandle" ∧ (parseMethodDescriptor x.desc).map (fun d => d.parameters.length) = some n) (hR : rm.frames + 1 ≤ R.frames ∧ 8 + (maxL + 11) + rm.locals ≤ R.locals) (hn : As.length = n) (hst : st = As.reverse ++ .ref a :: rest) (hW : (rest.map fun v => v.category).sum ≤ 8) (hdg : decode cc pc = .ok (.invokevirtual index, 3)) (k : GW p l e R s m args below meth c G E nL Q 0 0 r.2.2 (pc + 3) lv ((r.2.1.map (cvE E)).toList ++ rest)) : GW p l e R s m args below meth c G E nL Q 0 0 D pc lv st := fun H locs ls hP hS h => by
  obtain ⟨cell, h1, h2, h3, -⟩ := hO.kept hS.2.1
  exact g_go (va_runU X.1 (hM H.size) (va_cwU n X.1.2.2.2.2 hg rfl hrm.1 hrm.2 hyx hd hR) ⟨PP_blind, ⟨cell, h1, h2, h3⟩, fun U hU hW => ⟨rfl, PP_in X hP hS hU hW⟩⟩ rfl hn h.1 hst (lv_room hW) hdg ⟨Nat.zero_le _, Nat.zero_le _⟩) hS h k
theorem gu_U {C owner : String} {idx : Nat} {x : MethodName} {b : ByteArray} {mL : Nat} (h1 : Cond.methodLink own idx x ∈ UT) (h2 : Cond.sameMethod x.cls owner x.name x.desc ∈ UT) (h3 : Cond.selects C x y ∈ UT) (h4 : Cond.instanceMethod y ∈ UT) (h5 : Cond.initialized y.cls ∈ UT) (h6 : Cond.code y b mL ret ∈ UT) : GoodIn UT (va_wsU own idx C owner x y (Cond.code y b mL ret :: UT)) := gu (by
  unfold va_wsU
  intro w hw
  simp only [List.cons_append, List.nil_append, List.mem_cons] at hw
  rcases hw with rfl | rfl | rfl | rfl | rfl | rfl | hw <;> assumption)
end GG4
def oC {α : Type} (x : Option Nat) (k : Nat → Option α) (kn : Option α) : Option α := match x with
  | some q => k q
  | none => kn
theorem oC_s {α : Type} {x : Option Nat} {k : Nat → Option α} {kn : Option α} {y : α} (h : oC x k kn = some y) : (∃ q, x = some q ∧ k q = some y) ∨ x = none ∧ kn = some y := by
  unfold oC at h
  split at h
  · exact Or.inl ⟨_, rfl, h⟩
  · exact Or.inr ⟨rfl, h⟩
