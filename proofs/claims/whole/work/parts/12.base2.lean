/-! rows for doubles, floats, the law's own rows, methods with a table of handlers -/
section GG2
variable {p : Program} {l : Launch} {e : Env} {R : Room} {s : State} {m : MethodId} {args : Array Value} {below : List Frame} {meth : Method} {c : Code} {G : va_G} {E : EE} {nL : Nat} {Q : State → Prop} {D D' : DD} {pc : Nat} {lv lv' : List (Nat × Value)} {st rest : List Value} {cc : ByteArray} {own : String} {kc ks : Nat}
theorem g_dconst0 (X : CX p s m args meth c cc own nL G E) (hdg : decode cc pc = .ok (.dconst 0, 1)) (k : GW p l e R s m args below meth c G E nL Q kc ks D (pc + 1) lv (.double FP.dconst0 :: st)) : GW p l e R s m args below meth c G E nL Q kc ks D pc lv st := fun H locs ls hP hS h => lv_dconst0 X.1.1 X.1.2.1 hdg (k H locs ls hP hS h)
theorem g_ldcf (X : CX p s m args meth c cc own nL G E) {v : UInt32} {index : Nat} (hc : Cond.constantFloat own index v ∈ UT) (hdg : decode cc pc = .ok (.ldc index, 2)) (k : GW p l e R s m args below meth c G E nL Q kc ks D (pc + 2) lv (.float v :: st)) : GW p l e R s m args below meth c G E nL Q kc ks D pc lv st := fun H locs ls hP hS h => lv_ldcf X.1.1 X.1.2.1 X.1.2.2.2.1 (X.1.2.2.2.2 _ hc) hdg (k H locs ls hP hS h)
theorem ldcwF {T : State} {locs : List Loc} {cells slots : Nat} (X : Stand p l e R s m args below meth c T locs cells slots) (hexec : p.tables.exec = Jvm.exec) {own : String} {index : Nat} {b : UInt32} (hown : s.vm.findClass own = some m.cls)
    (hconst : (Cond.constantFloat own index b).before args s = true) {g : JFrame} (hg : g.method = m) (hdg : decode c.code g.pc = .ok (.ldc_w index, 3)) :
    ∀ target, Steps p.tables e below (T.setTop { g with pc := g.pc + 3, stack := .float b :: g.stack }) target → Steps p.tables e below (T.setTop g) target := by
  obtain ⟨k, cf, hk, hcf, hcp⟩ := Cond.constantFloat_spec hown hconst
  obtain ⟨k', hk', he⟩ := X.warmed.alike.2.2 _ _ hk
  intro target hrest
  subst hg
  jvm_step X.here [hexec, hdg, ldc_w.wp_float (s := T) (f := g) X.here.top hk' (by rw [he]; exact hcf) hcp]
  exact hrest
theorem g_ldcwf (X : CX p s m args meth c cc own nL G E) {v : UInt32} {index : Nat} (hc : Cond.constantFloat own index v ∈ UT) (hdg : decode cc pc = .ok (.ldc_w index, 3)) (k : GW p l e R s m args below meth c G E nL Q kc ks D (pc + 3) lv (.float v :: st)) : GW p l e R s m args below meth c G E nL Q kc ks D pc lv st := fun H locs ls hP hS h T hT Y => by
  obtain ⟨t, a, b⟩ := k H locs ls hP hS h T hT Y
  exact ⟨t, ldcwF Y X.1.1 X.1.2.2.2.1 (X.1.2.2.2.2 _ hc) (g := F0 m pc ls st) rfl (by rw [X.1.2.1]; exact hdg) t a, b⟩
theorem g_dret (X : CX p s m args meth c cc own nL G E) {v : UInt64} {r : RT} (hr : meth.sig.returnType = some .double) (hdg : decode cc pc = .ok (.dreturn, 1)) (he : ((0, some (.double v), D) : RT) = r) : GW p l e R s m args below meth c G E nL (MQ below (QR G E s.heap.size r) args s kc ks (fr E s.heap.size)) kc ks D pc lv [.double v] := fun H locs ls hP hS h => W.dret X.1.1 X.1.2.1 hr (fun t ht hW => by subst he; exact ⟨rfl, rfl, by rw [ht]; exact hP, hS.F ht⟩) hS.2.2 hdg X.2.1
theorem g_fret (X : CX p s m args meth c cc own nL G E) {v : UInt32} {r : RT} (hr : meth.sig.returnType = some .float) (hdg : decode cc pc = .ok (.freturn, 1)) (he : ((0, some (.float v), D) : RT) = r) : GW p l e R s m args below meth c G E nL (MQ below (QR G E s.heap.size r) args s kc ks (fr E s.heap.size)) kc ks D pc lv [.float v] := fun H locs ls hP hS h => W.fret X.1.1 X.1.2.1 hr (fun t ht hW => by subst he; exact ⟨rfl, rfl, by rw [ht]; exact hP, hS.F ht⟩) hS.2.2 hdg X.2.1
theorem g_f2d (X : CX p s m args meth c cc own nL G E) {x : UInt32} (hne : vf_n64 (FP.f2d x)) (hdg : decode cc pc = .ok (.f2d, 1)) (k : GW p l e R s m args below meth c G E nL Q kc ks D (pc + 1) lv (.double (FP.f2d x) :: st)) : GW p l e R s m args below meth c G E nL Q kc ks D pc lv (.float x :: st) := fun H locs ls hP hS h => lv_f2d X.1.1 X.1.2.1 hdg hne (k H locs ls hP hS h)
theorem g_dcmp (X : CX p s m args meth c cc own nL G E) {x y : UInt64} {op : CmpOp} (hdg : decode cc pc = .ok (.dcmp op, 1)) (k : GW p l e R s m args below meth c G E nL Q kc ks D (pc + 1) lv (.int (Op.cmpValue (FP.dcmp x y) op) :: st)) : GW p l e R s m args below meth c G E nL Q kc ks D pc lv (.double y :: .double x :: st) := fun H locs ls hP hS h => lv_dcmp X.1.1 X.1.2.1 hdg (k H locs ls hP hS h)
theorem g_last (X : CX p s m args meth c cc own nL G E) {a n : Nat} {f : Nat → Int64} (q0 : Nat) (ha : (wd E D)[q0]? = some (a, .inl (E.2 5, n, .inr (.inl f)))) {i : Int32} {x : Int64} (hin : vp_in i n) (hw : (wd E D).set q0 (a, .inl (E.2 5, n, .inr (.inl (vp_updL f i.toNatClampNeg x)))) = wd E D') (hdg : decode cc pc = .ok (.lastore, 1)) (k : GW p l e R s m args below meth c G E nL Q kc ks D' (pc + 1) lv st) : GW p l e R s m args below meth c G E nL Q kc ks D pc lv (.long x :: .int i :: .ref a :: st) := fun H locs ls hP hS h => va_last X.1.1 X.1.2.1 X.2.2.1.1 hP (X.2.2.2.1 D) hS q0 5 ha rfl hin hdg (fun H1 locs1 hP1 _ hS1 => k H1 locs1 ls (by rw [← hw]; exact hP1) hS1 h)
theorem g_dast (X : CX p s m args meth c cc own nL G E) {a n : Nat} {f : Nat → UInt64} (q0 : Nat) (ha : (wd E D)[q0]? = some (a, .inl (E.2 6, n, .inr (.inr (.inr (.inl f)))))) {i : Int32} {x : UInt64} (hin : vp_in i n) (hw : (wd E D).set q0 (a, .inl (E.2 6, n, .inr (.inr (.inr (.inl (vf_upd f i.toNatClampNeg x)))))) = wd E D') (hdg : decode cc pc = .ok (.dastore, 1)) (k : GW p l e R s m args below meth c G E nL Q kc ks D' (pc + 1) lv st) : GW p l e R s m args below meth c G E nL Q kc ks D pc lv (.double x :: .int i :: .ref a :: st) := fun H locs ls hP hS h => va_dast X.1.1 X.1.2.1 X.2.2.1.1 hP (X.2.2.2.1 D) hS q0 6 ha rfl hin hdg (fun H1 locs1 hP1 _ hS1 => k H1 locs1 ls (by rw [← hw]; exact hP1) hS1 h)
theorem g_lald (X : CX p s m args meth c cc own nL G E) {a n : Nat} {f : Nat → Int64} (q0 : Nat) (ha : (wd E D)[q0]? = some (a, .inl (E.2 5, n, .inr (.inl f)))) {i : Int32} (hin : vp_in i n) (hdg : decode cc pc = .ok (.laload, 1)) (k : GW p l e R s m args below meth c G E nL Q kc ks D (pc + 1) lv (.long (f i.toNatClampNeg) :: st)) : GW p l e R s m args below meth c G E nL Q kc ks D pc lv (.int i :: .ref a :: st) := fun H locs ls hP hS h => va_lald X.1.1 X.1.2.1 X.2.2.1.1 hP q0 5 ha rfl hin hdg (k H locs ls hP hS h)
theorem g_dald (X : CX p s m args meth c cc own nL G E) {a n : Nat} {f : Nat → UInt64} (q0 : Nat) (ha : (wd E D)[q0]? = some (a, .inl (E.2 6, n, .inr (.inr (.inr (.inl f)))))) {i : Int32} (hin : vp_in i n) (hdg : decode cc pc = .ok (.daload, 1)) (k : GW p l e R s m args below meth c G E nL Q kc ks D (pc + 1) lv (.double (f i.toNatClampNeg) :: st)) : GW p l e R s m args below meth c G E nL Q kc ks D pc lv (.int i :: .ref a :: st) := fun H locs ls hP hS h => va_dald X.1.1 X.1.2.1 X.2.2.1.1 hP q0 6 ha rfl hin hdg (k H locs ls hP hS h)
theorem gx_throwW (X : CX p s m args meth c cc own nL G E) (hfl : l.stackTraces = false) (ht : ∀ x ∈ c.exceptionTable.toList, False) {ik is ic : Nat} {cls text : String} {names : List String} (hcls : Bundle.fit cls = true) (hnames : ∀ n ∈ names, Bundle.fit n = true) (hk : Cond.classLink own ik cls ∈ UT) (hini : Cond.initialized cls ∈ UT) (hstr : (own, is, text) ∈ STRS) (hat : ∀ w ∈ vx_atS own ic cls names, w ∈ UT ∨ w ∈ NEST) (hgood : ∀ w ∈ Cond.classLink own ik cls :: Cond.initialized cls :: vx_atS own ic cls names, vx_ot w = true)
    (d0 : decode cc pc = .ok (.new ik, 3)) (d3 : decode cc (pc + 3) = .ok (.dup, 1)) (d4 : decode cc (pc + 4) = .ok (.ldc_w is, 3)) (d7 : decode cc (pc + 7) = .ok (.invokespecial ic, 3)) (d10 : decode cc (pc + 10) = .ok (.athrow, 1)) (hRf : names.length + 3 < R.frames) (hRl : (st.map fun v => v.category).sum + (13 * (names.length + 1) + 43) ≤ R.locals) (hRc : 0 + 1 ≤ R.cells) (hRs : 0 + 6 ≤ R.slots) {k : Nat} {r : RT} (hk0 : ¬ k = 0) (hkn : exN k = cls) (he : ((k, none, D) : RT) = r) : GW p l e R s m args below meth c G E nL (vx_MQ below (QR G E s.heap.size r) (XR G E s.heap.size r) args s 1 6 (fr E s.heap.size)) 0 0 D pc lv st := fun H locs ls hP hS h => by
  obtain ⟨sa, hsa⟩ := X.2.2.1.2.2.1 _ hstr
  refine vx_throwSW X.1.1 X.1.2.1 hfl X.1.2.2.2.1 hcls hnames (X.1.2.2.2.2 _ hk) (X.1.2.2.2.2 _ hini) hsa (fun w hw => (hat w hw).elim (X.1.2.2.2.2 _) (fun z => va_Nw.use (isNest_on (List.mem_filter.mp z).2) (X.2.2.1.2.1 _ z))) hgood X.2.2.2.2.1 X.2.2.2.2.2.1 hS (h.1.trans X.1.2.2.1.symm) d0 d3 d4 d7 d10 (fun x hx => absurd (ht x hx) id) hRf hRl hRc hRs X.2.1 (fun t hvm h1 h2 => ?_) hS.2.2 (Nat.le_refl _) (Nat.le_refl _)
  subst he
  exact ⟨hk0, hkn.symm, hP.kept (fun k q hq => h2 q.1 (hP k q hq).lt), Nat.le_trans hS.1 h1, fun q g1 g2 => (h2 q (Nat.lt_of_lt_of_le g1 hS.1)).trans (hS.2.1 q g1 g2)⟩
-- methods with a table of handlers
def MW (l : Launch) (G : va_G) (E : EE) (y : MethodName) (bytes : ByteArray) (maxL : Nat) (ret : Option FieldType) (hh : List (Nat × Nat × Nat × Nat)) (rm : Room) (av : List Value) (D : DD) (r : RT) : Prop :=
  ∀ sz, Met l y (Cond.codeWith y bytes maxL ret hh :: UT) rm (va_Pc av (PP G E D sz)) (QR G E sz r) 1 6 (fr E sz)
theorem mw_of {y : MethodName} {maxL : Nat} {ret : Option FieldType} {hh : List (Nat × Nat × Nat × Nat)} {rm : Room} {av : List Value} {r : RT} (hy : plainName y.cls = true) (hlen : (lg_sl av).length ≤ maxL)
    (body : ∀ (p : Program) (e : Env) (s : State) (m : MethodId) (args : Array Value) (below : List Frame) (meth : Method) (c : Code), CX p s m args meth c cc y.cls maxL G E → meth.sig.returnType = ret → c.exceptionTable.toList = tableOf hh → GW p l e rm s m args below meth c G E maxL (MQ below (QR G E s.heap.size r) args s 1 6 (fr E s.heap.size)) 0 0 D 0 (lv_args 0 av) []) : MW l G E y cc maxL ret hh rm av D r := by
  intro sz
  refine MetFree.of_bodyS (code := cc) (maxLocals := maxL) (ret := ret) hy ?_ ?_
  · intro args s m h hn
    obtain ⟨m9, meth, c, hn9, h1, h2, h3, h4, -, h5, h6, -⟩ := Cond.codeWith_spec (atoms_spec (ws := Cond.codeWith y cc maxL ret hh :: UT) h _ List.mem_cons_self)
    cases hn.symm.trans hn9
    exact ⟨meth, c, h1, h2, h3, h4, h5, h6⟩
  · intro p e s m args below meth c s₁ B hml hP0 _
    have hh0 : s₁.heap = s.heap := by rw [B.state]; rfl
    have hts := atoms_spec (ws := Cond.codeWith y cc maxL ret hh :: UT) B.pre
    have htab := vx_table (x := y) B (hts _ List.mem_cons_self)
    obtain ⟨ha, hsz, hP, hK, hD0, hST⟩ := hP0
    subst hsz
    have X : CX p s m args meth c cc y.cls maxL G E := ⟨⟨B.exec, B.bytes, hml, findClass_of_methodNamed B.named, fun w hw => hts w (List.mem_cons_of_mem _ hw)⟩, B.notSynchronized, hK, fun D2 => wd_fr _ hD0 D2, hST⟩
    have k := body p e s m args below meth c X B.returns htab
    subst ha
    have kw : W p l e rm s m av.toArray below meth c s.heap [] 0 0 (MQ below (QR G E s.heap.size r) av.toArray s 1 6 (fr E s.heap.size)) (entryFrame m av.toArray maxL) := by
      rw [lg_entry_eq]
      exact k s.heap [] _ hP va_S.rf (lv_entry av hlen)
    obtain ⟨t, a1, o, b1, b2, b3⟩ := kw s₁ hh0 (Stand.of_body B)
    exact ⟨t, o, a1, b1, b2, ⟨b3.1, b3.2⟩⟩
variable {y : MethodName} {bytes : ByteArray} {maxL n index : Nat} {ret : Option FieldType} {rm : Room} {As : List Value}
/-- a call of a method that may throw, its handler in this method's own table -/
theorem gx_V (X : CX p s m args meth c cc own nL G E) {C : String} {a ci : Nat} {q : vw_C} {fs : List Value} {r : RT} (hM : MX l G E y bytes maxL ret rm (.ref a :: As) D r) (q0 : Nat) (he : (wd E D)[q0]? = some (a, .inr (ci, fs))) (hc : vwCl[ci]? = some q) (hq : q.1 = C) (hg : GoodIn UT (wsV own index C y (Cond.code y bytes maxL ret :: UT))) (hrm : rm.cells = 1 ∧ rm.slots = 6)
    (hd : y.cls = C ∧ y.cls ≠ "java/lang/invoke/MethodHandle" ∧ y.cls ≠ "java/lang/invoke/VarHandle" ∧ (parseMethodDescriptor y.desc).map (fun d => d.parameters.length) = some n) (hR : rm.frames + 1 ≤ R.frames ∧ 8 + (maxL + 11) + rm.locals ≤ R.locals) (hRc : 0 + 1 ≤ R.cells ∧ 0 + 6 ≤ R.slots) (hn : As.length = n) (hst : st = As.reverse ++ .ref a :: rest) (hW : (rest.map fun v => v.category).sum ≤ 8) (hdg : decode cc pc = .ok (.invokevirtual index, 3)) (k : r.1 = 0 → GW p l e R s m args below meth c G E nL Q 1 6 r.2.2 (pc + 3) lv ((r.2.1.map (cvE E)).toList ++ rest))
    (kx : ¬ r.1 = 0 → ∃ (pre : List ExceptionTableEntry) (x : ExceptionTableEntry) (suf : List ExceptionTableEntry) (name : String), c.exceptionTable.toList = pre ++ x :: suf ∧ (∀ z ∈ pre, covers z pc = false ∨ (z.catchType ≠ 0 ∧ ∃ nm : String, Cond.classLink own z.catchType nm ∈ UT ∧ (exN r.1, nm) ∈ NCS)) ∧ covers x pc = true ∧ x.catchType ≠ 0 ∧ Cond.classLink own x.catchType name ∈ UT ∧ Cond.castable (exN r.1) name ∈ NEST ∧ ∀ z : Nat, GW p l e R s m args below meth c G E nL Q 1 6 r.2.2 x.handlerPc lv [.ref z]) : GW p l e R s m args below meth c G E nL Q 0 0 D pc lv st := fun H locs ls hP hS h => by
  have hr := vx_runV (l := l) (e := e) (R := R) (below := below) (meth := meth) (locs := locs) (cells := 0) (slots := 0) X.1 (hM H.size) (cwV n X.1.2.2.2.2 hg rfl hrm.1 hrm.2 hd hR) ⟨PP_blind, by rw [← hq]; exact va_recv X.2.2.1.1 hP hc he, fun U hU hW => ⟨rfl, PP_in X hP hS hU hW⟩⟩ (g := F0 m pc ls st) rfl hn h.1 hst (lv_room hW) hdg hRc
  have hA : ∀ q, fr E H.size q → fr E s.heap.size q := fr_sub hS.1
  intro T hT Y
  rcases hr T hT Y with ⟨v, st₀, t, T', L, h0, X', hL, e1, e2, ⟨q0, hv, hP1, hz, hk⟩, stp⟩ | ⟨z, st₀, t, T', L, Ex, ce, h0, X', hL, e1, e2, ⟨q0, hE, hP1, hz, hk⟩, hce, hcv, hcl, stp⟩
  · cases hv
    rw [h0] at hz hk
    obtain ⟨t2, a1, b1⟩ := k q0 T'.heap (locs ++ L) ls (by rw [e1]; exact hP1) ⟨Nat.le_trans hS.1 (by rw [e1]; exact hz), fun q h1 h2 => by rw [e1, hk q (Nat.lt_of_lt_of_le h1 hS.1) (fun z => h2 (hA q z))]; exact hS.2.1 q h1 h2, fun q hq => by
      rcases List.mem_append.mp hq with h | h
      · exact hS.2.2 q h
      · exact hA _ (hL q h)⟩ h T' rfl X'
    exact ⟨t2, stp t2 a1, b1⟩
  · subst hE
    rw [h0] at hz hk
    obtain ⟨pre, x, suf, name, hsp, hpass, hcov, hct, hlk, hcast, kk⟩ := kx q0
    have kw := vx_catch (p := p) (l := l) (e := e) (R := R) (args := args) (below := below) (meth := meth) (locs := locs ++ L) (cells := 1) (slots := 6) (Q := Q) (pc := pc) (ls := ls) (rest := rest) (own := own) X.1.2.2.2.1 pre x suf hsp (fun w hw => (hpass w hw).imp id (fun ⟨a, nm, b, c⟩ => ⟨a, nm, X.1.2.2.2.2 _ b, X.2.2.1.2.2.2 _ c⟩)) hcov hct (X.1.2.2.2.2 _ hlk) (va_Nw.use (isNest_on (List.mem_filter.mp hcast).2) (X.2.2.1.2.1 _ hcast)) (H := T'.heap) (by rw [e1]; exact hce) hcv hcl (kk z T'.heap (locs ++ L) ls (by rw [e1]; exact hP1) ⟨Nat.le_trans hS.1 (by rw [e1]; exact hz), fun q h1 h2 => by rw [e1, hk q (Nat.lt_of_lt_of_le h1 hS.1) (fun z => h2 (hA q z))]; exact hS.2.1 q h1 h2, fun q hq => by
      rcases List.mem_append.mp hq with h | h
      · exact hS.2.2 q h
      · exact hA _ (hL q h)⟩ h)
    obtain ⟨t2, a1, b1⟩ := kw T' rfl X'
    exact ⟨t2, stp.trans a1, b1⟩
end GG2
/-- what a call that may throw goes on with: its answer, or the number of what it threw -/
def cX {α : Type} (o : Option RT) (k : Option Value → DD → Option α) (kx : Nat → DD → Option α) : Option α := match o with
  | some (0, v, D) => k v D
  | some (n + 1, _, D) => kx (n + 1) D
  | _ => none
theorem cX_s {α : Type} {o : Option RT} {k : Option Value → DD → Option α} {kx : Nat → DD → Option α} {y : α} (h : cX o k kx = some y) : (∃ v D, o = some (0, v, D) ∧ k v D = some y) ∨ ∃ n v D, o = some (n, v, D) ∧ ¬ n = 0 ∧ kx n D = some y := by
  unfold cX at h
  split at h
  · exact Or.inl ⟨_, _, rfl, h⟩
  · exact Or.inr ⟨_, _, _, rfl, Nat.succ_ne_zero _, h⟩
  · cases h
def vI {α : Type} (v : Option Value) (k : Int32 → Option α) : Option α := match v with
  | some (.int x) => k x
  | _ => none
theorem vI_s {α : Type} {v : Option Value} {k : Int32 → Option α} {y : α} (h : vI v k = some y) : ∃ x, v = some (.int x) ∧ k x = some y := by
  unfold vI at h
  split at h
  · exact ⟨_, rfl, h⟩
  · cases h
def vL {α : Type} (v : Option Value) (k : Int64 → Option α) : Option α := match v with
  | some (.long x) => k x
  | _ => none
theorem vL_s {α : Type} {v : Option Value} {k : Int64 → Option α} {y : α} (h : vL v k = some y) : ∃ x, v = some (.long x) ∧ k x = some y := by
  unfold vL at h
  split at h
  · exact ⟨_, rfl, h⟩
  · cases h
def vD {α : Type} (v : Option Value) (k : UInt64 → Option α) : Option α := match v with
  | some (.double x) => k x
  | _ => none
theorem vD_s {α : Type} {v : Option Value} {k : UInt64 → Option α} {y : α} (h : vD v k = some y) : ∃ x, v = some (.double x) ∧ k x = some y := by
  unfold vD at h
  split at h
  · exact ⟨_, rfl, h⟩
  · cases h
def vF {α : Type} (v : Option Value) (k : UInt32 → Option α) : Option α := match v with
  | some (.float x) => k x
  | _ => none
theorem vF_s {α : Type} {v : Option Value} {k : UInt32 → Option α} {y : α} (h : vF v k = some y) : ∃ x, v = some (.float x) ∧ k x = some y := by
  unfold vF at h
  split at h
  · exact ⟨_, rfl, h⟩
  · cases h
