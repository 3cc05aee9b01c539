section ORD
variable {p : Program} {l : Launch} {e : Env} {R : Room} {s : State} {m : MethodId} {args : Array Value} {below : List Frame} {meth : Method} {c : Code}
/-- Enum.ordinal from its caller: walked, for no word speaks of its class's initialisation -/
theorem od_steps {U : State} {locs : List Loc} {cells slots : Nat} (X : Stand p l e R s m args below meth c U locs cells slots) (hexec : p.tables.exec = Jvm.exec) {g : JFrame} (hg : g.method = m) (hsize : g.locals.size = c.maxLocals)
    {ig : Instr} {len : Nat} (hdg : decode c.code g.pc = .ok (ig, len)) (hW : 2 * g.monitorRoom + (g.stack.map fun v => v.category).sum ≤ 8) {mk : MethodId} (hn : s.methodNamed? yJx29ce0_ordinal_8abf5 = some mk)
    (hcode : (Cond.code yJx29ce0_ordinal_8abf5 cJx29ce0_ordinal_8abf5 1 (some .int)).before args s = true) (hlink : (Cond.fieldLink "java/lang/Enum" 7 "java/lang/Enum" "ordinal" "I").before args s = true) (hf : 1 ≤ R.frames) (hlo : 20 ≤ R.locals)
    {cf i : Nat} {k : Class} {f : Field} (hi : s.fieldFound? "java/lang/Enum" "ordinal" "I" = some (cf, k, i, f)) (hst : f.isStatic = false) {a : Nat} {cell : Cell} (hcell : U.heap[a]? = some cell) (hkn : cell.vm ≠ .unknown) {v : Int32} (hslot : cell.slots[f.slot]? = some (.int v)) :
    ∃ vm', Stand p l e R s m args below meth c (U.setVm vm') locs cells slots ∧ Steps p.tables e below (doInvoke e (U.setTop g) [] mk #[.ref a]).1 ((U.setVm vm').setTop { g with pc := g.pc + len, stack := .int v :: g.stack }) := by
  obtain ⟨methY, cY, hmY, hcY, hbY, hlY, hrY, hkY, -⟩ := Cond.code_spec hn hcode
  have hmU : U.vm.method? mk = some methY := by rw [X.warmed.alike.method?]; exact hmY
  have h : At U g.method c below := by rw [hg]; exact X.here
  obtain ⟨kU, hkU, hknm⟩ := className_of_methodNamed (X.named hn)
  have hp : U.plainMethod mk := State.plainMethod.of_name (fun k' hk' => by
    cases hkU.symm.trans hk'
    rw [hknm]
    exact (rfl : plainName "java/lang/Enum" = true))
  have hpl : e.platform.magicAccessors = ({} : Platform).magicAccessors := by rw [X.admits.platform]
  obtain ⟨ci', cfl, k', i', f', hi', hlinks, hright⟩ := Cond.fieldLink_spec (show s.vm.findClass "java/lang/Enum" = some mk.cls from findClass_of_methodNamed hn) hlink e.platform hpl
  cases hi.symm.trans hi'
  obtain ⟨hk0, hf0⟩ := State.fieldFound?_spec hi
  have hroom := X.notFull hsize (vars := cY.maxLocals) hf (by rw [hlY]; omega)
  rw [doInvoke_enter h.top [] hmU hcY hkY hroom]
  have hA := h.enter (args := #[.ref a]) hmU hcY hp
  have hfV := frames_entered (g := g) h.top (.java (entryFrame mk #[.ref a] cY.maxLocals))
  have hlv : (argsToLocals #[.ref a] cY.maxLocals)[0]? = some (.val (.ref a)) := by
    rw [hlY]
    exact (argsToLocals_get (args := #[.ref a]) (N := 1) rfl).2 0 (.ref a) rfl
  have hcg : U.code? g.method = some c := h.code
  obtain ⟨mid, hmid⟩ := h.above
  unfold entryFrame at hA hfV ⊢
  generalize hL : argsToLocals #[.ref a] cY.maxLocals = L at hA hfV hlv ⊢
  generalize hV : (U.setTop g).pushFrame (.java { method := mk, pc := 0, locals := L, stack := [], locked := none }) = V at hA hfV ⊢
  have hVvm : V.vm = U.vm := by rw [← hV]; rfl
  have hVheap : V.heap = U.heap := by rw [← hV]; rfl
  obtain ⟨vm', hW', hget⟩ := Steps.getfieldCold (tb := p.tables) (e := e) (s₀ := s) (U := V) (f := { method := mk, pc := 1, locals := L, stack := [.ref a], locked := none }) hA hexec (index := 7) (rest := []) (by rw [hbY]; exact dJx29ce0_ordinal_8abf5_1) (by rw [hVvm]; exact X.warmed) hlinks hright hk0 hf0 hst rfl (by rw [hVheap]; exact hcell) hkn hslot
  refine ⟨vm', X.noted hW', ?_⟩
  have hA2 : At (V.setVm vm') mk cY below := hA.setVm (by rw [hVvm]; exact X.warmed.alike.symm.trans hW'.alike)
  jvm_step hA [hA.top, hexec, hbY, dJx29ce0_ordinal_8abf5_0, hlv, Value.isRef]
  refine hget _ ?_
  have hm2 : (V.setVm vm').vm.method? mk = some methY := by
    show vm'.method? mk = some methY
    rw [hW'.alike.method?]; exact hmY
  have hc2 : (V.setVm vm').code? g.method = some c := by
    rw [State.code?_eq] at hcg ⊢
    show ((vm'.method? g.method).bind _) = _
    rw [hW'.alike.method?, ← X.warmed.alike.method?]
    exact hcg
  have hf2 : (V.setVm vm').frames = .java { method := mk, pc := 0, locals := L, stack := [], locked := none } :: .java g :: U.frames.tail := hfV
  have hdg4 : decode cY.code (1 + 3) = .ok (.ireturn, 1) := by rw [hbY]; exact dJx29ce0_ordinal_8abf5_4
  have hE : (V.setVm vm').setFrames (.java g :: U.frames.tail) = (U.setVm vm').setTop g := by
    rw [← hV]
    exact setFrames_entered (s := U.setVm vm') h.top _
  generalize V.setVm vm' = V2 at hA2 hm2 hc2 hf2 hE ⊢
  generalize U.setVm vm' = U2 at hE ⊢
  jvm_step hA2 [hA2.top, hexec, hdg4, hm2, hrY, narrow]
  (try refine ⟨rfl, ?_⟩); (try refine ⟨rfl, ?_⟩)
  intro acts
  rw [doReturn_leave (g := g) (meth := methY) (cg := c) (ig := ig) (len := len) acts hf2 hm2 hkY rfl rfl hc2 hdg]
  rw [hE, State.setTop_setTop]
  exact Steps.refl _
variable {G : va_G} {E : EE} {nL : Nat} {Q : State → Prop} {D : DD} {pc : Nat} {lv : List (Nat × Value)} {rest : List Value} {cc : ByteArray} {own : String} {kc ks : Nat}
theorem g_ord (X : CX p s m args meth c cc own nL G E) {a index : Nat} {v : Int32} (hO : va_O "StoneQuarry$Command" a (fr E s.heap.size) s s.heap) (hF : va_OF "java/lang/Enum" "ordinal" "I" (.int v) a (fr E s.heap.size) s s.heap)
    (h1 : Cond.methodLink own index ⟨"StoneQuarry$Command", "ordinal", "()I"⟩ ∈ UT) (h2 : Cond.sameMethod "StoneQuarry$Command" "java/lang/Enum" "ordinal" "()I" ∈ UT) (h3 : Cond.selects "StoneQuarry$Command" ⟨"StoneQuarry$Command", "ordinal", "()I"⟩ yJx29ce0_ordinal_8abf5 ∈ UT) (h4 : Cond.instanceMethod yJx29ce0_ordinal_8abf5 ∈ UT) (h5 : Cond.code yJx29ce0_ordinal_8abf5 cJx29ce0_ordinal_8abf5 1 (some .int) ∈ UT) (h6 : Cond.fieldLink "java/lang/Enum" 7 "java/lang/Enum" "ordinal" "I" ∈ UT)
    (hf : 1 ≤ R.frames) (hlo : 20 ≤ R.locals) (hW : (rest.map fun v => v.category).sum ≤ 8) (hdg : decode cc pc = .ok (.invokevirtual index, 3)) (k : GW p l e R s m args below meth c G E nL Q kc ks D (pc + 3) lv (.int v :: rest)) : GW p l e R s m args below meth c G E nL Q kc ks D pc lv (.ref a :: rest) := fun H locs ls hP hS h => by
  obtain ⟨cell, c1, c2, c3, -⟩ := hO.kept hS.2.1
  obtain ⟨cf, k0, i, f, cell', f1, f2, f3, f4, f5, -⟩ := hF.kept hS.2.1
  cases c1.symm.trans f3
  have ht := X.1.2.2.2.2
  obtain ⟨hx, hb, hml, ho, -⟩ := X.1
  intro T hT XT
  obtain ⟨mk, methM, hnamed, -⟩ := Cond.instanceMethod_spec (ht _ h4)
  have hK : Back l R p e below s args yJx29ce0_ordinal_8abf5 3 8 (fun A b => b = #[.ref a] ∧ A.U.heap = H) (fun A b v' B => v' = some (.int v) ∧ B.U.heap = A.U.heap ∧ B.locs = A.locs ∧ B.cells = A.cells ∧ B.slots = A.slots) := by
    intro m0 meth0 c0 A g ig mk0 b X0 hg hsize hdg0 hW0 hn0 hp0
    obtain ⟨rfl, hH⟩ := hp0
    have hmm : mk0 = mk := Option.some.inj (hn0.symm.trans (X0.named hnamed))
    subst hmm
    obtain ⟨vm', X2, hs⟩ := od_steps X0 hx hg hsize hdg0 hW0 hnamed (ht _ h5) (ht _ h6) hf hlo f1 f2 (by rw [hH]; exact c1) f4 f5
    exact ⟨some (.int v), ⟨A.U.setVm vm', A.locs, A.cells, A.slots⟩, X2, ⟨rfl, rfl, rfl, rfl, rfl⟩, hs⟩
  obtain ⟨v0, vm1, B, hw1, X', ⟨rfl, e2, e3, e4, e5⟩, st⟩ := va_callVU XT hx (C := "StoneQuarry$Command") (owner := "java/lang/Enum") (x := ⟨"StoneQuarry$Command", "ordinal", "()I"⟩) (y := yJx29ce0_ordinal_8abf5) (bytes := cJx29ce0_ordinal_8abf5) (maxL := 1) (ret := some .int) ho (ht _ h1) (ht _ h2) (va_Decl.of (ht _ h4) (ht _ h5)) ⟨by decide, by decide⟩ (ht _ h3) (ht _ h4) (ht _ h5) hK (b := a) (by rw [hT]; exact c1) c2 c3 (g := F0 m pc ls (.ref a :: rest)) rfl (h.1.trans hml.symm) (argsL := []) (rest := rest) (fun sig hs => by
      have hz : (parseMethodDescriptor "()I").map (fun d => d.parameters.length) = some 0 := by decide +kernel
      rw [show parseMethodDescriptor "()I" = some sig from hs] at hz
      exact (Option.some.inj hz).symm) rfl (lv_room hW) (by rw [hb]; exact hdg) (fun vm₁ _ => ⟨rfl, hT⟩)
  obtain ⟨U', L', c', n'⟩ := B
  dsimp only [Pt.U, Pt.locs, Pt.cells, Pt.slots] at X' e2 e3 e4 e5 st
  subst e3; subst e4; subst e5
  obtain ⟨t, a1, b1⟩ := k H L' ls hP hS h U' (e2.trans hT) X'
  exact ⟨t, st t a1, b1⟩
end ORD
