/-! An exception that a call lets out, caught by the calling method's own table: the rows of the table name classes whose entries may be open yet -/
theorem q_go {e : Env} {S : State} {f : JFrame} {a : Addr} {y : ExceptionTableEntry} {t : List ExceptionTableEntry} {k : ClassId} {cell : Cell} {Q : Handler → Pre} {E : CtlPost} {d : Bool} {acts : List Action} (hy : covers y f.pc = true) (h0 : y.catchType ≠ 0) (hl : S.vm.ClassLinks e.platform f.method.cls y.catchType k) (hcell : S.heap[a]? = some cell) (hobj : ∀ q, cell.vm ≠ .statics q) (hk : ∃ q, S.vm.classes[cell.cls]? = some q) (hc : ∃ q, S.vm.classes[k]? = some q) :
    wp (findHandler.go f a (y :: t)) Q E e d acts S ↔ if S.vm.assignable cell.cls k = true then Q (.found y.handlerPc) d acts (S.setVm (S.vm.noted f.method.cls y.catchType (.cls k))) else wp (findHandler.go f a t) Q E e d acts (S.setVm (S.vm.noted f.method.cls y.catchType (.cls k))) := by
  simp only [covers] at hy
  obtain ⟨g1, g2⟩ := (resolveClass_links e.toSetting hl).op (op := VmOp.resolveClass f.method.cls y.catchType) rfl
  have hal : S.vm.Alike (S.vm.noted f.method.cls y.catchType (.cls k)) := (Vm.Alike.refl S.vm).noted _ _ _
  obtain ⟨q1, hq1⟩ := hk
  obtain ⟨q2, hq2⟩ := hc
  obtain ⟨r1, hr1, -⟩ := hal.2.2 _ _ hq1
  obtain ⟨r2, hr2, -⟩ := hal.2.2 _ _ hq2
  cases hf : S.vm.assignable cell.cls k with
  | true =>
    have hf2 : (S.vm.noted f.method.cls y.catchType (.cls k)).assignable cell.cls k = true := by rw [hal.assignable]; exact hf
    simp [findHandler.go, hy, h0, g1, g2, hcell, hobj, hr1, hr2, hf2, VmOp.dirties, VmOp.acts]
  | false =>
    have hf2 : (S.vm.noted f.method.cls y.catchType (.cls k)).assignable cell.cls k = false := by rw [hal.assignable]; exact hf
    simp [findHandler.go, hy, h0, g1, g2, hcell, hobj, hr1, hr2, hf2, VmOp.dirties, VmOp.acts]
/-- rows that cover the pc and name classes that the object isn't of; then one whose class it is of -/
theorem q_search {e : Env} {s0 : State} {f : JFrame} {a : Addr} {cell : Cell} (hobj : ∀ q, cell.vm ≠ .statics q) (hk : ∃ q, s0.vm.classes[cell.cls]? = some q) (y : ExceptionTableEntry) (rest : List ExceptionTableEntry) (hy : covers y f.pc = true) (h0 : y.catchType ≠ 0) (hy2 : ∃ k, s0.vm.ClassLinks e.platform f.method.cls y.catchType k ∧ s0.vm.assignable cell.cls k = true) :
    ∀ (pre : List ExceptionTableEntry) (S : State), s0.WarmedH S.vm → S.heap[a]? = some cell → (∀ z ∈ pre, covers z f.pc = true ∧ z.catchType ≠ 0 ∧ ∃ k, s0.vm.ClassLinks e.platform f.method.cls z.catchType k ∧ s0.vm.assignable cell.cls k = false) →
      ∃ vm', s0.WarmedH vm' ∧ ∀ (Q : Handler → Pre) (E : CtlPost) (d : Bool) (acts : List Action), wp (findHandler.go f a (pre ++ y :: rest)) Q E e d acts S ↔ Q (.found y.handlerPc) d acts (S.setVm vm') := by
  obtain ⟨q0, hq0⟩ := hk
  intro pre
  induction pre with
  | nil =>
    intro S hW hcell _
    obtain ⟨k, hl, hfit⟩ := hy2
    obtain ⟨q1, hq1, -⟩ := hW.alike.2.2 _ _ hq0
    obtain ⟨_, _, _, kt, hd, _, _, _, _, hkt, _, hopen⟩ := hl.here
    obtain ⟨q2, hq2, -⟩ := hW.alike.2.2 _ _ hkt
    refine ⟨_, hW.noted hd hopen (State.rightAt_cls hl), fun Q E d acts => ?_⟩
    rw [List.nil_append, q_go hy h0 (hW.classLinks hl) hcell hobj ⟨q1, hq1⟩ ⟨q2, hq2⟩, if_pos (by rw [hW.alike.assignable]; exact hfit)]
  | cons z zs ih =>
    intro S hW hcell hp
    obtain ⟨c1, c2, k, hl, hno⟩ := hp z List.mem_cons_self
    obtain ⟨q1, hq1, -⟩ := hW.alike.2.2 _ _ hq0
    obtain ⟨_, _, _, kt, hd, _, _, _, _, hkt, _, hopen⟩ := hl.here
    obtain ⟨q2, hq2, -⟩ := hW.alike.2.2 _ _ hkt
    obtain ⟨vm', hW', hq⟩ := ih (S.setVm (S.vm.noted f.method.cls z.catchType (.cls k))) (hW.noted hd hopen (State.rightAt_cls hl)) hcell (fun w hw => hp w (List.mem_cons_of_mem _ hw))
    refine ⟨vm', hW', fun Q E d acts => ?_⟩
    rw [List.cons_append, q_go c1 c2 (hW.classLinks hl) hcell hobj ⟨q1, hq1⟩ ⟨q2, hq2⟩, if_neg (by rw [hW.alike.assignable, hno]; decide)]
    exact hq Q E d acts
theorem q_stepCatch {e : Env} {S : State} {a : Addr} {f : JFrame} {r : List Frame} {pc : Nat} {vm' : Vm} (hf : ∀ (Q : Handler → Pre) (E : CtlPost) (d : Bool) (acts : List Action), wp (findHandler f a) Q E e d acts S ↔ Q (.found pc) d acts (S.setVm vm')) :
    (stepThrowing e S a (.java f :: r)).1 = (S.setVm vm').setFrames (.java { f with pc := pc, stack := [.ref a] } :: r) := by
  simp only [stepThrowing, searchFrame, vmDo]
  generalize hr : Sem.go _ e false [] S = res
  obtain ⟨as, rfl, ha⟩ := Sem.eq_ok_of hr (a := Handler.found pc) (s' := S.setVm vm') (acts' := []) (by simp [hf _ _ _ _])
  rfl
section QH
variable {p : Program} {l : Launch} {e : Env} {R : Room} {s : State} {m : MethodId} {args : Array Value} {below : List Frame} {meth : Method} {c : Code} {Q : State → Prop} {x : qX} {nL : Nat} {A B : Nat → Prop} {V V' : qV} {Y Y' : qY} {cells slots pc : Nat} {lo lo' : List (Nat × Value)} {st : List Value} {cc : ByteArray} {own : String}
/-- which row catches: the rows before it name classes that an X0 isn't of -/
def qTab (own X0 : String) (pc : Nat) (pre : List (Nat × Nat × Nat × Nat)) (y : Nat × Nat × Nat × Nat) (names : List String) : Prop :=
  (∀ z ∈ pre, (z.1 ≤ pc ∧ pc < z.2.1) ∧ z.2.2.2 ≠ 0 ∧ ∃ n ∈ names, Cond.classLink own z.2.2.2 n ∈ QT ∧ Cond.not (.castable X0 n) ∈ QT) ∧ (y.1 ≤ pc ∧ pc < y.2.1) ∧ y.2.2.2 ≠ 0 ∧ Cond.classLink own y.2.2.2 X0 ∈ QT ∧ Cond.castable X0 X0 ∈ QT
theorem q_caught {T : State} {locs : List Loc} (C : Cx p s m args meth c x nL A cc own QT) (X : Stand p l e R s m args below meth c T locs cells slots) {a : Addr} {cell : Cell} {X0 : String} {g : JFrame} (hg : g.method = m) (hcell : T.heap[a]? = some cell) (hobj : cell.vm.isStatics = false) (hX0 : s.vm.findClass X0 = some cell.cls)
    {pre rest : List (Nat × Nat × Nat × Nat)} {y : Nat × Nat × Nat × Nat} {names : List String} (htab : c.exceptionTable.toList.map (fun h => (h.startPc, h.endPc, h.handlerPc, h.catchType)) = pre ++ y :: rest) (hq : qTab own X0 g.pc pre y names) :
    ∃ vm', Stand p l e R s m args below meth c (T.setVm vm') locs cells slots ∧ ∀ target, Steps p.tables e below ((T.setVm vm').setTop { g with pc := y.2.2.1, stack := [.ref a] }) target → Steps p.tables e below ((T.setTop g).pushFrame (.throwing a)) target := by
  subst hg
  have hts := C.2.2.2.2.1
  have hpl : e.platform.magicAccessors = ({} : Platform).magicAccessors := by rw [X.admits.platform]
  obtain ⟨hq1, hq2, hq3, hq4, hq5⟩ := hq
  obtain ⟨pre2, rest2, e1, e2, e3⟩ := List.map_eq_append_iff.mp htab
  obtain ⟨y2, rest3, e4, e5, e6⟩ := List.map_eq_cons_iff.mp e3
  subst e4
  obtain ⟨k1, c1, w1, w2, w3⟩ := Cond.castable_spec (hts _ hq5)
  cases hX0.symm.trans w1
  cases hX0.symm.trans w2
  have hk : ∃ q, s.vm.classes[cell.cls]? = some q := by
    obtain ⟨k, hk, hl⟩ := Cond.classLink_spec C.2.2.2.1 (hts _ hq4) e.platform hpl
    obtain ⟨_, _, _, kt, _, _, _, _, _, hkt, _, _⟩ := hl.here
    cases hX0.symm.trans hk
    exact ⟨_, hkt⟩
  have hy2 : ∃ k, s.vm.ClassLinks e.platform g.method.cls y2.catchType k ∧ s.vm.assignable cell.cls k = true := by
    have e7 : y2.catchType = y.2.2.2 := by rw [← e5]
    rw [e7]
    obtain ⟨k, hk, hl⟩ := Cond.classLink_spec C.2.2.2.1 (hts _ hq4) e.platform hpl
    cases hX0.symm.trans hk
    exact ⟨_, hl, w3⟩
  have hyc : covers y2 g.pc = true := by
    rw [← e5] at hq2
    simp [covers, hq2.1, hq2.2]
  have hpre : ∀ z ∈ pre2, covers z g.pc = true ∧ z.catchType ≠ 0 ∧ ∃ k, s.vm.ClassLinks e.platform g.method.cls z.catchType k ∧ s.vm.assignable cell.cls k = false := by
    intro z hz
    obtain ⟨u1, u2, n, -, u3, u4⟩ := hq1 _ (e2 ▸ List.mem_map_of_mem hz)
    refine ⟨by simp [covers, u1.1, u1.2], u2, ?_⟩
    obtain ⟨k, hk, hl⟩ := Cond.classLink_spec C.2.2.2.1 (hts _ u3) e.platform hpl
    have hv := Cond.holds_not_iff.mp (hts _ u4)
    simp only [Cond.value, hX0, hk] at hv
    exact ⟨k, hl, Option.some.inj hv⟩
  obtain ⟨vm', hW', hf⟩ := q_search (e := e) (s0 := s) (f := g) (a := a) (cell := cell) (VmData.ne_statics_of hobj) hk y2 rest3 hyc (by rw [← e5] at hq3; exact hq3) hy2 pre2 ((T.setTop g).pushFrame (.throwing a)) X.warmed hcell hpre
  refine ⟨vm', X.noted hW', fun target hrest => ?_⟩
  obtain ⟨hgo, hw⟩ := X.here.throwing (g := g) a
  refine Steps.head hgo hw ?_
  have hfind : ∀ (Q : Handler → Pre) (E : CtlPost) (d : Bool) (acts : List Action), wp (findHandler g a) Q E e d acts ((T.setTop g).pushFrame (.throwing a)) ↔ Q (.found y2.handlerPc) d acts (((T.setTop g).pushFrame (.throwing a)).setVm vm') := by
    intro Q E d acts
    rw [Jvm.W.findHandler_eq (s := (T.setTop g).pushFrame (.throwing a)) (meth := meth) (code := c) (by rw [Stand.throwing_vm]; exact X.method') X.code, e1]
    exact hf Q E d acts
  rw [stepThread_throwing (frames_entered X.here.top _), q_stepCatch hfind]
  obtain ⟨g0, hg0⟩ := X.frames_eq
  have hr' : (T.setVm vm').frames = .java g0 :: below := hg0
  rw [State.setTop_of_frames _ hr'] at hrest
  have e8 : y2.handlerPc = y.2.2.1 := by rw [← e5]
  rw [hg0, List.tail_cons, e8, State.pushFrame, State.setTop_of_frames _ hg0, State.setFrames_setFrames]
  rw [show ∀ F G : List Frame, ((T.setFrames F).setVm vm').setFrames G = (T.setVm vm').setFrames G from fun F G => by rw [show (T.setFrames F).setVm vm' = (T.setVm vm').setFrames F from rfl, State.setFrames_setFrames]]
  exact hrest
/-- a call whose exception is caught here -/
theorem gq_catV (C : Cx p s m args meth c x nL A cc own QT) {y : MethodName} {rm : Room} {bytes : ByteArray} {maxL index : Nat} {ret : Option FieldType} {stk : List Value} {As : List Value} {g j ci : Nat} {C0 : vw_C} {fs : List Value} {X0 : String} (hB : ∀ q, B q → A q) (hM : CT l y rm x B (.ref (qal x g j) :: As) V Y (.inr X0) V' Y')
    (hm : (g, j) ∈ qI x) (he : qcf x g j (V g j) (Y g j) = .inr (ci, fs)) (hc : (qcl x)[ci]? = some C0) (hlink : Cond.methodLink own index y ∈ QT) (hinst : Cond.instanceMethod y ∈ QT) (hsel : Cond.selects C0.1 y y ∈ QT) (hcode : Cond.code y bytes maxL ret ∈ QT) (hini : Cond.initialized y.cls ∈ QT) (hy : y.cls ≠ "java/lang/invoke/MethodHandle" ∧ y.cls ≠ "java/lang/invoke/VarHandle" ∧ (parseMethodDescriptor y.desc).map (fun d => d.parameters.length) = some As.length)
    {pre rest : List (Nat × Nat × Nat × Nat)} {y0 : Nat × Nat × Nat × Nat} {names : List String} (htab : c.exceptionTable.toList.map (fun h => (h.startPc, h.endPc, h.handlerPc, h.catchType)) = pre ++ y0 :: rest) (hq : qTab own X0 pc pre y0 names)
    (hR : rm.frames + 1 ≤ R.frames ∧ 8 + (maxL + 11) + rm.locals ≤ R.locals) (hf : cells + rm.cells ≤ R.cells ∧ slots + rm.slots ≤ R.slots) (hk : stk = As.reverse ++ .ref (qal x g j) :: st) (hW : (st.map fun v => v.category).sum ≤ 8) (hd : decode cc pc = .ok (.invokevirtual index, 3))
    (kk : ∀ a : Nat, G p l e R s m args below meth c Q x nL A V' Y' (cells + rm.cells) (slots + rm.slots) y0.2.2.1 lo [.ref a]) : G p l e R s m args below meth c Q x nL A V Y cells slots pc lo stk := by
  intro H locs ls hP hS hl T hT X
  have hts := C.2.2.2.2.1
  obtain ⟨mk, methM, hnamed, hmethM, hstM, habM⟩ := Cond.instanceMethod_spec (hts _ hinst)
  obtain ⟨methM', cM, hmethM', -, -, -, -, -, -, hsigM⟩ := Cond.code_spec hnamed (hts _ hcode)
  cases hmethM.symm.trans hmethM'
  obtain ⟨q0, -, hq0⟩ := qw_at V Y hm
  rw [he] at hq0
  obtain ⟨cellB, hcB, hoB, hclB⟩ := va_recv C.2.2.2.2.2.1 hP hc hq0
  obtain ⟨c2, r2, m2, q1, q2, q3, q4, kP, hkP, hkPi⟩ := Cond.selects_spec (hts _ hsel)
  cases hclB.symm.trans q1
  cases (State.methodFound?_of_named hnamed ⟨hy.1, hy.2.1⟩).symm.trans q2
  cases hnamed.symm.trans q3
  have hselP : selectMethod e.platform s.vm cellB.cls mk = .method mk := by rw [Launch.admits_selectMethod X.admits]; exact q4
  have hlen : As.length = methM.sig.parameters.length := by
    have h2 := hy.2.2
    rw [hsigM] at h2
    exact (Option.some.inj h2).symm
  obtain ⟨vm₁, X₁, st1⟩ := X.invokevirtual C.1 C.2.2.2.1 (hts _ hlink) hnamed hmethM hstM hkP hkPi ⟨hy.1, hy.2.1⟩ (a := qal x g j) (cell := cellB) (by rw [hT]; exact hcB) (fun z h => by rw [h] at hoB; cases hoB) hselP hmethM habM hkP hkPi (g := F0 m pc ls stk) rfl (argsL := As) (rest := st) hlen hk (by rw [C.2.1]; exact hd)
  obtain ⟨o, t, a1, a2, ⟨a3, a4, a5, a6, L, a7, a8⟩⟩ := q_call C X₁ hM hB hcode hini hR hf (by rw [show (T.setVm vm₁).heap = H from hT]; exact hP) (by rw [show (T.setVm vm₁).heap = H from hT]; exact hS) (g := F0 m pc ls st) rfl hl.1 (by rw [C.2.1]; exact hd) (by show 2 * 0 + (st.map fun v => v.category).sum ≤ 8; omega) hnamed
  obtain ⟨a, cell, rfl, h4, h5, h6⟩ := a3
  obtain ⟨T', X', -, -, ht⟩ := X₁.outOfThrown (g := F0 m pc ls st) rfl a2 a6 a7
  have hT' : T'.heap = t.heap := by rw [ht]; rfl
  have h7 : s.vm.findClass X0 = some cell.cls := by
    rw [← h6]
    exact (X₁.warmed.alike.findClass _ _).symm
  obtain ⟨vm₂, X₂, st2⟩ := q_caught C X' (a := a) (cell := cell) (g := F0 m pc ls st) rfl (by rw [hT']; exact h4) h5 h7 htab hq
  obtain ⟨t2, b1, b2⟩ := kk a T'.heap (locs ++ L) ls (by rw [hT']; exact a4) (by rw [hT']; exact q_S hS (T := T.setVm vm₁) hT rfl a5 hB a8) hl (T'.setVm vm₂) rfl X₂
  refine ⟨t2, st1 _ (fun acts => ?_), b2⟩
  rw [doInvoke_state]
  refine a1.trans ?_
  rw [ht]
  exact st2 _ b1
end QH
/-- a contract of a method with an exception table -/
theorem CT.ofW {l : Launch} {y : MethodName} {rm : Room} {x : qX} {A : Nat → Prop} {av : List Value} {V V' : qV} {Y Y' : qY} {res : Option Value ⊕ String} {cc : ByteArray} {maxL : Nat} {ret : Option FieldType} {hh : List (Nat × Nat × Nat × Nat)} (hok : qok x) (hy : plainName y.cls = true) (hcw : Cond.codeWith y cc maxL ret hh ∈ QT) (hlen : (lg_sl av).length ≤ maxL)
    (body : ∀ (p : Program) (e : Env) (s : State) (m : MethodId) (below : List Frame) (meth : Method) (c : Code), Cx p s m av.toArray meth c x maxL A cc y.cls QT → meth.sig.returnType = ret → c.exceptionTable.toList.map (fun h => (h.startPc, h.endPc, h.handlerPc, h.catchType)) = hh → qlt x s → G p l e rm s m av.toArray below meth c (qQ below x A rm res V' Y' s) x maxL A V Y 0 0 0 (lv_args 0 av) []) : CT l y rm x A av V Y res V' Y' := by
  refine MetFree.of_bodyS (code := cc) (maxLocals := maxL) (ret := ret) hy ?_ ?_
  · intro args s m h hn
    obtain ⟨m9, meth, c, hn9, h1, h2, h3, h4, -, h5, h6, -⟩ := Cond.codeWith_spec (atoms_spec (ws := QT) h _ hcw)
    cases hn.symm.trans hn9
    exact ⟨meth, c, h1, h2, h3, h4, h5, h6⟩
  · intro p e s m args below meth c s₁ B hml hP _
    obtain ⟨rfl, hPP, hK, hZ⟩ := hP
    have hh0 : s₁.heap = s.heap := by rw [B.state]; rfl
    have hts := atoms_spec (ws := QT) B.pre
    have X := Stand.of_body B
    have htab : c.exceptionTable.toList.map (fun h => (h.startPc, h.endPc, h.handlerPc, h.catchType)) = hh := by
      obtain ⟨m9, meth9, c9, hn9, h1, h2, -, -, h5, -⟩ := Cond.codeWith_spec (hts _ hcw)
      cases B.named.symm.trans hn9
      cases B.method.symm.trans h1
      cases X.code.symm.trans h2
      exact h5
    have C : Cx p s m av.toArray meth c x maxL A cc y.cls QT := ⟨B.exec, B.bytes, hml, findClass_of_methodNamed B.named, hts, hK, hok, B.notSynchronized, hZ⟩
    have K : W p l e rm s m av.toArray below meth c s.heap [] 0 0 (qQ below x A rm res V' Y' s) (entryFrame m av.toArray maxL) := by
      rw [lg_entry_eq]
      exact body p e s m below meth c C B.returns htab (qlt_of hPP) s.heap [] _ hPP va_S.rf (lv_entry av (n := maxL) hlen)
    obtain ⟨t, a1, o, b1, b2, b3⟩ := K s₁ hh0 X
    exact ⟨t, o, a1, b1, b2, b3⟩
