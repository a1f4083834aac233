/-! Contracts over the worlds V, Y, and calls. A method's contract CT: with the arguments av and the heap V, Y it ends as res says (a value, or an exception of a class), the heap is V', Y', and no old cell outside A has changed (A is qA x, or qN where it writes nothing). -/
def qN : Nat → Prop := fun _ => False
def qO (res : Option Value ⊕ String) (st : State) (o : Outcome) (t : State) : Prop := match res with
  | .inl v => o = .returned v
  | .inr X => ∃ (a : Addr) (cell : Cell), o = .threw a ∧ t.heap[a]? = some cell ∧ cell.vm.isStatics = false ∧ st.vm.findClass X = some cell.cls
def qPost (x : qX) (A : Nat → Prop) (rm : Room) (res : Option Value ⊕ String) (V' : qV) (Y' : qY) (st : State) (o : Outcome) (t : State) : Prop :=
  qO res st o t ∧ va_P (qD x) (qcl x) (qw x V' Y') t.heap ∧ va_F A st t ∧ st.WarmedH t.vm ∧ ∃ L : List Loc, st.sameButNew ({ t with vm := st.vm } : State) L rm.cells rm.slots ∧ ∀ q ∈ L, A q.base
def qQ (below : List Frame) (x : qX) (A : Nat → Prop) (rm : Room) (res : Option Value ⊕ String) (V' : qV) (Y' : qY) (st : State) : State → Prop := fun t => ∃ o, t.status = .running ∧ Ended t below o ∧ qPost x A rm res V' Y' st o t
def qPre (x : qX) (A : Nat → Prop) (av : List Value) (V : qV) (Y : qY) (a : Array Value) (U : State) : Prop := a = av.toArray ∧ va_P (qD x) (qcl x) (qw x V Y) U.heap ∧ va_K (qD x) (qcl x) (qty x) U ∧ qZs A U
def CT (l : Launch) (y : MethodName) (rm : Room) (x : qX) (A : Nat → Prop) (av : List Value) (V : qV) (Y : qY) (res : Option Value ⊕ String) (V' : qV) (Y' : qY) : Prop :=
  MetFree l y (headSpec QT rm) (qPre x A av V Y) (fun _ _ _ _ _ => True) (fun _ st o t => qPost x A rm res V' Y' st o t)
/-- the world's cells were there at the method's start -/
def qlt (x : qX) (s : State) : Prop := ∀ q, qA x q → q < s.heap.size
theorem qlt_of {x : qX} {V : qV} {Y : qY} {s : State} (h : va_P (qD x) (qcl x) (qw x V Y) s.heap) : qlt x s := by
  rintro q ⟨⟨g, j⟩, hm, rfl⟩
  obtain ⟨k, -, hk⟩ := qw_at V Y hm
  exact (h k _ hk).lt
theorem CT.of {l : Launch} {y : MethodName} {rm : Room} {x : qX} {A : Nat → Prop} {av : List Value} {V V' : qV} {Y Y' : qY} {res : Option Value ⊕ String} {cc : ByteArray} {maxL : Nat} {ret : Option FieldType} (hok : qok x) (hy : plainName y.cls = true) (hcw : Cond.code y cc maxL ret ∈ QT) (hlen : (lg_sl av).length ≤ maxL)
    (body : ∀ (p : Program) (e : Env) (s : State) (m : MethodId) (below : List Frame) (meth : Method) (c : Code), Cx p s m av.toArray meth c x maxL A cc y.cls QT → meth.sig.returnType = ret → c.exceptionTable.isEmpty = true → qlt x s → G p l e rm s m av.toArray below meth c (qQ below x A rm res V' Y' s) x maxL A V Y 0 0 0 (lv_args 0 av) []) : CT l y rm x A av V Y res V' Y' := by
  refine MetFree.of_bodyS (code := cc) (maxLocals := maxL) (ret := ret) hy ?_ ?_
  · intro args s m h hn
    obtain ⟨meth, c, h1, h2, h3, h4, h5, h6, -, -⟩ := Cond.code_spec hn (atoms_spec (ws := QT) h _ hcw)
    exact ⟨meth, c, h1, h2, h3, h4, h5, h6⟩
  · intro p e s m args below meth c s₁ B hml hP _
    obtain ⟨rfl, hPP, hK, hZ⟩ := hP
    have hh0 : s₁.heap = s.heap := by rw [B.state]; rfl
    have hts := atoms_spec (ws := QT) B.pre
    have X := Stand.of_body B
    have C : Cx p s m av.toArray meth c x maxL A cc y.cls QT := ⟨B.exec, B.bytes, hml, findClass_of_methodNamed B.named, hts, hK, hok, B.notSynchronized, hZ⟩
    have K : W p l e rm s m av.toArray below meth c s.heap [] 0 0 (qQ below x A rm res V' Y' s) (entryFrame m av.toArray maxL) := by
      rw [lg_entry_eq]
      exact body p e s m below meth c C B.returns (B.noHandlers (hts _ hcw)) (qlt_of hPP) s.heap [] _ hPP va_S.rf (lv_entry av (n := maxL) hlen)
    obtain ⟨t, a1, o, b1, b2, b3⟩ := K s₁ hh0 X
    exact ⟨t, o, a1, b1, b2, b3⟩
section QC
variable {p : Program} {l : Launch} {e : Env} {R : Room} {s : State} {m : MethodId} {args : Array Value} {below : List Frame} {meth : Method} {c : Code} {Q : State → Prop} {x : qX} {nL : Nat} {A B : Nat → Prop} {V V' : qV} {Y Y' : qY} {cells slots pc : Nat} {lo lo' : List (Nat × Value)} {st : List Value} {cc : ByteArray} {own : String} {Ts : List Cond}
theorem W_mono {Q' : State → Prop} {H : Heap} {locs : List Loc} {g : JFrame} (h : ∀ t, Q t → Q' t) (k : W p l e R s m args below meth c H locs cells slots Q g) : W p l e R s m args below meth c H locs cells slots Q' g := by
  intro T hT X
  obtain ⟨t, a, b⟩ := k T hT X
  exact ⟨t, a, h t b⟩
theorem q_end {rm : Room} {H : Heap} {locs : List Loc} {o₀ : Outcome} {v : Option Value} (hP : va_P (qD x) (qcl x) (qw x V Y) H) (hS : va_S A s.heap H locs) (ho : o₀ = .returned v) (t : State) (h : MQ below (fun _ _ o t => o = o₀ ∧ t.heap = H) args s rm.cells rm.slots A t) : qQ below x A rm (.inl v) V Y s t := by
  obtain ⟨o, h1, h2, ⟨rfl, hH⟩, L, ⟨-, hW, hsm⟩, hL⟩ := h
  exact ⟨_, h1, h2, ho, by rw [hH]; exact hP, hS.F hH, hW, L, hsm, hL⟩
theorem gq_iret (C : Cx p s m args meth c x nL A cc own Ts) {rm : Room} {v : Int32} (hr : meth.sig.returnType = some .int) (hc : cells ≤ rm.cells) (hs : slots ≤ rm.slots) (hd : decode cc pc = .ok (.ireturn, 1)) : G p l e R s m args below meth c (qQ below x A rm (.inl (some (.int v))) V Y s) x nL A V Y cells slots pc lo [.int v] := by
  intro H locs ls hP hS hl
  refine W.widen hc hs ?_
  exact W_mono (q_end hP hS rfl) (W.iret C.1 C.2.1 hr (fun t ht _ => ⟨rfl, ht⟩) hS.2.2 hd C.2.2.2.2.2.2.2.1)
theorem gq_zret (C : Cx p s m args meth c x nL A cc own Ts) {rm : Room} {v : Int32} {ty : FieldType} (hr : meth.sig.returnType = some ty) (hn : narrow ty (.int v) = .int v) (hc : cells ≤ rm.cells) (hs : slots ≤ rm.slots) (hd : decode cc pc = .ok (.ireturn, 1)) : G p l e R s m args below meth c (qQ below x A rm (.inl (some (.int v))) V Y s) x nL A V Y cells slots pc lo [.int v] := by
  intro H locs ls hP hS hl
  refine W.widen hc hs ?_
  exact W_mono (q_end hP hS rfl) (W.zret C.1 C.2.1 hr hn (fun t ht _ => ⟨rfl, ht⟩) hS.2.2 hd C.2.2.2.2.2.2.2.1)
theorem gq_lret (C : Cx p s m args meth c x nL A cc own Ts) {rm : Room} {v : Int64} (hr : meth.sig.returnType = some .long) (hc : cells ≤ rm.cells) (hs : slots ≤ rm.slots) (hd : decode cc pc = .ok (.lreturn, 1)) : G p l e R s m args below meth c (qQ below x A rm (.inl (some (.long v))) V Y s) x nL A V Y cells slots pc lo [.long v] := by
  intro H locs ls hP hS hl
  refine W.widen hc hs ?_
  exact W_mono (q_end hP hS rfl) (W.lret C.1 C.2.1 hr (fun t ht _ => ⟨rfl, ht⟩) hS.2.2 hd C.2.2.2.2.2.2.2.1)
theorem gq_vret (C : Cx p s m args meth c x nL A cc own Ts) {rm : Room} (hr : meth.sig.returnType = none) (hc : cells ≤ rm.cells) (hs : slots ≤ rm.slots) (hd : decode cc pc = .ok (.return_, 1)) : G p l e R s m args below meth c (qQ below x A rm (.inl none) V Y s) x nL A V Y cells slots pc lo [] := by
  intro H locs ls hP hS hl
  refine W.widen hc hs ?_
  exact W_mono (q_end hP hS rfl) (W.vret C.1 C.2.1 hr (fun t ht _ => ⟨rfl, ht⟩) hS.2.2 hd C.2.2.2.2.2.2.2.1)
theorem q_ls {u U : State} {C n d : String} {a0 a1 : Array Value} (hz : va_Zq C n d A u u.heap) (h : (Cond.laysStatic C n d).before a0 u = true) (hvm : u.vm.Alike U.vm) (hk : ∀ a : Nat, a < u.heap.size → ¬ A a → U.heap[a]? = u.heap[a]?) : (Cond.laysStatic C n d).before a1 U = true := by
  obtain ⟨c, k, i, f, a, cell, hc, hi, hst, ha, hcell, hs, hcls, hlt, hty⟩ := Cond.laysStatic_spec h
  have hn : ¬ A a := by
    rcases hz with ⟨cf, kf, fi, f', a', cell', h1, h2, h3, h4, h5, h6, h7, h8⟩ | ⟨t, cf, kf, fi, f', a', cell', h1, h2, h3, h4, h5, h6, h7, h8⟩
    · have e := hi.symm.trans h1
      simp only [Option.some.injEq, Prod.mk.injEq] at e
      obtain ⟨-, e2, -⟩ := e
      subst e2
      cases ha.symm.trans h4
      exact h8
    · have e := hi.symm.trans h1
      simp only [Option.some.injEq, Prod.mk.injEq] at e
      obtain ⟨-, e2, -⟩ := e
      subst e2
      cases ha.symm.trans h4
      exact h8
  obtain ⟨k', hi', hek⟩ := State.fieldFound?_setVm (vm' := U.vm) hvm hi
  refine Cond.laysStatic_of (s := U) (c := c) (k := k') (i := i) (f := f) (a := a) (cell := cell) ?_ hi' hst (by rw [hek]; exact ha) ?_ hs hcls hlt (by rw [hek]; exact hty)
  · rw [hvm.findClass]
    exact hc
  · rw [hk a (Array.getElem?_eq_some_iff.mp hcell).1 hn]
    exact hcell
theorem qZs_moved {u U : State} (h : qZs A u) (hvm : u.vm.Alike U.vm) (hk : ∀ a : Nat, a < u.heap.size → ¬ A a → U.heap[a]? = u.heap[a]?) (hAB : ∀ q, B q → A q) : qZs B U :=
  ⟨⟨((h.1.1.kept hk).moved hvm).narrow hAB, ((h.1.2.kept hk).moved hvm).narrow hAB⟩, q_ls h.1.1 h.2.1 hvm hk, q_ls h.1.2 h.2.2 hvm hk⟩
/-- the machine from a call's invocation to its end, by the contract -/
theorem q_call {T : State} {locs : List Loc} {y : MethodName} {rm : Room} {av : List Value} {res : Option Value ⊕ String} {bytes : ByteArray} {maxL : Nat} {ret : Option FieldType} (C : Cx p s m args meth c x nL A cc own QT) (X : Stand p l e R s m args below meth c T locs cells slots) (hM : CT l y rm x B av V Y res V' Y') (hB : ∀ q, B q → A q)
    (hcode : Cond.code y bytes maxL ret ∈ QT) (hini : Cond.initialized y.cls ∈ QT) (hR : rm.frames + 1 ≤ R.frames ∧ 8 + (maxL + 11) + rm.locals ≤ R.locals) (hf : cells + rm.cells ≤ R.cells ∧ slots + rm.slots ≤ R.slots)
    (hP : va_P (qD x) (qcl x) (qw x V Y) T.heap) (hS : va_S A s.heap T.heap locs) {g : JFrame} (hg : g.method = m) (hsize : g.locals.size = nL) {ig : Instr} {len : Nat} (hdg : decode c.code g.pc = .ok (ig, len)) (hW : 2 * g.monitorRoom + (g.stack.map fun v => v.category).sum ≤ 8) {mk : MethodId} (hn : s.methodNamed? y = some mk) :
    ∃ (o : Outcome) (t : State), Steps p.tables e below (doInvoke e (T.setTop g) [] mk av.toArray).1 t ∧ Ended t (.java g :: below) o ∧ qPost x B rm res V' Y' (T.calling g mk av.toArray) o t := by
  have hws : ∀ w ∈ QT, w.before av.toArray T = true := fun w hw => qgw_at X.warmed (QT_qgw w hw) (C.2.2.2.2.1 w hw)
  have hnT : T.methodNamed? y = some mk := X.named hn
  obtain ⟨methY, cY, hmY, hcY, -, hlY, -, -, -, -⟩ := Cond.code_spec hnT (hws _ hcode)
  obtain ⟨kY, hkY, -⟩ := className_of_methodNamed hnT
  have hinitY : kY.init = .initialized := Cond.initialized_spec (findClass_of_methodNamed hnT) hkY (hws _ hini)
  have h : At T g.method c below := by rw [hg]; exact X.here
  have happ : (headSpec QT rm).appliesLoose y e.platform (T.calling g mk av.toArray) = true :=
    Spec.appliesLoose_calling (g := g) h hdg hnT hkY hinitY (X.room_calling (g := g) (R' := rm) (hsize.trans C.2.2.1.symm) hmY hcY hR.1 (by rw [hlY]; omega) hf.1 hf.2) (atoms_intro hws)
  have hfr : (T.setTop g).frames = [.java g] ++ below := by rw [State.frames_setTop' g h.top, X.tail]; rfl
  obtain ⟨o, t, hsteps, -, hend, hq⟩ := Steps.callFree hM p X.admits X.cas X.clock (acts := []) hfr happ
    ⟨rfl, hP, va_K.moved (u := s) X.warmed.alike C.2.2.2.2.2.1, qZs_moved (U := T) C.2.2.2.2.2.2.2.2 X.warmed.alike hS.2.1 hB⟩ trivial
  rw [hfr] at hend
  exact ⟨o, t, hsteps, hend, hq⟩
theorem q_S {H : Heap} {locs L : List Loc} {T st t : State} (hS : va_S A s.heap H locs) (hT : T.heap = H) (hst : st.heap = T.heap) (hF : va_F B st t) (hA : ∀ q, B q → A q) (hL : ∀ q ∈ L, B q.base) : va_S A s.heap t.heap (locs ++ L) := by
  obtain ⟨h1, h2⟩ := hF
  rw [hst, hT] at h1 h2
  refine ⟨Nat.le_trans hS.1 h1, fun q hq hn => ?_, fun q hq => ?_⟩
  · rw [h2 q (Nat.lt_of_lt_of_le hq hS.1) (fun z => hn (hA q z))]
    exact hS.2.1 q hq hn
  · rcases List.mem_append.mp hq with h | h
    · exact hS.2.2 q h
    · exact hA _ (hL q h)
/-- a call of a method that comes back -/
theorem gq_callS (C : Cx p s m args meth c x nL A cc own QT) {y : MethodName} {rm : Room} {av : List Value} {v : Option Value} {bytes : ByteArray} {maxL index : Nat} {ret : Option FieldType} {stk : List Value} (hB : ∀ q, B q → A q) (hM : CT l y rm x B av V Y (.inl v) V' Y')
    (hlink : Cond.methodLink own index y ∈ QT) (hst : Cond.static y ∈ QT) (hcode : Cond.code y bytes maxL ret ∈ QT) (hini : Cond.initialized y.cls ∈ QT) (hy : y.cls ≠ "java/lang/invoke/MethodHandle" ∧ y.cls ≠ "java/lang/invoke/VarHandle" ∧ (parseMethodDescriptor y.desc).map (fun d => d.parameters.length) = some av.length)
    (hR : rm.frames + 1 ≤ R.frames ∧ 8 + (maxL + 11) + rm.locals ≤ R.locals) (hf : cells + rm.cells ≤ R.cells ∧ slots + rm.slots ≤ R.slots) (hk : stk = av.reverse ++ st) (hW : (st.map fun v => v.category).sum ≤ 8) (hd : decode cc pc = .ok (.invokestatic index, 3))
    (kk : G p l e R s m args below meth c Q x nL A V' Y' (cells + rm.cells) (slots + rm.slots) (pc + 3) lo (v.toList ++ st)) : G p l e R s m args below meth c Q x nL A V Y cells slots pc lo stk := by
  intro H locs ls hP hS hl T hT X
  have hts := C.2.2.2.2.1
  obtain ⟨mk, hnamed⟩ := Cond.code_named (hts _ hcode)
  obtain ⟨methM, cM, hmethM, -, -, -, -, -, -, hsigM⟩ := Cond.code_spec hnamed (hts _ hcode)
  obtain ⟨kP, hkP, -⟩ := className_of_methodNamed hnamed
  have hlen : av.length = methM.sig.parameters.length := by
    have h2 := hy.2.2
    rw [hsigM] at h2
    exact (Option.some.inj h2).symm
  obtain ⟨vm₁, X₁, st1⟩ := X.invokestatic C.1 C.2.2.2.1 (hts _ hlink) hnamed hmethM (Cond.static_spec hnamed hmethM (hts _ hst)) hkP (Cond.initialized_spec (findClass_of_methodNamed hnamed) hkP (hts _ hini)) ⟨hy.1, hy.2.1⟩ (g := F0 m pc ls stk) rfl (argsL := av) (rest := st) hlen hk (by rw [C.2.1]; exact hd)
  obtain ⟨o, t, a1, a2, ⟨a3, a4, a5, a6, L, a7, a8⟩⟩ := q_call C X₁ hM hB hcode hini hR hf (by rw [show (T.setVm vm₁).heap = H from hT]; exact hP) (by rw [show (T.setVm vm₁).heap = H from hT]; exact hS) (g := F0 m pc ls st) rfl hl.1 (by rw [C.2.1]; exact hd) (by show 2 * 0 + (st.map fun v => v.category).sum ≤ 8; omega) hnamed
  obtain rfl : o = .returned v := a3
  obtain ⟨T', X', -, -, ht⟩ := X₁.outOf (g := F0 m pc ls st) rfl (by rw [C.2.1]; exact hd) a2 a6 a7
  have hT' : T'.heap = t.heap := by rw [ht]; rfl
  obtain ⟨t2, b1, b2⟩ := kk T'.heap (locs ++ L) ls (by rw [hT']; exact a4) (by rw [hT']; exact q_S hS (T := T.setVm vm₁) hT rfl a5 hB a8) hl T' rfl X'
  refine ⟨t2, st1 _ (fun acts => ?_), b2⟩
  rw [doInvoke_state]
  refine a1.trans ?_
  rw [ht]
  exact b1
theorem gq_callV (C : Cx p s m args meth c x nL A cc own QT) {y : MethodName} {rm : Room} {bytes : ByteArray} {maxL index : Nat} {ret : Option FieldType} {stk : List Value} {As : List Value} {g j ci : Nat} {C0 : vw_C} {fs : List Value} {v : Option Value} (hB : ∀ q, B q → A q) (hM : CT l y rm x B (.ref (qal x g j) :: As) V Y (.inl v) V' Y')
    (hm : (g, j) ∈ qI x) (he : qcf x g j (V g j) (Y g j) = .inr (ci, fs)) (hc : (qcl x)[ci]? = some C0) (hlink : Cond.methodLink own index y ∈ QT) (hinst : Cond.instanceMethod y ∈ QT) (hsel : Cond.selects C0.1 y y ∈ QT) (hcode : Cond.code y bytes maxL ret ∈ QT) (hini : Cond.initialized y.cls ∈ QT) (hy : y.cls ≠ "java/lang/invoke/MethodHandle" ∧ y.cls ≠ "java/lang/invoke/VarHandle" ∧ (parseMethodDescriptor y.desc).map (fun d => d.parameters.length) = some As.length)
    (hR : rm.frames + 1 ≤ R.frames ∧ 8 + (maxL + 11) + rm.locals ≤ R.locals) (hf : cells + rm.cells ≤ R.cells ∧ slots + rm.slots ≤ R.slots) (hk : stk = As.reverse ++ .ref (qal x g j) :: st) (hW : (st.map fun v => v.category).sum ≤ 8) (hd : decode cc pc = .ok (.invokevirtual index, 3))
    (kk : G p l e R s m args below meth c Q x nL A V' Y' (cells + rm.cells) (slots + rm.slots) (pc + 3) lo (v.toList ++ st)) : G p l e R s m args below meth c Q x nL A V Y cells slots pc lo stk := by
  intro H locs ls hP hS hl T hT X
  have hts := C.2.2.2.2.1
  obtain ⟨mk, methM, hnamed, hmethM, hstM, habM⟩ := Cond.instanceMethod_spec (hts _ hinst)
  obtain ⟨methM', cM, hmethM', -, -, -, -, -, -, hsigM⟩ := Cond.code_spec hnamed (hts _ hcode)
  cases hmethM.symm.trans hmethM'
  obtain ⟨q0, -, hq0⟩ := qw_at V Y hm
  rw [he] at hq0
  obtain ⟨cellB, hcB, hoB, hclB⟩ := va_recv C.2.2.2.2.2.1 hP hc hq0
  obtain ⟨c2, r2, m2, q1, q2, q3, q4, kP, hkP, hkPi⟩ := Cond.selects_spec (hts _ hsel)
  cases hclB.symm.trans q1
  cases (State.methodFound?_of_named hnamed ⟨hy.1, hy.2.1⟩).symm.trans q2
  cases hnamed.symm.trans q3
  have hselP : selectMethod e.platform s.vm cellB.cls mk = .method mk := by rw [Launch.admits_selectMethod X.admits]; exact q4
  have hlen : As.length = methM.sig.parameters.length := by
    have h2 := hy.2.2
    rw [hsigM] at h2
    exact (Option.some.inj h2).symm
  obtain ⟨vm₁, X₁, st1⟩ := X.invokevirtual C.1 C.2.2.2.1 (hts _ hlink) hnamed hmethM hstM hkP hkPi ⟨hy.1, hy.2.1⟩ (a := qal x g j) (cell := cellB) (by rw [hT]; exact hcB) (fun z h => by rw [h] at hoB; cases hoB) hselP hmethM habM hkP hkPi (g := F0 m pc ls stk) rfl (argsL := As) (rest := st) hlen hk (by rw [C.2.1]; exact hd)
  obtain ⟨o, t, a1, a2, ⟨a3, a4, a5, a6, L, a7, a8⟩⟩ := q_call C X₁ hM hB hcode hini hR hf (by rw [show (T.setVm vm₁).heap = H from hT]; exact hP) (by rw [show (T.setVm vm₁).heap = H from hT]; exact hS) (g := F0 m pc ls st) rfl hl.1 (by rw [C.2.1]; exact hd) (by show 2 * 0 + (st.map fun v => v.category).sum ≤ 8; omega) hnamed
  obtain rfl : o = .returned v := a3
  obtain ⟨T', X', -, -, ht⟩ := X₁.outOf (g := F0 m pc ls st) rfl (by rw [C.2.1]; exact hd) a2 a6 a7
  have hT' : T'.heap = t.heap := by rw [ht]; rfl
  obtain ⟨t2, b1, b2⟩ := kk T'.heap (locs ++ L) ls (by rw [hT']; exact a4) (by rw [hT']; exact q_S hS (T := T.setVm vm₁) hT rfl a5 hB a8) hl T' rfl X'
  refine ⟨t2, st1 _ (fun acts => ?_), b2⟩
  rw [doInvoke_state]
  refine a1.trans ?_
  rw [ht]
  exact b1
/-- a call of a method that throws, in a method without a table: it throws too -/
theorem gq_thrS (C : Cx p s m args meth c x nL A cc own QT) {y : MethodName} {rm : Room} {bytes : ByteArray} {maxL index : Nat} {ret : Option FieldType} {stk : List Value} {av : List Value} {X0 : String} {rm0 : Room} (hex : c.exceptionTable.isEmpty = true) (hB : ∀ q, B q → A q) (hM : CT l y rm x B av V Y (.inr X0) V' Y')
    (hlink : Cond.methodLink own index y ∈ QT) (hst : Cond.static y ∈ QT) (hcode : Cond.code y bytes maxL ret ∈ QT) (hini : Cond.initialized y.cls ∈ QT) (hy : y.cls ≠ "java/lang/invoke/MethodHandle" ∧ y.cls ≠ "java/lang/invoke/VarHandle" ∧ (parseMethodDescriptor y.desc).map (fun d => d.parameters.length) = some av.length)
    (hR : rm.frames + 1 ≤ R.frames ∧ 8 + (maxL + 11) + rm.locals ≤ R.locals) (hf : cells + rm.cells ≤ R.cells ∧ slots + rm.slots ≤ R.slots) (hf2 : cells + rm.cells ≤ rm0.cells ∧ slots + rm.slots ≤ rm0.slots) (hk : stk = av.reverse ++ st) (hW : (st.map fun v => v.category).sum ≤ 8) (hd : decode cc pc = .ok (.invokestatic index, 3)) :
    G p l e R s m args below meth c (qQ below x A rm0 (.inr X0) V' Y' s) x nL A V Y cells slots pc lo stk := by
  intro H locs ls hP hS hl T hT X
  have hts := C.2.2.2.2.1
  obtain ⟨mk, hnamed⟩ := Cond.code_named (hts _ hcode)
  obtain ⟨methM, cM, hmethM, -, -, -, -, -, -, hsigM⟩ := Cond.code_spec hnamed (hts _ hcode)
  obtain ⟨kP, hkP, -⟩ := className_of_methodNamed hnamed
  have hlen : av.length = methM.sig.parameters.length := by
    have h2 := hy.2.2
    rw [hsigM] at h2
    exact (Option.some.inj h2).symm
  obtain ⟨vm₁, X₁, st1⟩ := X.invokestatic C.1 C.2.2.2.1 (hts _ hlink) hnamed hmethM (Cond.static_spec hnamed hmethM (hts _ hst)) hkP (Cond.initialized_spec (findClass_of_methodNamed hnamed) hkP (hts _ hini)) ⟨hy.1, hy.2.1⟩ (g := F0 m pc ls stk) rfl (argsL := av) (rest := st) hlen hk (by rw [C.2.1]; exact hd)
  obtain ⟨o, t, a1, a2, ⟨a3, a4, a5, a6, L, a7, a8⟩⟩ := q_call C X₁ hM hB hcode hini hR hf (by rw [show (T.setVm vm₁).heap = H from hT]; exact hP) (by rw [show (T.setVm vm₁).heap = H from hT]; exact hS) (g := F0 m pc ls st) rfl hl.1 (by rw [C.2.1]; exact hd) (by show 2 * 0 + (st.map fun v => v.category).sum ≤ 8; omega) hnamed
  obtain ⟨a, cell, rfl, h4, h5, h6⟩ := a3
  obtain ⟨T', X', -, -, ht⟩ := X₁.outOfThrown (g := F0 m pc ls st) rfl a2 a6 a7
  have hT' : T'.heap = t.heap := by rw [ht]; rfl
  obtain ⟨w1, w2, w3, w4, w5⟩ := X'.leaveThrown a (g := F0 m pc ls st) rfl rfl rfl (by
    intro z hz
    have h0 : c.exceptionTable.toList = [] := by simpa using hex
    rw [h0] at hz
    cases hz) C.2.2.2.2.2.2.2.1
  refine ⟨_, st1 _ (fun acts => ?_), .threw a, w2, w3, ⟨a, cell, rfl, ?_, h5, ?_⟩, ?_, ?_, w4, _, w5.weaken (fun _ h _ => h) hf2.1 hf2.2, ?_⟩
  · rw [doInvoke_state]
    refine a1.trans ?_
    rw [ht]
    exact w1
  · show T'.heap[a]? = _
    rw [hT']; exact h4
  · rw [← h6]
    exact (X₁.warmed.alike.findClass _ _).symm
  · show va_P _ _ _ T'.heap
    rw [hT']; exact a4
  · have := q_S hS (T := T.setVm vm₁) hT rfl a5 hB a8
    rw [← hT'] at this
    exact va_S.F (t := T'.setFrames (.throwing a :: below)) this rfl
  · intro q hq
    rcases List.mem_append.mp hq with h | h
    · exact hS.2.2 q h
    · exact hB _ (a8 q h)
/-- a call of a method that throws, in a method without a table: it throws too -/
theorem gq_thrV (C : Cx p s m args meth c x nL A cc own QT) {y : MethodName} {rm : Room} {bytes : ByteArray} {maxL index : Nat} {ret : Option FieldType} {stk : List Value} {As : List Value} {g j ci : Nat} {C0 : vw_C} {fs : List Value} {X0 : String} {rm0 : Room} (hex : c.exceptionTable.isEmpty = true) (hB : ∀ q, B q → A q) (hM : CT l y rm x B (.ref (qal x g j) :: As) V Y (.inr X0) V' Y')
    (hm : (g, j) ∈ qI x) (he : qcf x g j (V g j) (Y g j) = .inr (ci, fs)) (hc : (qcl x)[ci]? = some C0) (hlink : Cond.methodLink own index y ∈ QT) (hinst : Cond.instanceMethod y ∈ QT) (hsel : Cond.selects C0.1 y y ∈ QT) (hcode : Cond.code y bytes maxL ret ∈ QT) (hini : Cond.initialized y.cls ∈ QT) (hy : y.cls ≠ "java/lang/invoke/MethodHandle" ∧ y.cls ≠ "java/lang/invoke/VarHandle" ∧ (parseMethodDescriptor y.desc).map (fun d => d.parameters.length) = some As.length)
    (hR : rm.frames + 1 ≤ R.frames ∧ 8 + (maxL + 11) + rm.locals ≤ R.locals) (hf : cells + rm.cells ≤ R.cells ∧ slots + rm.slots ≤ R.slots) (hf2 : cells + rm.cells ≤ rm0.cells ∧ slots + rm.slots ≤ rm0.slots) (hk : stk = As.reverse ++ .ref (qal x g j) :: st) (hW : (st.map fun v => v.category).sum ≤ 8) (hd : decode cc pc = .ok (.invokevirtual index, 3)) :
    G p l e R s m args below meth c (qQ below x A rm0 (.inr X0) V' Y' s) x nL A V Y cells slots pc lo stk := by
  intro H locs ls hP hS hl T hT X
  have hts := C.2.2.2.2.1
  obtain ⟨mk, methM, hnamed, hmethM, hstM, habM⟩ := Cond.instanceMethod_spec (hts _ hinst)
  obtain ⟨methM', cM, hmethM', -, -, -, -, -, -, hsigM⟩ := Cond.code_spec hnamed (hts _ hcode)
  cases hmethM.symm.trans hmethM'
  obtain ⟨q0, -, hq0⟩ := qw_at V Y hm
  rw [he] at hq0
  obtain ⟨cellB, hcB, hoB, hclB⟩ := va_recv C.2.2.2.2.2.1 hP hc hq0
  obtain ⟨c2, r2, m2, q1, q2, q3, q4, kP, hkP, hkPi⟩ := Cond.selects_spec (hts _ hsel)
  cases hclB.symm.trans q1
  cases (State.methodFound?_of_named hnamed ⟨hy.1, hy.2.1⟩).symm.trans q2
  cases hnamed.symm.trans q3
  have hselP : selectMethod e.platform s.vm cellB.cls mk = .method mk := by rw [Launch.admits_selectMethod X.admits]; exact q4
  have hlen : As.length = methM.sig.parameters.length := by
    have h2 := hy.2.2
    rw [hsigM] at h2
    exact (Option.some.inj h2).symm
  obtain ⟨vm₁, X₁, st1⟩ := X.invokevirtual C.1 C.2.2.2.1 (hts _ hlink) hnamed hmethM hstM hkP hkPi ⟨hy.1, hy.2.1⟩ (a := qal x g j) (cell := cellB) (by rw [hT]; exact hcB) (fun z h => by rw [h] at hoB; cases hoB) hselP hmethM habM hkP hkPi (g := F0 m pc ls stk) rfl (argsL := As) (rest := st) hlen hk (by rw [C.2.1]; exact hd)
  obtain ⟨o, t, a1, a2, ⟨a3, a4, a5, a6, L, a7, a8⟩⟩ := q_call C X₁ hM hB hcode hini hR hf (by rw [show (T.setVm vm₁).heap = H from hT]; exact hP) (by rw [show (T.setVm vm₁).heap = H from hT]; exact hS) (g := F0 m pc ls st) rfl hl.1 (by rw [C.2.1]; exact hd) (by show 2 * 0 + (st.map fun v => v.category).sum ≤ 8; omega) hnamed
  obtain ⟨a, cell, rfl, h4, h5, h6⟩ := a3
  obtain ⟨T', X', -, -, ht⟩ := X₁.outOfThrown (g := F0 m pc ls st) rfl a2 a6 a7
  have hT' : T'.heap = t.heap := by rw [ht]; rfl
  obtain ⟨w1, w2, w3, w4, w5⟩ := X'.leaveThrown a (g := F0 m pc ls st) rfl rfl rfl (by
    intro z hz
    have h0 : c.exceptionTable.toList = [] := by simpa using hex
    rw [h0] at hz
    cases hz) C.2.2.2.2.2.2.2.1
  refine ⟨_, st1 _ (fun acts => ?_), .threw a, w2, w3, ⟨a, cell, rfl, ?_, h5, ?_⟩, ?_, ?_, w4, _, w5.weaken (fun _ h _ => h) hf2.1 hf2.2, ?_⟩
  · rw [doInvoke_state]
    refine a1.trans ?_
    rw [ht]
    exact w1
  · show T'.heap[a]? = _
    rw [hT']; exact h4
  · rw [← h6]
    exact (X₁.warmed.alike.findClass _ _).symm
  · show va_P _ _ _ T'.heap
    rw [hT']; exact a4
  · have := q_S hS (T := T.setVm vm₁) hT rfl a5 hB a8
    rw [← hT'] at this
    exact va_S.F (t := T'.setFrames (.throwing a :: below)) this rfl
  · intro q hq
    rcases List.mem_append.mp hq with h | h
    · exact hS.2.2 q h
    · exact hB _ (a8 q h)
end QC
