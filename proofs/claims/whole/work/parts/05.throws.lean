/-! 'throw new X()' in a method that has written nothing, and the words that it needs -/
theorem q_isRef {C n d : String} {A : Nat → Prop} {U : State} {args : Array Value} (h : va_Zq C n d A U U.heap) : (Cond.isRef (.static C n d)).before args U = true := by
  rcases h with ⟨cf, kf, fi, f, a, cell, h1, h2, h3, h4, h5, h6, h7, -⟩ | ⟨t, cf, kf, fi, f, a, cell, h1, h2, h3, h4, h5, h6, h7, -⟩
  · simp [Cond.before, Cond.holds, Cond.value, Term.eval, State.fieldNamed?, h1, h2, h4, h5, h6, h7]
  · simp [Cond.before, Cond.holds, Cond.value, Term.eval, State.fieldNamed?, h1, h2, h4, h5, h6, h7]
theorem q_same {s t : State} {k n : Nat} (h : s.sameButNew t [] k n) {a : Nat} (ha : a < s.heap.size) : t.heap[a]? = s.heap[a]? := by
  obtain ⟨c', h1, h2, -, h4⟩ := h.2.2.2.2.2 a s.heap[a] (Array.getElem?_eq_getElem ha)
  have h5 : c'.slots = s.heap[a].slots := Array.ext_getElem? (fun i => h4 i (by simp))
  rw [h1, Array.getElem?_eq_getElem ha, h2, h5]
/-- the words of a throw: all in QT, but for two that speak of statics -/
def qTw (own : String) (ic : Nat) (X0 : String) (names : List String) : Prop := ∀ a ∈ Bundle.ownAtoms0 own ic X0 names, a ∈ QT ∨ a = .isRef (.static Bundle.tN "UNASSIGNED_STACK" Bundle.steD) ∨ a = .isRef (.static Bundle.tN "SUPPRESSED_SENTINEL" Bundle.listD) ∨ a = .laysStatic Bundle.tN "UNASSIGNED_STACK" Bundle.steD ∨ a = .laysStatic Bundle.tN "SUPPRESSED_SENTINEL" Bundle.listD
section QT0
variable {p : Program} {l : Launch} {e : Env} {R : Room} {s : State} {m : MethodId} {args : Array Value} {below : List Frame} {meth : Method} {c : Code} {x : qX} {nL : Nat} {V : qV} {Y : qY} {cells slots pc : Nat} {lo : List (Nat × Value)} {st : List Value} {cc : ByteArray} {own : String}
theorem gq_throw (C : Cx p s m args meth c x nL qN cc own QT) (hadm : ∀ e, l.admits e → e.platform.stackTraces = false) (hex : c.exceptionTable.isEmpty = true) (hlt : qlt x s) {X0 : String} {names : List String} {ia ic : Nat} {rm0 : Room} (hw : qTw own ic X0 names) (hcl : Cond.classLink own ia X0 ∈ QT) (hins : Cond.instantiable X0 6 ∈ QT) (hini : Cond.initialized X0 ∈ QT) (hfit : Bundle.fit X0 = true) (hnames : ∀ n ∈ names, Bundle.fit n = true)
    (hf : cells + 1 ≤ R.cells ∧ slots + 6 ≤ R.slots) (hf2 : cells + 1 ≤ rm0.cells ∧ slots + 6 ≤ rm0.slots) (hRf : names.length + 3 < R.frames) (hRl : 1 + (st.map fun v => v.category).sum + (13 * (names.length + 1) + 41) ≤ R.locals)
    (hd0 : decode cc pc = .ok (.new ia, 3)) (hd3 : decode cc (pc + 3) = .ok (.dup, 1)) (hd4 : decode cc (pc + 3 + 1) = .ok (.invokespecial ic, 3)) (hd7 : decode cc (pc + 3 + 1 + 3) = .ok (.athrow, 1)) :
    G p l e R s m args below meth c (qQ below x qN rm0 (.inr X0) V Y s) x nL qN V Y cells slots pc lo st := by
  intro H locs ls hP hS hl
  have hts := C.2.2.2.2.1
  have hloc : locs = [] := by
    cases locs with
    | nil => rfl
    | cons a t => exact absurd (hS.2.2 a List.mem_cons_self) id
  subst hloc
  refine W.newc C.1 C.2.1 C.2.2.2.1 (hts _ hcl) (hts _ hins) (hts _ hini) (g := F0 m pc ls st) rfl hd0 hf.1 hf.2 (fun cC kC h1 h2 h3 h4 => ?_)
  refine lv_dup C.1 C.2.1 (pc := pc + 3) (ls := ls) (rest := st) (va := .ref H.size) hd3 rfl ?_
  intro T hT X
  have hat : ∀ a ∈ Bundle.ownAtoms0 own ic X0 names, a.before args s = true := by
    intro a ha
    rcases hw a ha with h | rfl | rfl | rfl | rfl
    · exact hts a h
    · exact q_isRef C.2.2.2.2.2.2.2.2.1.1
    · exact q_isRef C.2.2.2.2.2.2.2.2.1.2
    · exact q_ls C.2.2.2.2.2.2.2.2.1.1 C.2.2.2.2.2.2.2.2.2.1 (Vm.Alike.refl _) (fun _ _ _ => rfl)
    · exact q_ls C.2.2.2.2.2.2.2.2.1.2 C.2.2.2.2.2.2.2.2.2.2 (Vm.Alike.refl _) (fun _ _ _ => rfl)
  obtain ⟨U, u1, u2, u3, u4, u5, ce, u6, u7⟩ := X.ctorThrow0 C.1 (hadm e X.admits) (own := own) (cls := X0) (names := names) (ic := ic) C.2.2.2.1 hfit hnames hat (fun z hz => by cases hz) (a := H.size) (cX := cC) (kX := kC) h1 h2
    (by rw [hT]; simp) hS.1 (g := F0 m (pc + 3 + 1) ls (.ref H.size :: .ref H.size :: st)) rfl (hl.1.trans C.2.2.1.symm) rfl rfl rfl (by rw [C.2.1]; exact hd4) (by rw [C.2.1]; exact hd7)
    (by
      intro z hz
      have h0 : c.exceptionTable.toList = [] := by simpa using hex
      rw [h0] at hz
      cases hz) hRf (by
        show 2 * 0 + (1 + (st.map fun v => v.category).sum) + _ ≤ _
        omega) C.2.2.2.2.2.2.2.1
  have hU : ∀ q, q < s.heap.size → U.heap[q]? = s.heap[q]? := fun q hq => q_same u5 hq
  refine ⟨U, u1, .threw H.size, u2, u3, ⟨H.size, ce, rfl, u6, by rw [u7.vm]; rfl, u7.cls⟩, ?_, ⟨?_, fun q hq _ => hU q hq⟩, u4, [], u5.weaken (fun _ h _ => h) hf2.1 hf2.2, fun _ h => by cases h⟩
  · refine hP.kept (fun k q hk => ?_)
    rw [qw_get] at hk
    obtain ⟨a, ha, rfl⟩ := Option.map_eq_some_iff.mp hk
    have hq := hlt _ ⟨a, List.mem_of_getElem? ha, rfl⟩
    rw [hU _ hq, hS.2.1 _ hq id]
  · exact u5.2.1
end QT0
/-! library calls: Math.max of ints, Math.min of longs, System.arraycopy of ints -/
section QM
variable {p : Program} {l : Launch} {e : Env} {R : Room} {s : State} {m : MethodId} {args : Array Value} {below : List Frame} {meth : Method} {c : Code} {Q : State → Prop} {x : qX} {nL : Nat} {A : Nat → Prop} {V : qV} {Y : qY} {cells slots pc : Nat} {lo : List (Nat × Value)} {st : List Value} {cc : ByteArray} {own : String} {Ts : List Cond}
theorem gq_max (C : Cx p s m args meth c x nL A cc own Ts) {index : Nat} {v w : Int32} (hlink : Cond.methodLink own index Lib.Math.max.name ∈ Ts) (hst : Cond.static Lib.Math.max.name ∈ Ts) (hini : Cond.initialized "java/lang/Math" ∈ Ts) (hcode : Cond.code Lib.Math.max.name Lib.Math.max.code 2 (some .int) ∈ Ts) (hfr : 1 ≤ R.frames) (hlo : (st.map fun v => v.category).sum + 13 ≤ R.locals) (hc : cells ≤ R.cells) (hs : slots ≤ R.slots) (hd : decode cc pc = .ok (.invokestatic index, 3))
    (k : G p l e R s m args below meth c Q x nL A V Y cells slots (pc + 3) lo (.int (if v < w then w else v) :: st)) : G p l e R s m args below meth c Q x nL A V Y cells slots pc lo (.int w :: .int v :: st) := fun H locs ls hP hS hl => va_mmax C.1 C.2.1 (C.2.2.1.trans hl.1.symm) C.2.2.2.1 (C.2.2.2.2.1 _ hlink) (C.2.2.2.2.1 _ hst) (C.2.2.2.2.1 _ hini) (C.2.2.2.2.1 _ hcode) hfr hlo hc hs hd (k H locs ls hP hS hl)
theorem gq_minL (C : Cx p s m args meth c x nL A cc own Ts) {index : Nat} {v w : Int64} (hlink : Cond.methodLink own index Lib.MathLoose.min_long.x ∈ Ts) (hst : Cond.static Lib.MathLoose.min_long.x ∈ Ts) (hini : Cond.initialized "java/lang/Math" ∈ Ts) (hcode : Cond.code Lib.MathLoose.min_long.x Lib.MathLoose.min_long.code 4 (some .long) ∈ Ts) (hfr : 1 ≤ R.frames) (hlo : (st.map fun v => v.category).sum + 15 ≤ R.locals) (hc : cells ≤ R.cells) (hs : slots ≤ R.slots) (hd : decode cc pc = .ok (.invokestatic index, 3))
    (k : G p l e R s m args below meth c Q x nL A V Y cells slots (pc + 3) lo (.long (if w < v then w else v) :: st)) : G p l e R s m args below meth c Q x nL A V Y cells slots pc lo (.long w :: .long v :: st) := fun H locs ls hP hS hl => va_mmin_long C.1 C.2.1 (C.2.2.1.trans hl.1.symm) C.2.2.2.1 (C.2.2.2.2.1 _ hlink) (C.2.2.2.2.1 _ hst) (C.2.2.2.2.1 _ hini) (C.2.2.2.2.1 _ hcode) hfr hlo hc hs hd (k H locs ls hP hS hl)
theorem gq_copyi (C : Cx p s m args meth c x nL A cc own Ts) (hA : ∀ q, qA x q → A q) {index g0 j0 g1 j1 n0 n1 t0 sp dp n : Nat} {cA : ClassId} (hlink : Cond.methodLink own index arraycopyName ∈ Ts) (hnat : Cond.native arraycopyName ∈ Ts) (hst : Cond.static arraycopyName ∈ Ts) (hini : Cond.initialized "java/lang/System" ∈ Ts) (hm0 : (g0, j0) ∈ qI x) (hm1 : (g1, j1) ∈ qI x) (he0 : qcf x g0 j0 (V g0 j0) (Y g0 j0) = .inl (cA, n0, .inl (V g0 j0))) (he1 : ∀ f, qcf x g1 j1 f (Y g1 j1) = .inl (cA, n1, .inl f)) (ht : (qty x)[t0]? = some (cA, .int)) {i1 i2 i3 : Int32} (hi1 : i1 = nI sp) (hi2 : i2 = nI dp) (hi3 : i3 = nI n) (h0 : sp + n ≤ n0) (h1 : dp + n ≤ n1) (hb0 : n0 < 2 ^ 31) (hb1 : n1 < 2 ^ 31)
    (hfr : 1 ≤ R.frames) (hlo : (st.map fun v => v.category).sum + (nativeFrameWords "java/lang/System" "arraycopy" 5 + 11) ≤ R.locals) (hd : decode cc pc = .ok (.invokestatic index, 3))
    (k : G p l e R s m args below meth c Q x nL A (qu V g1 j1 (va_cpy (V g0 j0) (V g1 j1) sp dp n)) Y cells slots (pc + 3) lo st) : G p l e R s m args below meth c Q x nL A V Y cells slots pc lo (.int i3 :: .int i2 :: .ref (qal x g1 j1) :: .int i1 :: .ref (qal x g0 j0) :: st) := by
  intro H locs ls hP hS hl
  subst hi1; subst hi2; subst hi3
  obtain ⟨q0, -, hq0⟩ := qw_at V Y hm0
  obtain ⟨q1, hk1, hq1⟩ := qw_at V Y hm1
  rw [he0] at hq0
  rw [he1] at hq1
  have e1 := nI_clamp (n := sp) (by omega)
  have e2 := nI_clamp (n := dp) (by omega)
  have e3 := nI_clamp (n := n) (by omega)
  refine va_copyi C.1 C.2.1 (C.2.2.1.trans hl.1.symm) C.2.2.2.1 (C.2.2.2.2.1 _ hlink) (C.2.2.2.2.1 _ hnat) (C.2.2.2.2.1 _ hst) (C.2.2.2.2.1 _ hini) C.2.2.2.2.2.1 hP ((qw_D C.2.2.2.2.2.2.1 V Y).weaken (fun _ _ _ h => hA _ h)) hS q0 q1 t0 t0 hq0 hq1 ht ht rfl (nI_pos (by omega)) (nI_pos (by omega)) (nI_pos (by omega)) (by rw [e1, e3]; exact h0) (by rw [e2, e3]; exact h1) (fun _ _ => rfl) hfr hlo hd (fun H1 locs1 hP1 _ hS1 => ?_)
  rw [e1, e2, e3, ← he1, qw_setV C.2.2.2.2.2.2.1 hk1] at hP1
  exact k H1 locs1 ls hP1 hS1 hl
end QM
section QE
variable {p : Program} {l : Launch} {e : Env} {R : Room} {s : State} {m : MethodId} {args : Array Value} {below : List Frame} {meth : Method} {c : Code} {Q : State → Prop} {x : qX} {nL : Nat} {A : Nat → Prop} {V V' : qV} {Y Y' : qY} {cells slots pc : Nat} {lo : List (Nat × Value)} {cc : ByteArray} {own : String} {Ts : List Cond}
theorem gq_iretE (C : Cx p s m args meth c x nL A cc own Ts) {rm : Room} {v v' : Int32} (hr : meth.sig.returnType = some .int) (hv : v = v') (hV : V = V') (hY : Y = Y') (hc : cells ≤ rm.cells) (hs : slots ≤ rm.slots) (hd : decode cc pc = .ok (.ireturn, 1)) : G p l e R s m args below meth c (qQ below x A rm (.inl (some (.int v'))) V' Y' s) x nL A V Y cells slots pc lo [.int v] := by
  subst hv; subst hV; subst hY; exact gq_iret C hr hc hs hd
theorem gq_zretE (C : Cx p s m args meth c x nL A cc own Ts) {rm : Room} {v v' : Int32} {ty : FieldType} (hr : meth.sig.returnType = some ty) (hn : narrow ty (.int v) = .int v) (hv : v = v') (hV : V = V') (hY : Y = Y') (hc : cells ≤ rm.cells) (hs : slots ≤ rm.slots) (hd : decode cc pc = .ok (.ireturn, 1)) : G p l e R s m args below meth c (qQ below x A rm (.inl (some (.int v'))) V' Y' s) x nL A V Y cells slots pc lo [.int v] := by
  subst hv; subst hV; subst hY; exact gq_zret C hr hn hc hs hd
theorem gq_lretE (C : Cx p s m args meth c x nL A cc own Ts) {rm : Room} {v v' : Int64} (hr : meth.sig.returnType = some .long) (hv : v = v') (hV : V = V') (hY : Y = Y') (hc : cells ≤ rm.cells) (hs : slots ≤ rm.slots) (hd : decode cc pc = .ok (.lreturn, 1)) : G p l e R s m args below meth c (qQ below x A rm (.inl (some (.long v'))) V' Y' s) x nL A V Y cells slots pc lo [.long v] := by
  subst hv; subst hV; subst hY; exact gq_lret C hr hc hs hd
theorem gq_vretE (C : Cx p s m args meth c x nL A cc own Ts) {rm : Room} (hr : meth.sig.returnType = none) (hV : V = V') (hY : Y = Y') (hc : cells ≤ rm.cells) (hs : slots ≤ rm.slots) (hd : decode cc pc = .ok (.return_, 1)) : G p l e R s m args below meth c (qQ below x A rm (.inl none) V' Y' s) x nL A V Y cells slots pc lo [] := by
  subst hV; subst hY; exact gq_vret C hr hc hs hd
end QE
