/-! the law's own small methods: each makes one call of the class, and says how it ended -/
section QW
variable {p : Program} {l : Launch} {e : Env} {R : Room} {s : State} {m : MethodId} {args : Array Value} {below : List Frame} {meth : Method} {c : Code} {Q : State → Prop} {x : qX} {nL : Nat} {A B : Nat → Prop} {V V' : qV} {Y Y' : qY} {cells slots pc : Nat} {lo lo' : List (Nat × Value)} {st : List Value} {cc : ByteArray} {own : String}
theorem q_callW {T : State} {locs : List Loc} {y : MethodName} {rm : Room} {av : List Value} {res : Option Value ⊕ String} {bytes : ByteArray} {maxL : Nat} {ret : Option FieldType} {hh : List (Nat × Nat × Nat × Nat)} (C : Cx p s m args meth c x nL A cc own QT) (X : Stand p l e R s m args below meth c T locs cells slots) (hM : CT l y rm x B av V Y res V' Y') (hB : ∀ q, B q → A q)
    (hcode : Cond.codeWith y bytes maxL ret hh ∈ QT) (hini : Cond.initialized y.cls ∈ QT) (hR : rm.frames + 1 ≤ R.frames ∧ 8 + (maxL + 11) + rm.locals ≤ R.locals) (hf : cells + rm.cells ≤ R.cells ∧ slots + rm.slots ≤ R.slots)
    (hP : va_P (qD x) (qcl x) (qw x V Y) T.heap) (hS : va_S A s.heap T.heap locs) {g : JFrame} (hg : g.method = m) (hsize : g.locals.size = nL) {ig : Instr} {len : Nat} (hdg : decode c.code g.pc = .ok (ig, len)) (hW : 2 * g.monitorRoom + (g.stack.map fun v => v.category).sum ≤ 8) {mk : MethodId} (hn : s.methodNamed? y = some mk) :
    ∃ (o : Outcome) (t : State), Steps p.tables e below (doInvoke e (T.setTop g) [] mk av.toArray).1 t ∧ Ended t (.java g :: below) o ∧ qPost x B rm res V' Y' (T.calling g mk av.toArray) o t := by
  have hws : ∀ w ∈ QT, w.before av.toArray T = true := fun w hw => qgw_at X.warmed (QT_qgw w hw) (C.2.2.2.2.1 w hw)
  have hnT : T.methodNamed? y = some mk := X.named hn
  obtain ⟨m9, methY, cY, hn9, hmY, hcY, -, hlY, -⟩ := Cond.codeWith_spec (hws _ hcode)
  cases hnT.symm.trans hn9
  obtain ⟨kY, hkY, -⟩ := className_of_methodNamed hnT
  have hinitY : kY.init = .initialized := Cond.initialized_spec (findClass_of_methodNamed hnT) hkY (hws _ hini)
  have h : At T g.method c below := by rw [hg]; exact X.here
  have happ : (headSpec QT rm).appliesLoose y e.platform (T.calling g mk av.toArray) = true :=
    Spec.appliesLoose_calling (g := g) h hdg hnT hkY hinitY (X.room_calling (g := g) (R' := rm) (hsize.trans C.2.2.1.symm) hmY hcY hR.1 (by rw [hlY]; omega) hf.1 hf.2) (atoms_intro hws)
  have hfr : (T.setTop g).frames = [.java g] ++ below := by rw [State.frames_setTop' g h.top, X.tail]; rfl
  obtain ⟨o, t, hsteps, -, hend, hq⟩ := Steps.callFree hM p X.admits X.cas X.clock (acts := []) hfr happ
    ⟨rfl, hP, va_K.moved (u := s) X.warmed.alike C.2.2.2.2.2.1, qZs_moved (U := T) C.2.2.2.2.2.2.2.2 X.warmed.alike hS.2.1 hB⟩ trivial
  rw [hfr] at hend
  exact ⟨o, t, hsteps, hend, hq⟩
theorem gq_callSW (C : Cx p s m args meth c x nL A cc own QT) {y : MethodName} {rm : Room} {av : List Value} {v : Option Value} {bytes : ByteArray} {maxL index : Nat} {ret : Option FieldType} {hh : List (Nat × Nat × Nat × Nat)} {stk : List Value} (hB : ∀ q, B q → A q) (hM : CT l y rm x B av V Y (.inl v) V' Y')
    (hlink : Cond.methodLink own index y ∈ QT) (hst : Cond.static y ∈ QT) (hcode : Cond.codeWith y bytes maxL ret hh ∈ QT) (hini : Cond.initialized y.cls ∈ QT) (hy : y.cls ≠ "java/lang/invoke/MethodHandle" ∧ y.cls ≠ "java/lang/invoke/VarHandle" ∧ (parseMethodDescriptor y.desc).map (fun d => d.parameters.length) = some av.length)
    (hR : rm.frames + 1 ≤ R.frames ∧ 8 + (maxL + 11) + rm.locals ≤ R.locals) (hf : cells + rm.cells ≤ R.cells ∧ slots + rm.slots ≤ R.slots) (hk : stk = av.reverse ++ st) (hW : (st.map fun v => v.category).sum ≤ 8) (hd : decode cc pc = .ok (.invokestatic index, 3))
    (kk : G p l e R s m args below meth c Q x nL A V' Y' (cells + rm.cells) (slots + rm.slots) (pc + 3) lo (v.toList ++ st)) : G p l e R s m args below meth c Q x nL A V Y cells slots pc lo stk := by
  intro H locs ls hP hS hl T hT X
  have hts := C.2.2.2.2.1
  obtain ⟨mk, methM, cM, hnamed, hmethM, -, -, -, -, -, -, hsigM⟩ := Cond.codeWith_spec (hts _ hcode)
  obtain ⟨kP, hkP, -⟩ := className_of_methodNamed hnamed
  have hlen : av.length = methM.sig.parameters.length := by
    have h2 := hy.2.2
    rw [hsigM] at h2
    exact (Option.some.inj h2).symm
  obtain ⟨vm₁, X₁, st1⟩ := X.invokestatic C.1 C.2.2.2.1 (hts _ hlink) hnamed hmethM (Cond.static_spec hnamed hmethM (hts _ hst)) hkP (Cond.initialized_spec (findClass_of_methodNamed hnamed) hkP (hts _ hini)) ⟨hy.1, hy.2.1⟩ (g := F0 m pc ls stk) rfl (argsL := av) (rest := st) hlen hk (by rw [C.2.1]; exact hd)
  obtain ⟨o, t, a1, a2, ⟨a3, a4, a5, a6, L, a7, a8⟩⟩ := q_callW C X₁ hM hB hcode hini hR hf (by rw [show (T.setVm vm₁).heap = H from hT]; exact hP) (by rw [show (T.setVm vm₁).heap = H from hT]; exact hS) (g := F0 m pc ls st) rfl hl.1 (by rw [C.2.1]; exact hd) (by show 2 * 0 + (st.map fun v => v.category).sum ≤ 8; omega) hnamed
  obtain rfl : o = .returned v := a3
  obtain ⟨T', X', -, -, ht⟩ := X₁.outOf (g := F0 m pc ls st) rfl (by rw [C.2.1]; exact hd) a2 a6 a7
  have hT' : T'.heap = t.heap := by rw [ht]; rfl
  obtain ⟨t2, b1, b2⟩ := kk T'.heap (locs ++ L) ls (by rw [hT']; exact a4) (by rw [hT']; exact q_S hS (T := T.setVm vm₁) hT rfl a5 hB a8) hl T' rfl X'
  refine ⟨t2, st1 _ (fun acts => ?_), b2⟩
  rw [doInvoke_state]
  refine a1.trans ?_
  rw [ht]
  exact b1
end QW

theorem d_W_article_0 : decode b_W_article 0 = .ok (.aload_n 0, 1) := by decide +kernel
theorem d_W_article_1 : decode b_W_article 1 = .ok (.iload_n 1, 1) := by decide +kernel
theorem d_W_article_2 : decode b_W_article 2 = .ok (.iload_n 2, 1) := by decide +kernel
theorem d_W_article_3 : decode b_W_article 3 = .ok (.invokevirtual 7, 3) := by decide +kernel
theorem d_W_article_6 : decode b_W_article 6 = .ok (.goto 6, 3) := by decide +kernel
theorem d_W_article_9 : decode b_W_article 9 = .ok (.astore_n 3, 1) := by decide +kernel
theorem d_W_article_10 : decode b_W_article 10 = .ok (.iconst 1, 1) := by decide +kernel
theorem d_W_article_11 : decode b_W_article 11 = .ok (.ireturn, 1) := by decide +kernel
theorem d_W_article_12 : decode b_W_article 12 = .ok (.iconst 0, 1) := by decide +kernel
theorem d_W_article_13 : decode b_W_article 13 = .ok (.ireturn, 1) := by decide +kernel

theorem d_W_bundle_0 : decode b_W_bundle 0 = .ok (.aload_n 0, 1) := by decide +kernel
theorem d_W_bundle_1 : decode b_W_bundle 1 = .ok (.iload_n 1, 1) := by decide +kernel
theorem d_W_bundle_2 : decode b_W_bundle 2 = .ok (.iload_n 2, 1) := by decide +kernel
theorem d_W_bundle_3 : decode b_W_bundle 3 = .ok (.iload_n 3, 1) := by decide +kernel
theorem d_W_bundle_4 : decode b_W_bundle 4 = .ok (.iload 4, 2) := by decide +kernel
theorem d_W_bundle_6 : decode b_W_bundle 6 = .ok (.invokevirtual 15, 3) := by decide +kernel
theorem d_W_bundle_9 : decode b_W_bundle 9 = .ok (.goto 7, 3) := by decide +kernel
theorem d_W_bundle_12 : decode b_W_bundle 12 = .ok (.astore 5, 2) := by decide +kernel
theorem d_W_bundle_14 : decode b_W_bundle 14 = .ok (.iconst 1, 1) := by decide +kernel
theorem d_W_bundle_15 : decode b_W_bundle 15 = .ok (.ireturn, 1) := by decide +kernel
theorem d_W_bundle_16 : decode b_W_bundle 16 = .ok (.iconst 0, 1) := by decide +kernel
theorem d_W_bundle_17 : decode b_W_bundle 17 = .ok (.ireturn, 1) := by decide +kernel

theorem d_W_publish_0 : decode b_W_publish 0 = .ok (.aload_n 1, 1) := by decide +kernel
theorem d_W_publish_1 : decode b_W_publish 1 = .ok (.iconst 0, 1) := by decide +kernel
theorem d_W_publish_2 : decode b_W_publish 2 = .ok (.aload_n 0, 1) := by decide +kernel
theorem d_W_publish_3 : decode b_W_publish 3 = .ok (.invokevirtual 19, 3) := by decide +kernel
theorem d_W_publish_6 : decode b_W_publish 6 = .ok (.i2l, 1) := by decide +kernel
theorem d_W_publish_7 : decode b_W_publish 7 = .ok (.lastore, 1) := by decide +kernel
theorem d_W_publish_8 : decode b_W_publish 8 = .ok (.goto 6, 3) := by decide +kernel
theorem d_W_publish_11 : decode b_W_publish 11 = .ok (.astore_n 2, 1) := by decide +kernel
theorem d_W_publish_12 : decode b_W_publish 12 = .ok (.iconst 1, 1) := by decide +kernel
theorem d_W_publish_13 : decode b_W_publish 13 = .ok (.ireturn, 1) := by decide +kernel
theorem d_W_publish_14 : decode b_W_publish 14 = .ok (.iconst 0, 1) := by decide +kernel
theorem d_W_publish_15 : decode b_W_publish 15 = .ok (.ireturn, 1) := by decide +kernel

theorem d_W_activate_0 : decode b_W_activate 0 = .ok (.aload_n 0, 1) := by decide +kernel
theorem d_W_activate_1 : decode b_W_activate 1 = .ok (.iload_n 1, 1) := by decide +kernel
theorem d_W_activate_2 : decode b_W_activate 2 = .ok (.invokevirtual 25, 3) := by decide +kernel
theorem d_W_activate_5 : decode b_W_activate 5 = .ok (.goto 9, 3) := by decide +kernel
theorem d_W_activate_8 : decode b_W_activate 8 = .ok (.astore_n 2, 1) := by decide +kernel
theorem d_W_activate_9 : decode b_W_activate 9 = .ok (.iconst 1, 1) := by decide +kernel
theorem d_W_activate_10 : decode b_W_activate 10 = .ok (.ireturn, 1) := by decide +kernel
theorem d_W_activate_11 : decode b_W_activate 11 = .ok (.astore_n 2, 1) := by decide +kernel
theorem d_W_activate_12 : decode b_W_activate 12 = .ok (.iconst 2, 1) := by decide +kernel
theorem d_W_activate_13 : decode b_W_activate 13 = .ok (.ireturn, 1) := by decide +kernel
theorem d_W_activate_14 : decode b_W_activate 14 = .ok (.iconst 0, 1) := by decide +kernel
theorem d_W_activate_15 : decode b_W_activate 15 = .ok (.ireturn, 1) := by decide +kernel

theorem d_W_tick_0 : decode b_W_tick 0 = .ok (.aload_n 2, 1) := by decide +kernel
theorem d_W_tick_1 : decode b_W_tick 1 = .ok (.iconst 0, 1) := by decide +kernel
theorem d_W_tick_2 : decode b_W_tick 2 = .ok (.aload_n 0, 1) := by decide +kernel
theorem d_W_tick_3 : decode b_W_tick 3 = .ok (.iload_n 1, 1) := by decide +kernel
theorem d_W_tick_4 : decode b_W_tick 4 = .ok (.invokevirtual 29, 3) := by decide +kernel
theorem d_W_tick_7 : decode b_W_tick 7 = .ok (.i2l, 1) := by decide +kernel
theorem d_W_tick_8 : decode b_W_tick 8 = .ok (.lastore, 1) := by decide +kernel
theorem d_W_tick_9 : decode b_W_tick 9 = .ok (.goto 6, 3) := by decide +kernel
theorem d_W_tick_12 : decode b_W_tick 12 = .ok (.astore_n 3, 1) := by decide +kernel
theorem d_W_tick_13 : decode b_W_tick 13 = .ok (.iconst 1, 1) := by decide +kernel
theorem d_W_tick_14 : decode b_W_tick 14 = .ok (.ireturn, 1) := by decide +kernel
theorem d_W_tick_15 : decode b_W_tick 15 = .ok (.iconst 0, 1) := by decide +kernel
theorem d_W_tick_16 : decode b_W_tick 16 = .ok (.ireturn, 1) := by decide +kernel

theorem d_W_rate_0 : decode b_W_rate 0 = .ok (.aload_n 0, 1) := by decide +kernel
theorem d_W_rate_1 : decode b_W_rate 1 = .ok (.iload_n 1, 1) := by decide +kernel
theorem d_W_rate_2 : decode b_W_rate 2 = .ok (.iload_n 2, 1) := by decide +kernel
theorem d_W_rate_3 : decode b_W_rate 3 = .ok (.invokevirtual 33, 3) := by decide +kernel
theorem d_W_rate_6 : decode b_W_rate 6 = .ok (.goto 6, 3) := by decide +kernel
theorem d_W_rate_9 : decode b_W_rate 9 = .ok (.astore_n 3, 1) := by decide +kernel
theorem d_W_rate_10 : decode b_W_rate 10 = .ok (.iconst 1, 1) := by decide +kernel
theorem d_W_rate_11 : decode b_W_rate 11 = .ok (.ireturn, 1) := by decide +kernel
theorem d_W_rate_12 : decode b_W_rate 12 = .ok (.iconst 0, 1) := by decide +kernel
theorem d_W_rate_13 : decode b_W_rate 13 = .ok (.ireturn, 1) := by decide +kernel

theorem d_W_fetch_0 : decode b_W_fetch 0 = .ok (.aload_n 2, 1) := by decide +kernel
theorem d_W_fetch_1 : decode b_W_fetch 1 = .ok (.iconst 0, 1) := by decide +kernel
theorem d_W_fetch_2 : decode b_W_fetch 2 = .ok (.aload_n 0, 1) := by decide +kernel
theorem d_W_fetch_3 : decode b_W_fetch 3 = .ok (.iload_n 1, 1) := by decide +kernel
theorem d_W_fetch_4 : decode b_W_fetch 4 = .ok (.invokevirtual 36, 3) := by decide +kernel
theorem d_W_fetch_7 : decode b_W_fetch 7 = .ok (.i2l, 1) := by decide +kernel
theorem d_W_fetch_8 : decode b_W_fetch 8 = .ok (.lastore, 1) := by decide +kernel
theorem d_W_fetch_9 : decode b_W_fetch 9 = .ok (.goto 6, 3) := by decide +kernel
theorem d_W_fetch_12 : decode b_W_fetch 12 = .ok (.astore_n 3, 1) := by decide +kernel
theorem d_W_fetch_13 : decode b_W_fetch 13 = .ok (.iconst 1, 1) := by decide +kernel
theorem d_W_fetch_14 : decode b_W_fetch 14 = .ok (.ireturn, 1) := by decide +kernel
theorem d_W_fetch_15 : decode b_W_fetch 15 = .ok (.iconst 0, 1) := by decide +kernel
theorem d_W_fetch_16 : decode b_W_fetch 16 = .ok (.ireturn, 1) := by decide +kernel

theorem d_W_ready_0 : decode b_W_ready 0 = .ok (.aload_n 2, 1) := by decide +kernel
theorem d_W_ready_1 : decode b_W_ready 1 = .ok (.iconst 0, 1) := by decide +kernel
theorem d_W_ready_2 : decode b_W_ready 2 = .ok (.aload_n 0, 1) := by decide +kernel
theorem d_W_ready_3 : decode b_W_ready 3 = .ok (.iload_n 1, 1) := by decide +kernel
theorem d_W_ready_4 : decode b_W_ready 4 = .ok (.invokevirtual 39, 3) := by decide +kernel
theorem d_W_ready_7 : decode b_W_ready 7 = .ok (.i2l, 1) := by decide +kernel
theorem d_W_ready_8 : decode b_W_ready 8 = .ok (.lastore, 1) := by decide +kernel
theorem d_W_ready_9 : decode b_W_ready 9 = .ok (.goto 9, 3) := by decide +kernel
theorem d_W_ready_12 : decode b_W_ready 12 = .ok (.astore_n 3, 1) := by decide +kernel
theorem d_W_ready_13 : decode b_W_ready 13 = .ok (.iconst 1, 1) := by decide +kernel
theorem d_W_ready_14 : decode b_W_ready 14 = .ok (.ireturn, 1) := by decide +kernel
theorem d_W_ready_15 : decode b_W_ready 15 = .ok (.astore_n 3, 1) := by decide +kernel
theorem d_W_ready_16 : decode b_W_ready 16 = .ok (.iconst 2, 1) := by decide +kernel
theorem d_W_ready_17 : decode b_W_ready 17 = .ok (.ireturn, 1) := by decide +kernel
theorem d_W_ready_18 : decode b_W_ready 18 = .ok (.iconst 0, 1) := by decide +kernel
theorem d_W_ready_19 : decode b_W_ready 19 = .ok (.ireturn, 1) := by decide +kernel

theorem d_W_ask_0 : decode b_W_ask 0 = .ok (.aload_n 2, 1) := by decide +kernel
theorem d_W_ask_1 : decode b_W_ask 1 = .ok (.iconst 0, 1) := by decide +kernel
theorem d_W_ask_2 : decode b_W_ask 2 = .ok (.aload_n 0, 1) := by decide +kernel
theorem d_W_ask_3 : decode b_W_ask 3 = .ok (.iload_n 1, 1) := by decide +kernel
theorem d_W_ask_4 : decode b_W_ask 4 = .ok (.invokevirtual 42, 3) := by decide +kernel
theorem d_W_ask_7 : decode b_W_ask 7 = .ok (.i2l, 1) := by decide +kernel
theorem d_W_ask_8 : decode b_W_ask 8 = .ok (.lastore, 1) := by decide +kernel
theorem d_W_ask_9 : decode b_W_ask 9 = .ok (.goto 6, 3) := by decide +kernel
theorem d_W_ask_12 : decode b_W_ask 12 = .ok (.astore_n 3, 1) := by decide +kernel
theorem d_W_ask_13 : decode b_W_ask 13 = .ok (.iconst 1, 1) := by decide +kernel
theorem d_W_ask_14 : decode b_W_ask 14 = .ok (.ireturn, 1) := by decide +kernel
theorem d_W_ask_15 : decode b_W_ask 15 = .ok (.iconst 0, 1) := by decide +kernel
theorem d_W_ask_16 : decode b_W_ask 16 = .ok (.ireturn, 1) := by decide +kernel

theorem d_W_giveUp_0 : decode b_W_giveUp 0 = .ok (.aload_n 0, 1) := by decide +kernel
theorem d_W_giveUp_1 : decode b_W_giveUp 1 = .ok (.iload_n 1, 1) := by decide +kernel
theorem d_W_giveUp_2 : decode b_W_giveUp 2 = .ok (.invokevirtual 45, 3) := by decide +kernel
theorem d_W_giveUp_5 : decode b_W_giveUp 5 = .ok (.goto 9, 3) := by decide +kernel
theorem d_W_giveUp_8 : decode b_W_giveUp 8 = .ok (.astore_n 2, 1) := by decide +kernel
theorem d_W_giveUp_9 : decode b_W_giveUp 9 = .ok (.iconst 1, 1) := by decide +kernel
theorem d_W_giveUp_10 : decode b_W_giveUp 10 = .ok (.ireturn, 1) := by decide +kernel
theorem d_W_giveUp_11 : decode b_W_giveUp 11 = .ok (.astore_n 2, 1) := by decide +kernel
theorem d_W_giveUp_12 : decode b_W_giveUp 12 = .ok (.iconst 2, 1) := by decide +kernel
theorem d_W_giveUp_13 : decode b_W_giveUp 13 = .ok (.ireturn, 1) := by decide +kernel
theorem d_W_giveUp_14 : decode b_W_giveUp 14 = .ok (.iconst 0, 1) := by decide +kernel
theorem d_W_giveUp_15 : decode b_W_giveUp 15 = .ok (.ireturn, 1) := by decide +kernel

theorem d_W_lease_0 : decode b_W_lease 0 = .ok (.aload_n 2, 1) := by decide +kernel
theorem d_W_lease_1 : decode b_W_lease 1 = .ok (.iconst 0, 1) := by decide +kernel
theorem d_W_lease_2 : decode b_W_lease 2 = .ok (.aload_n 0, 1) := by decide +kernel
theorem d_W_lease_3 : decode b_W_lease 3 = .ok (.iload_n 1, 1) := by decide +kernel
theorem d_W_lease_4 : decode b_W_lease 4 = .ok (.invokevirtual 48, 3) := by decide +kernel
theorem d_W_lease_7 : decode b_W_lease 7 = .ok (.i2l, 1) := by decide +kernel
theorem d_W_lease_8 : decode b_W_lease 8 = .ok (.lastore, 1) := by decide +kernel
theorem d_W_lease_9 : decode b_W_lease 9 = .ok (.goto 6, 3) := by decide +kernel
theorem d_W_lease_12 : decode b_W_lease 12 = .ok (.astore_n 3, 1) := by decide +kernel
theorem d_W_lease_13 : decode b_W_lease 13 = .ok (.iconst 1, 1) := by decide +kernel
theorem d_W_lease_14 : decode b_W_lease 14 = .ok (.ireturn, 1) := by decide +kernel
theorem d_W_lease_15 : decode b_W_lease 15 = .ok (.iconst 0, 1) := by decide +kernel
theorem d_W_lease_16 : decode b_W_lease 16 = .ok (.ireturn, 1) := by decide +kernel

theorem d_W_loaded_0 : decode b_W_loaded 0 = .ok (.aload_n 2, 1) := by decide +kernel
theorem d_W_loaded_1 : decode b_W_loaded 1 = .ok (.iconst 0, 1) := by decide +kernel
theorem d_W_loaded_2 : decode b_W_loaded 2 = .ok (.aload_n 0, 1) := by decide +kernel
theorem d_W_loaded_3 : decode b_W_loaded 3 = .ok (.iload_n 1, 1) := by decide +kernel
theorem d_W_loaded_4 : decode b_W_loaded 4 = .ok (.invokevirtual 51, 3) := by decide +kernel
theorem d_W_loaded_7 : decode b_W_loaded 7 = .ok (.i2l, 1) := by decide +kernel
theorem d_W_loaded_8 : decode b_W_loaded 8 = .ok (.lastore, 1) := by decide +kernel
theorem d_W_loaded_9 : decode b_W_loaded 9 = .ok (.goto 6, 3) := by decide +kernel
theorem d_W_loaded_12 : decode b_W_loaded 12 = .ok (.astore_n 3, 1) := by decide +kernel
theorem d_W_loaded_13 : decode b_W_loaded 13 = .ok (.iconst 1, 1) := by decide +kernel
theorem d_W_loaded_14 : decode b_W_loaded 14 = .ok (.ireturn, 1) := by decide +kernel
theorem d_W_loaded_15 : decode b_W_loaded 15 = .ok (.iconst 0, 1) := by decide +kernel
theorem d_W_loaded_16 : decode b_W_loaded 16 = .ok (.ireturn, 1) := by decide +kernel

theorem d_W_deliver_0 : decode b_W_deliver 0 = .ok (.aload_n 0, 1) := by decide +kernel
theorem d_W_deliver_1 : decode b_W_deliver 1 = .ok (.iload_n 1, 1) := by decide +kernel
theorem d_W_deliver_2 : decode b_W_deliver 2 = .ok (.invokevirtual 54, 3) := by decide +kernel
theorem d_W_deliver_5 : decode b_W_deliver 5 = .ok (.goto 6, 3) := by decide +kernel
theorem d_W_deliver_8 : decode b_W_deliver 8 = .ok (.astore_n 2, 1) := by decide +kernel
theorem d_W_deliver_9 : decode b_W_deliver 9 = .ok (.iconst 1, 1) := by decide +kernel
theorem d_W_deliver_10 : decode b_W_deliver 10 = .ok (.ireturn, 1) := by decide +kernel
theorem d_W_deliver_11 : decode b_W_deliver 11 = .ok (.iconst 0, 1) := by decide +kernel
theorem d_W_deliver_12 : decode b_W_deliver 12 = .ok (.ireturn, 1) := by decide +kernel

theorem d_W_lose_0 : decode b_W_lose 0 = .ok (.aload_n 0, 1) := by decide +kernel
theorem d_W_lose_1 : decode b_W_lose 1 = .ok (.iload_n 1, 1) := by decide +kernel
theorem d_W_lose_2 : decode b_W_lose 2 = .ok (.invokevirtual 59, 3) := by decide +kernel
theorem d_W_lose_5 : decode b_W_lose 5 = .ok (.goto 6, 3) := by decide +kernel
theorem d_W_lose_8 : decode b_W_lose 8 = .ok (.astore_n 2, 1) := by decide +kernel
theorem d_W_lose_9 : decode b_W_lose 9 = .ok (.iconst 1, 1) := by decide +kernel
theorem d_W_lose_10 : decode b_W_lose 10 = .ok (.ireturn, 1) := by decide +kernel
theorem d_W_lose_11 : decode b_W_lose 11 = .ok (.iconst 0, 1) := by decide +kernel
theorem d_W_lose_12 : decode b_W_lose 12 = .ok (.ireturn, 1) := by decide +kernel

theorem d_W_twin_0 : decode b_W_twin 0 = .ok (.aload_n 0, 1) := by decide +kernel
theorem d_W_twin_1 : decode b_W_twin 1 = .ok (.iload_n 1, 1) := by decide +kernel
theorem d_W_twin_2 : decode b_W_twin 2 = .ok (.invokevirtual 62, 3) := by decide +kernel
theorem d_W_twin_5 : decode b_W_twin 5 = .ok (.goto 9, 3) := by decide +kernel
theorem d_W_twin_8 : decode b_W_twin 8 = .ok (.astore_n 2, 1) := by decide +kernel
theorem d_W_twin_9 : decode b_W_twin 9 = .ok (.iconst 1, 1) := by decide +kernel
theorem d_W_twin_10 : decode b_W_twin 10 = .ok (.ireturn, 1) := by decide +kernel
theorem d_W_twin_11 : decode b_W_twin 11 = .ok (.astore_n 2, 1) := by decide +kernel
theorem d_W_twin_12 : decode b_W_twin 12 = .ok (.iconst 2, 1) := by decide +kernel
theorem d_W_twin_13 : decode b_W_twin 13 = .ok (.ireturn, 1) := by decide +kernel
theorem d_W_twin_14 : decode b_W_twin 14 = .ok (.iconst 0, 1) := by decide +kernel
theorem d_W_twin_15 : decode b_W_twin 15 = .ok (.ireturn, 1) := by decide +kernel

theorem d_W_letter_0 : decode b_W_letter 0 = .ok (.aload_n 3, 1) := by decide +kernel
theorem d_W_letter_1 : decode b_W_letter 1 = .ok (.iconst 0, 1) := by decide +kernel
theorem d_W_letter_2 : decode b_W_letter 2 = .ok (.aload_n 0, 1) := by decide +kernel
theorem d_W_letter_3 : decode b_W_letter 3 = .ok (.iload_n 1, 1) := by decide +kernel
theorem d_W_letter_4 : decode b_W_letter 4 = .ok (.iload_n 2, 1) := by decide +kernel
theorem d_W_letter_5 : decode b_W_letter 5 = .ok (.invokevirtual 65, 3) := by decide +kernel
theorem d_W_letter_8 : decode b_W_letter 8 = .ok (.i2l, 1) := by decide +kernel
theorem d_W_letter_9 : decode b_W_letter 9 = .ok (.lastore, 1) := by decide +kernel
theorem d_W_letter_10 : decode b_W_letter 10 = .ok (.goto 11, 3) := by decide +kernel
theorem d_W_letter_13 : decode b_W_letter 13 = .ok (.astore 4, 2) := by decide +kernel
theorem d_W_letter_15 : decode b_W_letter 15 = .ok (.iconst 1, 1) := by decide +kernel
theorem d_W_letter_16 : decode b_W_letter 16 = .ok (.ireturn, 1) := by decide +kernel
theorem d_W_letter_17 : decode b_W_letter 17 = .ok (.astore 4, 2) := by decide +kernel
theorem d_W_letter_19 : decode b_W_letter 19 = .ok (.iconst 2, 1) := by decide +kernel
theorem d_W_letter_20 : decode b_W_letter 20 = .ok (.ireturn, 1) := by decide +kernel
theorem d_W_letter_21 : decode b_W_letter 21 = .ok (.iconst 0, 1) := by decide +kernel
theorem d_W_letter_22 : decode b_W_letter 22 = .ok (.ireturn, 1) := by decide +kernel

theorem d_W_open_0 : decode b_W_open 0 = .ok (.aload_n 2, 1) := by decide +kernel
theorem d_W_open_1 : decode b_W_open 1 = .ok (.iconst 0, 1) := by decide +kernel
theorem d_W_open_2 : decode b_W_open 2 = .ok (.aload_n 0, 1) := by decide +kernel
theorem d_W_open_3 : decode b_W_open 3 = .ok (.iload_n 1, 1) := by decide +kernel
theorem d_W_open_4 : decode b_W_open 4 = .ok (.invokevirtual 69, 3) := by decide +kernel
theorem d_W_open_7 : decode b_W_open 7 = .ok (.i2l, 1) := by decide +kernel
theorem d_W_open_8 : decode b_W_open 8 = .ok (.lastore, 1) := by decide +kernel
theorem d_W_open_9 : decode b_W_open 9 = .ok (.goto 9, 3) := by decide +kernel
theorem d_W_open_12 : decode b_W_open 12 = .ok (.astore_n 3, 1) := by decide +kernel
theorem d_W_open_13 : decode b_W_open 13 = .ok (.iconst 1, 1) := by decide +kernel
theorem d_W_open_14 : decode b_W_open 14 = .ok (.ireturn, 1) := by decide +kernel
theorem d_W_open_15 : decode b_W_open 15 = .ok (.astore_n 3, 1) := by decide +kernel
theorem d_W_open_16 : decode b_W_open 16 = .ok (.iconst 2, 1) := by decide +kernel
theorem d_W_open_17 : decode b_W_open 17 = .ok (.ireturn, 1) := by decide +kernel
theorem d_W_open_18 : decode b_W_open 18 = .ok (.iconst 0, 1) := by decide +kernel
theorem d_W_open_19 : decode b_W_open 19 = .ok (.ireturn, 1) := by decide +kernel

theorem d_W_scan_0 : decode b_W_scan 0 = .ok (.aload 4, 2) := by decide +kernel
theorem d_W_scan_2 : decode b_W_scan 2 = .ok (.iconst 0, 1) := by decide +kernel
theorem d_W_scan_3 : decode b_W_scan 3 = .ok (.aload_n 0, 1) := by decide +kernel
theorem d_W_scan_4 : decode b_W_scan 4 = .ok (.iload_n 1, 1) := by decide +kernel
theorem d_W_scan_5 : decode b_W_scan 5 = .ok (.iload_n 2, 1) := by decide +kernel
theorem d_W_scan_6 : decode b_W_scan 6 = .ok (.iload_n 3, 1) := by decide +kernel
theorem d_W_scan_7 : decode b_W_scan 7 = .ok (.invokevirtual 72, 3) := by decide +kernel
theorem d_W_scan_10 : decode b_W_scan 10 = .ok (.i2l, 1) := by decide +kernel
theorem d_W_scan_11 : decode b_W_scan 11 = .ok (.lastore, 1) := by decide +kernel
theorem d_W_scan_12 : decode b_W_scan 12 = .ok (.goto 15, 3) := by decide +kernel
theorem d_W_scan_15 : decode b_W_scan 15 = .ok (.astore 5, 2) := by decide +kernel
theorem d_W_scan_17 : decode b_W_scan 17 = .ok (.iconst 1, 1) := by decide +kernel
theorem d_W_scan_18 : decode b_W_scan 18 = .ok (.ireturn, 1) := by decide +kernel
theorem d_W_scan_19 : decode b_W_scan 19 = .ok (.astore 5, 2) := by decide +kernel
theorem d_W_scan_21 : decode b_W_scan 21 = .ok (.iconst 2, 1) := by decide +kernel
theorem d_W_scan_22 : decode b_W_scan 22 = .ok (.ireturn, 1) := by decide +kernel
theorem d_W_scan_23 : decode b_W_scan 23 = .ok (.astore 5, 2) := by decide +kernel
theorem d_W_scan_25 : decode b_W_scan 25 = .ok (.iconst 3, 1) := by decide +kernel
theorem d_W_scan_26 : decode b_W_scan 26 = .ok (.ireturn, 1) := by decide +kernel
theorem d_W_scan_27 : decode b_W_scan 27 = .ok (.iconst 0, 1) := by decide +kernel
theorem d_W_scan_28 : decode b_W_scan 28 = .ok (.ireturn, 1) := by decide +kernel

theorem d_W_pay_0 : decode b_W_pay 0 = .ok (.aload_n 2, 1) := by decide +kernel
theorem d_W_pay_1 : decode b_W_pay 1 = .ok (.iconst 0, 1) := by decide +kernel
theorem d_W_pay_2 : decode b_W_pay 2 = .ok (.aload_n 0, 1) := by decide +kernel
theorem d_W_pay_3 : decode b_W_pay 3 = .ok (.iload_n 1, 1) := by decide +kernel
theorem d_W_pay_4 : decode b_W_pay 4 = .ok (.invokevirtual 78, 3) := by decide +kernel
theorem d_W_pay_7 : decode b_W_pay 7 = .ok (.lastore, 1) := by decide +kernel
theorem d_W_pay_8 : decode b_W_pay 8 = .ok (.goto 6, 3) := by decide +kernel
theorem d_W_pay_11 : decode b_W_pay 11 = .ok (.astore_n 3, 1) := by decide +kernel
theorem d_W_pay_12 : decode b_W_pay 12 = .ok (.iconst 1, 1) := by decide +kernel
theorem d_W_pay_13 : decode b_W_pay 13 = .ok (.ireturn, 1) := by decide +kernel
theorem d_W_pay_14 : decode b_W_pay 14 = .ok (.iconst 0, 1) := by decide +kernel
theorem d_W_pay_15 : decode b_W_pay 15 = .ok (.ireturn, 1) := by decide +kernel

theorem d_W_book_0 : decode b_W_book 0 = .ok (.aload_n 2, 1) := by decide +kernel
theorem d_W_book_1 : decode b_W_book 1 = .ok (.iconst 0, 1) := by decide +kernel
theorem d_W_book_2 : decode b_W_book 2 = .ok (.aload_n 0, 1) := by decide +kernel
theorem d_W_book_3 : decode b_W_book 3 = .ok (.iload_n 1, 1) := by decide +kernel
theorem d_W_book_4 : decode b_W_book 4 = .ok (.invokevirtual 82, 3) := by decide +kernel
theorem d_W_book_7 : decode b_W_book 7 = .ok (.i2l, 1) := by decide +kernel
theorem d_W_book_8 : decode b_W_book 8 = .ok (.lastore, 1) := by decide +kernel
theorem d_W_book_9 : decode b_W_book 9 = .ok (.goto 6, 3) := by decide +kernel
theorem d_W_book_12 : decode b_W_book 12 = .ok (.astore_n 3, 1) := by decide +kernel
theorem d_W_book_13 : decode b_W_book 13 = .ok (.iconst 1, 1) := by decide +kernel
theorem d_W_book_14 : decode b_W_book 14 = .ok (.ireturn, 1) := by decide +kernel
theorem d_W_book_15 : decode b_W_book 15 = .ok (.iconst 0, 1) := by decide +kernel
theorem d_W_book_16 : decode b_W_book 16 = .ok (.ireturn, 1) := by decide +kernel

theorem d_W_price_0 : decode b_W_price 0 = .ok (.aload_n 3, 1) := by decide +kernel
theorem d_W_price_1 : decode b_W_price 1 = .ok (.iconst 0, 1) := by decide +kernel
theorem d_W_price_2 : decode b_W_price 2 = .ok (.aload_n 0, 1) := by decide +kernel
theorem d_W_price_3 : decode b_W_price 3 = .ok (.iload_n 1, 1) := by decide +kernel
theorem d_W_price_4 : decode b_W_price 4 = .ok (.iload_n 2, 1) := by decide +kernel
theorem d_W_price_5 : decode b_W_price 5 = .ok (.invokevirtual 85, 3) := by decide +kernel
theorem d_W_price_8 : decode b_W_price 8 = .ok (.i2l, 1) := by decide +kernel
theorem d_W_price_9 : decode b_W_price 9 = .ok (.lastore, 1) := by decide +kernel
theorem d_W_price_10 : decode b_W_price 10 = .ok (.goto 7, 3) := by decide +kernel
theorem d_W_price_13 : decode b_W_price 13 = .ok (.astore 4, 2) := by decide +kernel
theorem d_W_price_15 : decode b_W_price 15 = .ok (.iconst 1, 1) := by decide +kernel
theorem d_W_price_16 : decode b_W_price 16 = .ok (.ireturn, 1) := by decide +kernel
theorem d_W_price_17 : decode b_W_price 17 = .ok (.iconst 0, 1) := by decide +kernel
theorem d_W_price_18 : decode b_W_price 18 = .ok (.ireturn, 1) := by decide +kernel

theorem d_W_restart_0 : decode b_W_restart 0 = .ok (.aload_n 0, 1) := by decide +kernel
theorem d_W_restart_1 : decode b_W_restart 1 = .ok (.iload_n 1, 1) := by decide +kernel
theorem d_W_restart_2 : decode b_W_restart 2 = .ok (.invokevirtual 88, 3) := by decide +kernel
theorem d_W_restart_5 : decode b_W_restart 5 = .ok (.goto 6, 3) := by decide +kernel
theorem d_W_restart_8 : decode b_W_restart 8 = .ok (.astore_n 2, 1) := by decide +kernel
theorem d_W_restart_9 : decode b_W_restart 9 = .ok (.iconst 1, 1) := by decide +kernel
theorem d_W_restart_10 : decode b_W_restart 10 = .ok (.ireturn, 1) := by decide +kernel
theorem d_W_restart_11 : decode b_W_restart 11 = .ok (.iconst 0, 1) := by decide +kernel
theorem d_W_restart_12 : decode b_W_restart 12 = .ok (.ireturn, 1) := by decide +kernel

set_option maxHeartbeats 4000000 in
set_option maxRecDepth 100000 in
theorem c_W_article (l : Launch) (Z : qZ) (hZ : qok (pX Z)) (V : qV) (Y : qY) (n : Nat) (hn : n < 8) (w : Int32) (h1 : f_isArticle (nI n) = 1) (h2 : f_isAmount w = 1) : CT l y_W_article { frames := 7, cells := 1, slots := 6, locals := 118 } (pX Z) (qA (pX Z)) [.ref (al Z 0 0), .int (nI n), .int w] V Y (.inl (some (.int 0))) (qv V 2 0 n w) Y := by
  refine CT.ofW (cc := b_W_article) (maxL := 4) (ret := some .int) (hh := [(0, 6, 9, 13)]) hZ (by decide) w_242 (Nat.le_of_ble_eq_true rfl) ?_
  intro p e s m below meth c C hr htab hlt
  refine gq_aload_n C d_W_article_0 rfl ?_
  refine gq_iload_n C d_W_article_1 rfl ?_
  refine gq_iload_n C d_W_article_2 rfl ?_
  refine gq_callV C (st := []) (fun _ h => h) (c_H_article l Z hZ V Y n hn w h1 h2) (qm (by decide) (by decide)) rfl rfl w_244 w_245 w_246 w_247 w_1 ⟨by decide, by decide, (by decide +kernel : (parseMethodDescriptor y_H_article.desc).map (fun d => d.parameters.length) = some 2)⟩ ⟨by decide, by decide⟩ ⟨by decide, by decide⟩ rfl (Nat.le_of_ble_eq_true rfl) d_W_article_3 ?_
  refine gq_goto C (tgt := 12) d_W_article_6 rfl ?_
  refine gq_iconst C (v := 0) d_W_article_12 (by decide) ?_
  exact gq_iretE C hr rfl rfl rfl (by decide) (by decide) d_W_article_13

set_option maxHeartbeats 4000000 in
set_option maxRecDepth 100000 in
theorem c_W_article_x (l : Launch) (hadm : ∀ e : Env, l.admits e → e.platform.stackTraces = false) (Z : qZ) (hZ : qok (pX Z)) (V : qV) (Y : qY) (a w : Int32) (h : f_isArticle a = 0 ∨ f_isAmount w = 0) : CT l y_W_article { frames := 7, cells := 1, slots := 6, locals := 118 } (pX Z) (qA (pX Z)) [.ref (al Z 0 0), .int a, .int w] V Y (.inl (some (.int 1))) V Y := by
  refine CT.ofW (cc := b_W_article) (maxL := 4) (ret := some .int) (hh := [(0, 6, 9, 13)]) hZ (by decide) w_242 (Nat.le_of_ble_eq_true rfl) ?_
  intro p e s m below meth c C hr htab hlt
  refine gq_aload_n C d_W_article_0 rfl ?_
  refine gq_iload_n C d_W_article_1 rfl ?_
  refine gq_iload_n C d_W_article_2 rfl ?_
  refine gq_catV C (st := []) (fun _ h => h.elim) (c_H_article_x l hadm Z hZ V Y a w h) (qm (by decide) (by decide)) rfl rfl w_244 w_245 w_246 w_247 w_1 ⟨by decide, by decide, (by decide +kernel : (parseMethodDescriptor y_H_article.desc).map (fun d => d.parameters.length) = some 2)⟩ (pre := []) (y0 := (0, 6, 9, 13)) (rest := []) htab (names := []) ⟨fun z hz => absurd hz List.not_mem_nil, ⟨by decide, by decide⟩, by decide, w_243, w_257⟩ ⟨by decide, by decide⟩ ⟨by decide, by decide⟩ rfl (Nat.le_of_ble_eq_true rfl) d_W_article_3 (fun ax => ?_)
  refine gq_astore_n C (lo' := [(3, .ref ax), (0, .ref (al Z 0 0)), (1, .int a), (2, .int w)]) d_W_article_9 rfl (by decide) rfl ?_
  refine gq_iconst C (v := 1) d_W_article_10 (by decide) ?_
  exact gq_iretE C hr rfl rfl rfl (by decide) (by decide) d_W_article_11

set_option maxHeartbeats 4000000 in
set_option maxRecDepth 100000 in
theorem c_W_bundle (l : Launch) (Z : qZ) (hZ : qok (pX Z)) (V : qV) (Y : qY) (n u : Nat) (hn : n < 8) (hu : u < 2) (z w : Int32) (h1 : f_isArticle (nI n) = 1) (h2 : f_isSlot (nI u) = 1) (h3 : f_isBundleSize z = 1) (h4 : f_isAmount w = 1) : CT l y_W_bundle { frames := 7, cells := 1, slots := 6, locals := 120 } (pX Z) (qA (pX Z)) [.ref (al Z 0 0), .int (nI n), .int (nI u), .int z, .int w] V Y (.inl (some (.int 0))) (qv (qv V 3 0 (n * 2 + u) z) 4 0 (n * 2 + u) w) Y := by
  refine CT.ofW (cc := b_W_bundle) (maxL := 6) (ret := some .int) (hh := [(0, 9, 12, 13)]) hZ (by decide) w_321 (Nat.le_of_ble_eq_true rfl) ?_
  intro p e s m below meth c C hr htab hlt
  refine gq_aload_n C d_W_bundle_0 rfl ?_
  refine gq_iload_n C d_W_bundle_1 rfl ?_
  refine gq_iload_n C d_W_bundle_2 rfl ?_
  refine gq_iload_n C d_W_bundle_3 rfl ?_
  refine gq_iload C d_W_bundle_4 rfl ?_
  refine gq_callV C (st := []) (fun _ h => h) (c_H_bundle l Z hZ V Y n u hn hu z w h1 h2 h3 h4) (qm (by decide) (by decide)) rfl rfl w_322 w_323 w_324 w_325 w_1 ⟨by decide, by decide, (by decide +kernel : (parseMethodDescriptor y_H_bundle.desc).map (fun d => d.parameters.length) = some 4)⟩ ⟨by decide, by decide⟩ ⟨by decide, by decide⟩ rfl (Nat.le_of_ble_eq_true rfl) d_W_bundle_6 ?_
  refine gq_goto C (tgt := 16) d_W_bundle_9 rfl ?_
  refine gq_iconst C (v := 0) d_W_bundle_16 (by decide) ?_
  exact gq_iretE C hr rfl rfl rfl (by decide) (by decide) d_W_bundle_17

set_option maxHeartbeats 4000000 in
set_option maxRecDepth 100000 in
theorem c_W_bundle_x (l : Launch) (hadm : ∀ e : Env, l.admits e → e.platform.stackTraces = false) (Z : qZ) (hZ : qok (pX Z)) (V : qV) (Y : qY) (a u z w : Int32) (h : f_isArticle a = 0 ∨ f_isSlot u = 0 ∨ f_isBundleSize z = 0 ∨ f_isAmount w = 0) : CT l y_W_bundle { frames := 7, cells := 1, slots := 6, locals := 120 } (pX Z) (qA (pX Z)) [.ref (al Z 0 0), .int a, .int u, .int z, .int w] V Y (.inl (some (.int 1))) V Y := by
  refine CT.ofW (cc := b_W_bundle) (maxL := 6) (ret := some .int) (hh := [(0, 9, 12, 13)]) hZ (by decide) w_321 (Nat.le_of_ble_eq_true rfl) ?_
  intro p e s m below meth c C hr htab hlt
  refine gq_aload_n C d_W_bundle_0 rfl ?_
  refine gq_iload_n C d_W_bundle_1 rfl ?_
  refine gq_iload_n C d_W_bundle_2 rfl ?_
  refine gq_iload_n C d_W_bundle_3 rfl ?_
  refine gq_iload C d_W_bundle_4 rfl ?_
  refine gq_catV C (st := []) (fun _ h => h.elim) (c_H_bundle_x l hadm Z hZ V Y a u z w h) (qm (by decide) (by decide)) rfl rfl w_322 w_323 w_324 w_325 w_1 ⟨by decide, by decide, (by decide +kernel : (parseMethodDescriptor y_H_bundle.desc).map (fun d => d.parameters.length) = some 4)⟩ (pre := []) (y0 := (0, 9, 12, 13)) (rest := []) htab (names := []) ⟨fun z hz => absurd hz List.not_mem_nil, ⟨by decide, by decide⟩, by decide, w_243, w_257⟩ ⟨by decide, by decide⟩ ⟨by decide, by decide⟩ rfl (Nat.le_of_ble_eq_true rfl) d_W_bundle_6 (fun ax => ?_)
  refine gq_astore C (lo' := [(5, .ref ax), (0, .ref (al Z 0 0)), (1, .int a), (2, .int u), (3, .int z), (4, .int w)]) d_W_bundle_12 (by decide) rfl ?_
  refine gq_iconst C (v := 1) d_W_bundle_14 (by decide) ?_
  exact gq_iretE C hr rfl rfl rfl (by decide) (by decide) d_W_bundle_15

set_option maxHeartbeats 4000000 in
set_option maxRecDepth 100000 in
theorem c_W_publish (l : Launch) (Z : qZ) (hZ : qok (pX Z)) (V : qV) (Y : qY) (n : Nat) (hn : n < 9) (h2 : V 0 0 2 = nI n) (hc : ∃ m, m ≤ 40 ∧ V 12 0 4 = nI m) : CT l y_W_publish { frames := 7, cells := 1, slots := 6, locals := 117 } (pX Z) (qA (pX Z)) [.ref (al Z 0 0), .ref (al Z 45 0)] V Y (.inl (some (.int 0))) (f_publish V n) (qy Y 45 0 0 ((V 0 0 2 + 1).toInt64)) := by
  refine CT.ofW (cc := b_W_publish) (maxL := 3) (ret := some .int) (hh := [(0, 8, 11, 23)]) hZ (by decide) w_334 (Nat.le_of_ble_eq_true rfl) ?_
  intro p e s m below meth c C hr htab hlt
  refine gq_aload_n C d_W_publish_0 rfl ?_
  refine gq_iconst C (v := 0) d_W_publish_1 (by decide) ?_
  refine gq_aload_n C d_W_publish_2 rfl ?_
  refine gq_callV C (st := [.int 0, .ref (al Z 45 0)]) (fun _ h => h) (c_H_publish l Z hZ V Y n hn h2 hc) (qm (by decide) (by decide)) rfl rfl w_336 w_337 w_338 w_339 w_1 ⟨by decide, by decide, (by decide +kernel : (parseMethodDescriptor y_H_publish.desc).map (fun d => d.parameters.length) = some 0)⟩ ⟨by decide, by decide⟩ ⟨by decide, by decide⟩ rfl (Nat.le_of_ble_eq_true rfl) d_W_publish_3 ?_
  refine gq_i2l C d_W_publish_6 ?_
  refine gq_last C (fun _ h => h) (g := 45) (j := 0) (a := 0) (t0 := 1) (qm (by decide) (by decide)) (fun _ => rfl) rfl rfl (by decide) (by decide) d_W_publish_7 ?_
  refine gq_goto C (tgt := 14) d_W_publish_8 rfl ?_
  refine gq_iconst C (v := 0) d_W_publish_14 (by decide) ?_
  exact gq_iretE C hr rfl rfl rfl (by decide) (by decide) d_W_publish_15

set_option maxHeartbeats 4000000 in
set_option maxRecDepth 100000 in
theorem c_W_publish_x (l : Launch) (hadm : ∀ e : Env, l.admits e → e.platform.stackTraces = false) (Z : qZ) (hZ : qok (pX Z)) (V : qV) (Y : qY) (h : ¬ V 0 0 2 < 9) : CT l y_W_publish { frames := 7, cells := 1, slots := 6, locals := 117 } (pX Z) (qA (pX Z)) [.ref (al Z 0 0), .ref (al Z 45 0)] V Y (.inl (some (.int 1))) V Y := by
  refine CT.ofW (cc := b_W_publish) (maxL := 3) (ret := some .int) (hh := [(0, 8, 11, 23)]) hZ (by decide) w_334 (Nat.le_of_ble_eq_true rfl) ?_
  intro p e s m below meth c C hr htab hlt
  refine gq_aload_n C d_W_publish_0 rfl ?_
  refine gq_iconst C (v := 0) d_W_publish_1 (by decide) ?_
  refine gq_aload_n C d_W_publish_2 rfl ?_
  refine gq_catV C (st := [.int 0, .ref (al Z 45 0)]) (fun _ h => h.elim) (c_H_publish_x l hadm Z hZ V Y h) (qm (by decide) (by decide)) rfl rfl w_336 w_337 w_338 w_339 w_1 ⟨by decide, by decide, (by decide +kernel : (parseMethodDescriptor y_H_publish.desc).map (fun d => d.parameters.length) = some 0)⟩ (pre := []) (y0 := (0, 8, 11, 23)) (rest := []) htab (names := []) ⟨fun z hz => absurd hz List.not_mem_nil, ⟨by decide, by decide⟩, by decide, w_335, w_342⟩ ⟨by decide, by decide⟩ ⟨by decide, by decide⟩ rfl (Nat.le_of_ble_eq_true rfl) d_W_publish_3 (fun ax => ?_)
  refine gq_astore_n C (lo' := [(2, .ref ax), (0, .ref (al Z 0 0)), (1, .ref (al Z 45 0))]) d_W_publish_11 rfl (by decide) rfl ?_
  refine gq_iconst C (v := 1) d_W_publish_12 (by decide) ?_
  exact gq_iretE C hr rfl rfl rfl (by decide) (by decide) d_W_publish_13

set_option maxHeartbeats 4000000 in
set_option maxRecDepth 100000 in
theorem c_W_price (l : Launch) (Z : qZ) (hZ : qok (pX Z)) (V : qV) (Y : qY) (b : Nat) (hb : b < 9) (n : Nat) (hn : n < 8) (h1 : f_isBook V (nI (b + 1)) = 1) (h2 : f_isArticle (nI n) = 1) : CT l y_W_price { frames := 7, cells := 1, slots := 6, locals := 118 } (pX Z) (qA (pX Z)) [.ref (al Z 0 0), .int (nI (b + 1)), .int (nI n), .ref (al Z 45 0)] V Y (.inl (some (.int 0))) V (qy Y 45 0 0 ((V 2 (b + 1) n).toInt64)) := by
  refine CT.ofW (cc := b_W_price) (maxL := 5) (ret := some .int) (hh := [(0, 10, 13, 13)]) hZ (by decide) w_635 (Nat.le_of_ble_eq_true rfl) ?_
  intro p e s m below meth c C hr htab hlt
  refine gq_aload_n C d_W_price_0 rfl ?_
  refine gq_iconst C (v := 0) d_W_price_1 (by decide) ?_
  refine gq_aload_n C d_W_price_2 rfl ?_
  refine gq_iload_n C d_W_price_3 rfl ?_
  refine gq_iload_n C d_W_price_4 rfl ?_
  refine gq_callV C (st := [.int 0, .ref (al Z 45 0)]) (fun _ h => h.elim) (c_H_price l Z hZ V Y b hb n hn h1 h2) (qm (by decide) (by decide)) rfl rfl w_636 w_637 w_638 w_639 w_1 ⟨by decide, by decide, (by decide +kernel : (parseMethodDescriptor y_H_price.desc).map (fun d => d.parameters.length) = some 2)⟩ ⟨by decide, by decide⟩ ⟨by decide, by decide⟩ rfl (Nat.le_of_ble_eq_true rfl) d_W_price_5 ?_
  refine gq_i2l C d_W_price_8 ?_
  refine gq_last C (fun _ h => h) (g := 45) (j := 0) (a := 0) (t0 := 1) (qm (by decide) (by decide)) (fun _ => rfl) rfl rfl (by decide) (by decide) d_W_price_9 ?_
  refine gq_goto C (tgt := 17) d_W_price_10 rfl ?_
  refine gq_iconst C (v := 0) d_W_price_17 (by decide) ?_
  exact gq_iretE C hr rfl rfl rfl (by decide) (by decide) d_W_price_18

set_option maxHeartbeats 4000000 in
set_option maxRecDepth 100000 in
theorem c_W_price_x (l : Launch) (hadm : ∀ e : Env, l.admits e → e.platform.stackTraces = false) (Z : qZ) (hZ : qok (pX Z)) (V : qV) (Y : qY) (b a : Int32) (h : f_isBook V b = 0 ∨ f_isArticle a = 0) : CT l y_W_price { frames := 7, cells := 1, slots := 6, locals := 118 } (pX Z) (qA (pX Z)) [.ref (al Z 0 0), .int b, .int a, .ref (al Z 45 0)] V Y (.inl (some (.int 1))) V Y := by
  refine CT.ofW (cc := b_W_price) (maxL := 5) (ret := some .int) (hh := [(0, 10, 13, 13)]) hZ (by decide) w_635 (Nat.le_of_ble_eq_true rfl) ?_
  intro p e s m below meth c C hr htab hlt
  refine gq_aload_n C d_W_price_0 rfl ?_
  refine gq_iconst C (v := 0) d_W_price_1 (by decide) ?_
  refine gq_aload_n C d_W_price_2 rfl ?_
  refine gq_iload_n C d_W_price_3 rfl ?_
  refine gq_iload_n C d_W_price_4 rfl ?_
  refine gq_catV C (st := [.int 0, .ref (al Z 45 0)]) (fun _ h => h.elim) (c_H_price_x l hadm Z hZ V Y b a h) (qm (by decide) (by decide)) rfl rfl w_636 w_637 w_638 w_639 w_1 ⟨by decide, by decide, (by decide +kernel : (parseMethodDescriptor y_H_price.desc).map (fun d => d.parameters.length) = some 2)⟩ (pre := []) (y0 := (0, 10, 13, 13)) (rest := []) htab (names := []) ⟨fun z hz => absurd hz List.not_mem_nil, ⟨by decide, by decide⟩, by decide, w_243, w_257⟩ ⟨by decide, by decide⟩ ⟨by decide, by decide⟩ rfl (Nat.le_of_ble_eq_true rfl) d_W_price_5 (fun ax => ?_)
  refine gq_astore C (lo' := [(4, .ref ax), (0, .ref (al Z 0 0)), (1, .int b), (2, .int a), (3, .ref (al Z 45 0))]) d_W_price_13 (by decide) rfl ?_
  refine gq_iconst C (v := 1) d_W_price_15 (by decide) ?_
  exact gq_iretE C hr rfl rfl rfl (by decide) (by decide) d_W_price_16

set_option maxHeartbeats 4000000 in
set_option maxRecDepth 100000 in
theorem c_W_activate (l : Launch) (Z : qZ) (hZ : qok (pX Z)) (V : qV) (Y : qY) (b : Int32) (h1 : f_isBook V b = 1) (h2 : ¬ b ≤ V 9 0 2) (h3 : V 9 0 3 < b) : CT l y_W_activate { frames := 7, cells := 1, slots := 6, locals := 122 } (pX Z) (qA (pX Z)) [.ref (al Z 0 0), .int b] V Y (.inl (some (.int 0))) (f_look (qv V 9 0 3 b)) Y := by
  refine CT.ofW (cc := b_W_activate) (maxL := 3) (ret := some .int) (hh := [(0, 5, 8, 13), (0, 5, 11, 23)]) hZ (by decide) w_372 (Nat.le_of_ble_eq_true rfl) ?_
  intro p e s m below meth c C hr htab hlt
  refine gq_aload_n C d_W_activate_0 rfl ?_
  refine gq_iload_n C d_W_activate_1 rfl ?_
  refine gq_callV C (st := []) (fun _ h => h) (c_H_activate l Z hZ V Y b h1 h2 h3) (qm (by decide) (by decide)) rfl rfl w_373 w_374 w_375 w_376 w_1 ⟨by decide, by decide, (by decide +kernel : (parseMethodDescriptor y_H_activate.desc).map (fun d => d.parameters.length) = some 1)⟩ ⟨by decide, by decide⟩ ⟨by decide, by decide⟩ rfl (Nat.le_of_ble_eq_true rfl) d_W_activate_2 ?_
  refine gq_goto C (tgt := 14) d_W_activate_5 rfl ?_
  refine gq_iconst C (v := 0) d_W_activate_14 (by decide) ?_
  exact gq_iretE C hr rfl rfl rfl (by decide) (by decide) d_W_activate_15

set_option maxHeartbeats 4000000 in
set_option maxRecDepth 100000 in
theorem c_W_activate_x1 (l : Launch) (hadm : ∀ e : Env, l.admits e → e.platform.stackTraces = false) (Z : qZ) (hZ : qok (pX Z)) (V : qV) (Y : qY) (b : Int32) (h : f_isBook V b = 0) : CT l y_W_activate { frames := 7, cells := 1, slots := 6, locals := 122 } (pX Z) (qA (pX Z)) [.ref (al Z 0 0), .int b] V Y (.inl (some (.int 1))) V Y := by
  refine CT.ofW (cc := b_W_activate) (maxL := 3) (ret := some .int) (hh := [(0, 5, 8, 13), (0, 5, 11, 23)]) hZ (by decide) w_372 (Nat.le_of_ble_eq_true rfl) ?_
  intro p e s m below meth c C hr htab hlt
  refine gq_aload_n C d_W_activate_0 rfl ?_
  refine gq_iload_n C d_W_activate_1 rfl ?_
  refine gq_catV C (st := []) (fun _ h => h.elim) (c_H_activate_x1 l hadm Z hZ V Y b h) (qm (by decide) (by decide)) rfl rfl w_373 w_374 w_375 w_376 w_1 ⟨by decide, by decide, (by decide +kernel : (parseMethodDescriptor y_H_activate.desc).map (fun d => d.parameters.length) = some 1)⟩ (pre := []) (y0 := (0, 5, 8, 13)) (rest := [(0, 5, 11, 23)]) htab (names := []) ⟨fun z hz => absurd hz List.not_mem_nil, ⟨by decide, by decide⟩, by decide, w_243, w_257⟩ ⟨by decide, by decide⟩ ⟨by decide, by decide⟩ rfl (Nat.le_of_ble_eq_true rfl) d_W_activate_2 (fun ax => ?_)
  refine gq_astore_n C (lo' := [(2, .ref ax), (0, .ref (al Z 0 0)), (1, .int b)]) d_W_activate_8 rfl (by decide) rfl ?_
  refine gq_iconst C (v := 1) d_W_activate_9 (by decide) ?_
  exact gq_iretE C hr rfl rfl rfl (by decide) (by decide) d_W_activate_10

set_option maxHeartbeats 4000000 in
set_option maxRecDepth 100000 in
theorem c_W_activate_x2 (l : Launch) (hadm : ∀ e : Env, l.admits e → e.platform.stackTraces = false) (Z : qZ) (hZ : qok (pX Z)) (V : qV) (Y : qY) (b : Int32) (h1 : f_isBook V b = 1) (h : b ≤ V 9 0 2 ∨ ¬ V 9 0 3 < b) : CT l y_W_activate { frames := 7, cells := 1, slots := 6, locals := 122 } (pX Z) (qA (pX Z)) [.ref (al Z 0 0), .int b] V Y (.inl (some (.int 2))) V Y := by
  refine CT.ofW (cc := b_W_activate) (maxL := 3) (ret := some .int) (hh := [(0, 5, 8, 13), (0, 5, 11, 23)]) hZ (by decide) w_372 (Nat.le_of_ble_eq_true rfl) ?_
  intro p e s m below meth c C hr htab hlt
  refine gq_aload_n C d_W_activate_0 rfl ?_
  refine gq_iload_n C d_W_activate_1 rfl ?_
  refine gq_catV C (st := []) (fun _ h => h.elim) (c_H_activate_x2 l hadm Z hZ V Y b h1 h) (qm (by decide) (by decide)) rfl rfl w_373 w_374 w_375 w_376 w_1 ⟨by decide, by decide, (by decide +kernel : (parseMethodDescriptor y_H_activate.desc).map (fun d => d.parameters.length) = some 1)⟩ (pre := [(0, 5, 8, 13)]) (y0 := (0, 5, 11, 23)) (rest := []) htab (names := ["java/lang/IllegalArgumentException"]) ⟨fun z hz => by rw [List.mem_singleton.mp hz]; exact ⟨⟨by decide, by decide⟩, by decide, "java/lang/IllegalArgumentException", List.mem_cons_self, w_243, wn_1_0⟩, ⟨by decide, by decide⟩, by decide, w_335, w_342⟩ ⟨by decide, by decide⟩ ⟨by decide, by decide⟩ rfl (Nat.le_of_ble_eq_true rfl) d_W_activate_2 (fun ax => ?_)
  refine gq_astore_n C (lo' := [(2, .ref ax), (0, .ref (al Z 0 0)), (1, .int b)]) d_W_activate_11 rfl (by decide) rfl ?_
  refine gq_iconst C (v := 2) d_W_activate_12 (by decide) ?_
  exact gq_iretE C hr rfl rfl rfl (by decide) (by decide) d_W_activate_13

set_option maxHeartbeats 4000000 in
set_option maxRecDepth 100000 in
theorem c_W_tick (l : Launch) (Z : qZ) (hZ : qok (pX Z)) (V : qV) (Y : qY) (n : Int32) (h1 : ¬ n < 1) (h2 : n ≤ 500) : CT l y_W_tick { frames := 7, cells := 1, slots := 6, locals := 123 } (pX Z) (qA (pX Z)) [.ref (al Z 0 0), .int n, .ref (al Z 45 0)] V Y (.inl (some (.int 0))) (f_look (f_go5 V n)) (qy Y 45 0 0 (((V 8 4 0 + n * V 8 4 1) / 100).toInt64)) := by
  refine CT.ofW (cc := b_W_tick) (maxL := 4) (ret := some .int) (hh := [(0, 9, 12, 13)]) hZ (by decide) w_399 (Nat.le_of_ble_eq_true rfl) ?_
  intro p e s m below meth c C hr htab hlt
  refine gq_aload_n C d_W_tick_0 rfl ?_
  refine gq_iconst C (v := 0) d_W_tick_1 (by decide) ?_
  refine gq_aload_n C d_W_tick_2 rfl ?_
  refine gq_iload_n C d_W_tick_3 rfl ?_
  refine gq_callV C (st := [.int 0, .ref (al Z 45 0)]) (fun _ h => h) (c_H_tick l Z hZ V Y n h1 h2) (qm (by decide) (by decide)) rfl rfl w_400 w_401 w_402 w_403 w_1 ⟨by decide, by decide, (by decide +kernel : (parseMethodDescriptor y_H_tick.desc).map (fun d => d.parameters.length) = some 1)⟩ ⟨by decide, by decide⟩ ⟨by decide, by decide⟩ rfl (Nat.le_of_ble_eq_true rfl) d_W_tick_4 ?_
  refine gq_i2l C d_W_tick_7 ?_
  refine gq_last C (fun _ h => h) (g := 45) (j := 0) (a := 0) (t0 := 1) (qm (by decide) (by decide)) (fun _ => rfl) rfl rfl (by decide) (by decide) d_W_tick_8 ?_
  refine gq_goto C (tgt := 15) d_W_tick_9 rfl ?_
  refine gq_iconst C (v := 0) d_W_tick_15 (by decide) ?_
  exact gq_iretE C hr rfl rfl rfl (by decide) (by decide) d_W_tick_16

set_option maxHeartbeats 4000000 in
set_option maxRecDepth 100000 in
theorem c_W_tick_x (l : Launch) (hadm : ∀ e : Env, l.admits e → e.platform.stackTraces = false) (Z : qZ) (hZ : qok (pX Z)) (V : qV) (Y : qY) (n : Int32) (h : n < 1 ∨ ¬ n ≤ 500) : CT l y_W_tick { frames := 7, cells := 1, slots := 6, locals := 123 } (pX Z) (qA (pX Z)) [.ref (al Z 0 0), .int n, .ref (al Z 45 0)] V Y (.inl (some (.int 1))) V Y := by
  refine CT.ofW (cc := b_W_tick) (maxL := 4) (ret := some .int) (hh := [(0, 9, 12, 13)]) hZ (by decide) w_399 (Nat.le_of_ble_eq_true rfl) ?_
  intro p e s m below meth c C hr htab hlt
  refine gq_aload_n C d_W_tick_0 rfl ?_
  refine gq_iconst C (v := 0) d_W_tick_1 (by decide) ?_
  refine gq_aload_n C d_W_tick_2 rfl ?_
  refine gq_iload_n C d_W_tick_3 rfl ?_
  refine gq_catV C (st := [.int 0, .ref (al Z 45 0)]) (fun _ h => h.elim) (c_H_tick_x l hadm Z hZ V Y n h) (qm (by decide) (by decide)) rfl rfl w_400 w_401 w_402 w_403 w_1 ⟨by decide, by decide, (by decide +kernel : (parseMethodDescriptor y_H_tick.desc).map (fun d => d.parameters.length) = some 1)⟩ (pre := []) (y0 := (0, 9, 12, 13)) (rest := []) htab (names := []) ⟨fun z hz => absurd hz List.not_mem_nil, ⟨by decide, by decide⟩, by decide, w_243, w_257⟩ ⟨by decide, by decide⟩ ⟨by decide, by decide⟩ rfl (Nat.le_of_ble_eq_true rfl) d_W_tick_4 (fun ax => ?_)
  refine gq_astore_n C (lo' := [(3, .ref ax), (0, .ref (al Z 0 0)), (1, .int n), (2, .ref (al Z 45 0))]) d_W_tick_12 rfl (by decide) rfl ?_
  refine gq_iconst C (v := 1) d_W_tick_13 (by decide) ?_
  exact gq_iretE C hr rfl rfl rfl (by decide) (by decide) d_W_tick_14

set_option maxHeartbeats 4000000 in
set_option maxRecDepth 100000 in
theorem c_W_rate_desk (l : Launch) (Z : qZ) (hZ : qok (pX Z)) (V : qV) (Y : qY) (q : Int32) (h1 : f_isTD 4 = 1) (h2 : ¬ q < 99) (h3 : q ≤ 101) : CT l y_W_rate { frames := 7, cells := 1, slots := 6, locals := 119 } (pX Z) (qA (pX Z)) [.ref (al Z 0 0), .int 4, .int q] V Y (.inl (some (.int 0))) (qv V 8 4 1 q) Y := by
  refine CT.ofW (cc := b_W_rate) (maxL := 4) (ret := some .int) (hh := [(0, 6, 9, 13)]) hZ (by decide) w_411 (Nat.le_of_ble_eq_true rfl) ?_
  intro p e s m below meth c C hr htab hlt
  refine gq_aload_n C d_W_rate_0 rfl ?_
  refine gq_iload_n C d_W_rate_1 rfl ?_
  refine gq_iload_n C d_W_rate_2 rfl ?_
  refine gq_callV C (st := []) (fun _ h => h) (c_H_rate_desk l Z hZ V Y q h1 h2 h3) (qm (by decide) (by decide)) rfl rfl w_412 w_413 w_414 w_415 w_1 ⟨by decide, by decide, (by decide +kernel : (parseMethodDescriptor y_H_rate.desc).map (fun d => d.parameters.length) = some 2)⟩ ⟨by decide, by decide⟩ ⟨by decide, by decide⟩ rfl (Nat.le_of_ble_eq_true rfl) d_W_rate_3 ?_
  refine gq_goto C (tgt := 12) d_W_rate_6 rfl ?_
  refine gq_iconst C (v := 0) d_W_rate_12 (by decide) ?_
  exact gq_iretE C hr rfl rfl rfl (by decide) (by decide) d_W_rate_13

set_option maxHeartbeats 4000000 in
set_option maxRecDepth 100000 in
theorem c_W_rate (l : Launch) (Z : qZ) (hZ : qok (pX Z)) (V : qV) (Y : qY) (t : Nat) (ht : t < 4) (q : Int32) (h1 : f_isTD (nI t) = 1) (h2 : ¬ q < 99) (h3 : q ≤ 101) : CT l y_W_rate { frames := 7, cells := 1, slots := 6, locals := 119 } (pX Z) (qA (pX Z)) [.ref (al Z 0 0), .int (nI t), .int q] V Y (.inl (some (.int 0))) (qv V 8 t 1 q) Y := by
  refine CT.ofW (cc := b_W_rate) (maxL := 4) (ret := some .int) (hh := [(0, 6, 9, 13)]) hZ (by decide) w_411 (Nat.le_of_ble_eq_true rfl) ?_
  intro p e s m below meth c C hr htab hlt
  refine gq_aload_n C d_W_rate_0 rfl ?_
  refine gq_iload_n C d_W_rate_1 rfl ?_
  refine gq_iload_n C d_W_rate_2 rfl ?_
  refine gq_callV C (st := []) (fun _ h => h) (c_H_rate l Z hZ V Y t ht q h1 h2 h3) (qm (by decide) (by decide)) rfl rfl w_412 w_413 w_414 w_415 w_1 ⟨by decide, by decide, (by decide +kernel : (parseMethodDescriptor y_H_rate.desc).map (fun d => d.parameters.length) = some 2)⟩ ⟨by decide, by decide⟩ ⟨by decide, by decide⟩ rfl (Nat.le_of_ble_eq_true rfl) d_W_rate_3 ?_
  refine gq_goto C (tgt := 12) d_W_rate_6 rfl ?_
  refine gq_iconst C (v := 0) d_W_rate_12 (by decide) ?_
  exact gq_iretE C hr rfl rfl rfl (by decide) (by decide) d_W_rate_13

set_option maxHeartbeats 4000000 in
set_option maxRecDepth 100000 in
theorem c_W_rate_x (l : Launch) (hadm : ∀ e : Env, l.admits e → e.platform.stackTraces = false) (Z : qZ) (hZ : qok (pX Z)) (V : qV) (Y : qY) (w q : Int32) (h : f_isTD w = 0 ∨ q < 99 ∨ ¬ q ≤ 101) : CT l y_W_rate { frames := 7, cells := 1, slots := 6, locals := 119 } (pX Z) (qA (pX Z)) [.ref (al Z 0 0), .int w, .int q] V Y (.inl (some (.int 1))) V Y := by
  refine CT.ofW (cc := b_W_rate) (maxL := 4) (ret := some .int) (hh := [(0, 6, 9, 13)]) hZ (by decide) w_411 (Nat.le_of_ble_eq_true rfl) ?_
  intro p e s m below meth c C hr htab hlt
  refine gq_aload_n C d_W_rate_0 rfl ?_
  refine gq_iload_n C d_W_rate_1 rfl ?_
  refine gq_iload_n C d_W_rate_2 rfl ?_
  refine gq_catV C (st := []) (fun _ h => h.elim) (c_H_rate_x l hadm Z hZ V Y w q h) (qm (by decide) (by decide)) rfl rfl w_412 w_413 w_414 w_415 w_1 ⟨by decide, by decide, (by decide +kernel : (parseMethodDescriptor y_H_rate.desc).map (fun d => d.parameters.length) = some 2)⟩ (pre := []) (y0 := (0, 6, 9, 13)) (rest := []) htab (names := []) ⟨fun z hz => absurd hz List.not_mem_nil, ⟨by decide, by decide⟩, by decide, w_243, w_257⟩ ⟨by decide, by decide⟩ ⟨by decide, by decide⟩ rfl (Nat.le_of_ble_eq_true rfl) d_W_rate_3 (fun ax => ?_)
  refine gq_astore_n C (lo' := [(3, .ref ax), (0, .ref (al Z 0 0)), (1, .int w), (2, .int q)]) d_W_rate_9 rfl (by decide) rfl ?_
  refine gq_iconst C (v := 1) d_W_rate_10 (by decide) ?_
  exact gq_iretE C hr rfl rfl rfl (by decide) (by decide) d_W_rate_11

set_option maxHeartbeats 4000000 in
set_option maxRecDepth 100000 in
theorem c_W_ready_x1 (l : Launch) (hadm : ∀ e : Env, l.admits e → e.platform.stackTraces = false) (Z : qZ) (hZ : qok (pX Z)) (V : qV) (Y : qY) (t : Int32) (h : t < 0 ∨ ¬ t < 4) : CT l y_W_ready { frames := 8, cells := 1, slots := 6, locals := 138 } (pX Z) (qA (pX Z)) [.ref (al Z 0 0), .int t, .ref (al Z 45 0)] V Y (.inl (some (.int 1))) V Y := by
  refine CT.ofW (cc := b_W_ready) (maxL := 4) (ret := some .int) (hh := [(0, 9, 12, 13), (0, 9, 15, 23)]) hZ (by decide) w_431 (Nat.le_of_ble_eq_true rfl) ?_
  intro p e s m below meth c C hr htab hlt
  refine gq_aload_n C d_W_ready_0 rfl ?_
  refine gq_iconst C (v := 0) d_W_ready_1 (by decide) ?_
  refine gq_aload_n C d_W_ready_2 rfl ?_
  refine gq_iload_n C d_W_ready_3 rfl ?_
  refine gq_catV C (st := [.int 0, .ref (al Z 45 0)]) (fun _ h => h.elim) (c_H_ready_x1 l hadm Z hZ V Y t h) (qm (by decide) (by decide)) rfl rfl w_432 w_433 w_434 w_435 w_1 ⟨by decide, by decide, (by decide +kernel : (parseMethodDescriptor y_H_ready.desc).map (fun d => d.parameters.length) = some 1)⟩ (pre := []) (y0 := (0, 9, 12, 13)) (rest := [(0, 9, 15, 23)]) htab (names := []) ⟨fun z hz => absurd hz List.not_mem_nil, ⟨by decide, by decide⟩, by decide, w_243, w_257⟩ ⟨by decide, by decide⟩ ⟨by decide, by decide⟩ rfl (Nat.le_of_ble_eq_true rfl) d_W_ready_4 (fun ax => ?_)
  refine gq_astore_n C (lo' := [(3, .ref ax), (0, .ref (al Z 0 0)), (1, .int t), (2, .ref (al Z 45 0))]) d_W_ready_12 rfl (by decide) rfl ?_
  refine gq_iconst C (v := 1) d_W_ready_13 (by decide) ?_
  exact gq_iretE C hr rfl rfl rfl (by decide) (by decide) d_W_ready_14

set_option maxHeartbeats 4000000 in
set_option maxRecDepth 100000 in
theorem c_W_ask_x1 (l : Launch) (hadm : ∀ e : Env, l.admits e → e.platform.stackTraces = false) (Z : qZ) (hZ : qok (pX Z)) (V : qV) (Y : qY) (t : Int32) (h : t < 0 ∨ ¬ t < 4) : CT l y_W_ask { frames := 8, cells := 1, slots := 6, locals := 138 } (pX Z) (qA (pX Z)) [.ref (al Z 0 0), .int t, .ref (al Z 45 0)] V Y (.inl (some (.int 1))) V Y := by
  refine CT.ofW (cc := b_W_ask) (maxL := 4) (ret := some .int) (hh := [(0, 9, 12, 13)]) hZ (by decide) w_438 (Nat.le_of_ble_eq_true rfl) ?_
  intro p e s m below meth c C hr htab hlt
  refine gq_aload_n C d_W_ask_0 rfl ?_
  refine gq_iconst C (v := 0) d_W_ask_1 (by decide) ?_
  refine gq_aload_n C d_W_ask_2 rfl ?_
  refine gq_iload_n C d_W_ask_3 rfl ?_
  refine gq_catV C (st := [.int 0, .ref (al Z 45 0)]) (fun _ h => h.elim) (c_H_ask_x1 l hadm Z hZ V Y t h) (qm (by decide) (by decide)) rfl rfl w_439 w_440 w_441 w_442 w_1 ⟨by decide, by decide, (by decide +kernel : (parseMethodDescriptor y_H_ask.desc).map (fun d => d.parameters.length) = some 1)⟩ (pre := []) (y0 := (0, 9, 12, 13)) (rest := []) htab (names := []) ⟨fun z hz => absurd hz List.not_mem_nil, ⟨by decide, by decide⟩, by decide, w_243, w_257⟩ ⟨by decide, by decide⟩ ⟨by decide, by decide⟩ rfl (Nat.le_of_ble_eq_true rfl) d_W_ask_4 (fun ax => ?_)
  refine gq_astore_n C (lo' := [(3, .ref ax), (0, .ref (al Z 0 0)), (1, .int t), (2, .ref (al Z 45 0))]) d_W_ask_12 rfl (by decide) rfl ?_
  refine gq_iconst C (v := 1) d_W_ask_13 (by decide) ?_
  exact gq_iretE C hr rfl rfl rfl (by decide) (by decide) d_W_ask_14

set_option maxHeartbeats 4000000 in
set_option maxRecDepth 100000 in
theorem c_W_giveUp_x1 (l : Launch) (hadm : ∀ e : Env, l.admits e → e.platform.stackTraces = false) (Z : qZ) (hZ : qok (pX Z)) (V : qV) (Y : qY) (t : Int32) (h : t < 0 ∨ ¬ t < 4) : CT l y_W_giveUp { frames := 8, cells := 1, slots := 6, locals := 138 } (pX Z) (qA (pX Z)) [.ref (al Z 0 0), .int t] V Y (.inl (some (.int 1))) V Y := by
  refine CT.ofW (cc := b_W_giveUp) (maxL := 3) (ret := some .int) (hh := [(0, 5, 8, 13), (0, 5, 11, 23)]) hZ (by decide) w_450 (Nat.le_of_ble_eq_true rfl) ?_
  intro p e s m below meth c C hr htab hlt
  refine gq_aload_n C d_W_giveUp_0 rfl ?_
  refine gq_iload_n C d_W_giveUp_1 rfl ?_
  refine gq_catV C (st := []) (fun _ h => h.elim) (c_H_giveUp_x1 l hadm Z hZ V Y t h) (qm (by decide) (by decide)) rfl rfl w_451 w_452 w_453 w_454 w_1 ⟨by decide, by decide, (by decide +kernel : (parseMethodDescriptor y_H_giveUp.desc).map (fun d => d.parameters.length) = some 1)⟩ (pre := []) (y0 := (0, 5, 8, 13)) (rest := [(0, 5, 11, 23)]) htab (names := []) ⟨fun z hz => absurd hz List.not_mem_nil, ⟨by decide, by decide⟩, by decide, w_243, w_257⟩ ⟨by decide, by decide⟩ ⟨by decide, by decide⟩ rfl (Nat.le_of_ble_eq_true rfl) d_W_giveUp_2 (fun ax => ?_)
  refine gq_astore_n C (lo' := [(2, .ref ax), (0, .ref (al Z 0 0)), (1, .int t)]) d_W_giveUp_8 rfl (by decide) rfl ?_
  refine gq_iconst C (v := 1) d_W_giveUp_9 (by decide) ?_
  exact gq_iretE C hr rfl rfl rfl (by decide) (by decide) d_W_giveUp_10

set_option maxHeartbeats 4000000 in
set_option maxRecDepth 100000 in
theorem c_W_lease_x1 (l : Launch) (hadm : ∀ e : Env, l.admits e → e.platform.stackTraces = false) (Z : qZ) (hZ : qok (pX Z)) (V : qV) (Y : qY) (t : Int32) (h : t < 0 ∨ ¬ t < 4) : CT l y_W_lease { frames := 8, cells := 1, slots := 6, locals := 137 } (pX Z) (qA (pX Z)) [.ref (al Z 0 0), .int t, .ref (al Z 45 0)] V Y (.inl (some (.int 1))) V Y := by
  refine CT.ofW (cc := b_W_lease) (maxL := 4) (ret := some .int) (hh := [(0, 9, 12, 13)]) hZ (by decide) w_461 (Nat.le_of_ble_eq_true rfl) ?_
  intro p e s m below meth c C hr htab hlt
  refine gq_aload_n C d_W_lease_0 rfl ?_
  refine gq_iconst C (v := 0) d_W_lease_1 (by decide) ?_
  refine gq_aload_n C d_W_lease_2 rfl ?_
  refine gq_iload_n C d_W_lease_3 rfl ?_
  refine gq_catV C (st := [.int 0, .ref (al Z 45 0)]) (fun _ h => h.elim) (c_H_lease_x1 l hadm Z hZ V Y t h) (qm (by decide) (by decide)) rfl rfl w_462 w_463 w_464 w_465 w_1 ⟨by decide, by decide, (by decide +kernel : (parseMethodDescriptor y_H_lease.desc).map (fun d => d.parameters.length) = some 1)⟩ (pre := []) (y0 := (0, 9, 12, 13)) (rest := []) htab (names := []) ⟨fun z hz => absurd hz List.not_mem_nil, ⟨by decide, by decide⟩, by decide, w_243, w_257⟩ ⟨by decide, by decide⟩ ⟨by decide, by decide⟩ rfl (Nat.le_of_ble_eq_true rfl) d_W_lease_4 (fun ax => ?_)
  refine gq_astore_n C (lo' := [(3, .ref ax), (0, .ref (al Z 0 0)), (1, .int t), (2, .ref (al Z 45 0))]) d_W_lease_12 rfl (by decide) rfl ?_
  refine gq_iconst C (v := 1) d_W_lease_13 (by decide) ?_
  exact gq_iretE C hr rfl rfl rfl (by decide) (by decide) d_W_lease_14

set_option maxHeartbeats 4000000 in
set_option maxRecDepth 100000 in
theorem c_W_loaded_x1 (l : Launch) (hadm : ∀ e : Env, l.admits e → e.platform.stackTraces = false) (Z : qZ) (hZ : qok (pX Z)) (V : qV) (Y : qY) (t : Int32) (h : t < 0 ∨ ¬ t < 4) : CT l y_W_loaded { frames := 8, cells := 1, slots := 6, locals := 137 } (pX Z) (qA (pX Z)) [.ref (al Z 0 0), .int t, .ref (al Z 45 0)] V Y (.inl (some (.int 1))) V Y := by
  refine CT.ofW (cc := b_W_loaded) (maxL := 4) (ret := some .int) (hh := [(0, 9, 12, 13)]) hZ (by decide) w_472 (Nat.le_of_ble_eq_true rfl) ?_
  intro p e s m below meth c C hr htab hlt
  refine gq_aload_n C d_W_loaded_0 rfl ?_
  refine gq_iconst C (v := 0) d_W_loaded_1 (by decide) ?_
  refine gq_aload_n C d_W_loaded_2 rfl ?_
  refine gq_iload_n C d_W_loaded_3 rfl ?_
  refine gq_catV C (st := [.int 0, .ref (al Z 45 0)]) (fun _ h => h.elim) (c_H_loaded_x1 l hadm Z hZ V Y t h) (qm (by decide) (by decide)) rfl rfl w_473 w_474 w_475 w_476 w_1 ⟨by decide, by decide, (by decide +kernel : (parseMethodDescriptor y_H_loaded.desc).map (fun d => d.parameters.length) = some 1)⟩ (pre := []) (y0 := (0, 9, 12, 13)) (rest := []) htab (names := []) ⟨fun z hz => absurd hz List.not_mem_nil, ⟨by decide, by decide⟩, by decide, w_243, w_257⟩ ⟨by decide, by decide⟩ ⟨by decide, by decide⟩ rfl (Nat.le_of_ble_eq_true rfl) d_W_loaded_4 (fun ax => ?_)
  refine gq_astore_n C (lo' := [(3, .ref ax), (0, .ref (al Z 0 0)), (1, .int t), (2, .ref (al Z 45 0))]) d_W_loaded_12 rfl (by decide) rfl ?_
  refine gq_iconst C (v := 1) d_W_loaded_13 (by decide) ?_
  exact gq_iretE C hr rfl rfl rfl (by decide) (by decide) d_W_loaded_14

set_option maxHeartbeats 4000000 in
set_option maxRecDepth 100000 in
theorem c_W_open_x1 (l : Launch) (hadm : ∀ e : Env, l.admits e → e.platform.stackTraces = false) (Z : qZ) (hZ : qok (pX Z)) (V : qV) (Y : qY) (t : Int32) (h : t < 0 ∨ ¬ t < 4) : CT l y_W_open { frames := 8, cells := 1, slots := 6, locals := 139 } (pX Z) (qA (pX Z)) [.ref (al Z 0 0), .int t, .ref (al Z 45 0)] V Y (.inl (some (.int 1))) V Y := by
  refine CT.ofW (cc := b_W_open) (maxL := 4) (ret := some .int) (hh := [(0, 9, 12, 13), (0, 9, 15, 23)]) hZ (by decide) w_568 (Nat.le_of_ble_eq_true rfl) ?_
  intro p e s m below meth c C hr htab hlt
  refine gq_aload_n C d_W_open_0 rfl ?_
  refine gq_iconst C (v := 0) d_W_open_1 (by decide) ?_
  refine gq_aload_n C d_W_open_2 rfl ?_
  refine gq_iload_n C d_W_open_3 rfl ?_
  refine gq_catV C (st := [.int 0, .ref (al Z 45 0)]) (fun _ h => h.elim) (c_H_open_x1 l hadm Z hZ V Y t h) (qm (by decide) (by decide)) rfl rfl w_569 w_570 w_571 w_572 w_1 ⟨by decide, by decide, (by decide +kernel : (parseMethodDescriptor y_H_open.desc).map (fun d => d.parameters.length) = some 1)⟩ (pre := []) (y0 := (0, 9, 12, 13)) (rest := [(0, 9, 15, 23)]) htab (names := []) ⟨fun z hz => absurd hz List.not_mem_nil, ⟨by decide, by decide⟩, by decide, w_243, w_257⟩ ⟨by decide, by decide⟩ ⟨by decide, by decide⟩ rfl (Nat.le_of_ble_eq_true rfl) d_W_open_4 (fun ax => ?_)
  refine gq_astore_n C (lo' := [(3, .ref ax), (0, .ref (al Z 0 0)), (1, .int t), (2, .ref (al Z 45 0))]) d_W_open_12 rfl (by decide) rfl ?_
  refine gq_iconst C (v := 1) d_W_open_13 (by decide) ?_
  exact gq_iretE C hr rfl rfl rfl (by decide) (by decide) d_W_open_14

set_option maxHeartbeats 4000000 in
set_option maxRecDepth 100000 in
theorem c_W_fetch_x1 (l : Launch) (hadm : ∀ e : Env, l.admits e → e.platform.stackTraces = false) (Z : qZ) (hZ : qok (pX Z)) (V : qV) (Y : qY) (t : Int32) (h : t < 0 ∨ ¬ t < 4) : CT l y_W_fetch { frames := 8, cells := 1, slots := 6, locals := 139 } (pX Z) (qA (pX Z)) [.ref (al Z 0 0), .int t, .ref (al Z 45 0)] V Y (.inl (some (.int 1))) V Y := by
  refine CT.ofW (cc := b_W_fetch) (maxL := 4) (ret := some .int) (hh := [(0, 9, 12, 13)]) hZ (by decide) w_421 (Nat.le_of_ble_eq_true rfl) ?_
  intro p e s m below meth c C hr htab hlt
  refine gq_aload_n C d_W_fetch_0 rfl ?_
  refine gq_iconst C (v := 0) d_W_fetch_1 (by decide) ?_
  refine gq_aload_n C d_W_fetch_2 rfl ?_
  refine gq_iload_n C d_W_fetch_3 rfl ?_
  refine gq_catV C (st := [.int 0, .ref (al Z 45 0)]) (fun _ h => h.elim) (c_H_fetch_x1 l hadm Z hZ V Y t h) (qm (by decide) (by decide)) rfl rfl w_422 w_423 w_424 w_425 w_1 ⟨by decide, by decide, (by decide +kernel : (parseMethodDescriptor y_H_fetch.desc).map (fun d => d.parameters.length) = some 1)⟩ (pre := []) (y0 := (0, 9, 12, 13)) (rest := []) htab (names := []) ⟨fun z hz => absurd hz List.not_mem_nil, ⟨by decide, by decide⟩, by decide, w_243, w_257⟩ ⟨by decide, by decide⟩ ⟨by decide, by decide⟩ rfl (Nat.le_of_ble_eq_true rfl) d_W_fetch_4 (fun ax => ?_)
  refine gq_astore_n C (lo' := [(3, .ref ax), (0, .ref (al Z 0 0)), (1, .int t), (2, .ref (al Z 45 0))]) d_W_fetch_12 rfl (by decide) rfl ?_
  refine gq_iconst C (v := 1) d_W_fetch_13 (by decide) ?_
  exact gq_iretE C hr rfl rfl rfl (by decide) (by decide) d_W_fetch_14

set_option maxHeartbeats 4000000 in
set_option maxRecDepth 100000 in
theorem c_W_ready (l : Launch) (Z : qZ) (hZ : qok (pX Z)) (V : qV) (Y : qY) (t : Nat) (ht : t < 4) (h0 : ¬ V 7 t 1 = 0) (hc : ∃ q, q ≤ 40 ∧ V 12 0 4 = nI q) : CT l y_W_ready { frames := 8, cells := 1, slots := 6, locals := 138 } (pX Z) (qA (pX Z)) [.ref (al Z 0 0), .int (nI t), .ref (al Z 45 0)] V Y (.inl (some (.int 0))) (f_put (qv V 7 t 2 (V 7 t 1)) 3 (nI t) (V 7 t 1) 0) (qy Y 45 0 0 ((V 7 t 1).toInt64)) := by
  refine CT.ofW (cc := b_W_ready) (maxL := 4) (ret := some .int) (hh := [(0, 9, 12, 13), (0, 9, 15, 23)]) hZ (by decide) w_431 (Nat.le_of_ble_eq_true rfl) ?_
  intro p e s m below meth c C hr htab hlt
  refine gq_aload_n C d_W_ready_0 rfl ?_
  refine gq_iconst C (v := 0) d_W_ready_1 (by decide) ?_
  refine gq_aload_n C d_W_ready_2 rfl ?_
  refine gq_iload_n C d_W_ready_3 rfl ?_
  refine gq_callV C (st := [.int 0, .ref (al Z 45 0)]) (fun _ h => h) (c_H_ready l Z hZ V Y t ht h0 hc) (qm (by decide) (by decide)) rfl rfl w_432 w_433 w_434 w_435 w_1 ⟨by decide, by decide, (by decide +kernel : (parseMethodDescriptor y_H_ready.desc).map (fun d => d.parameters.length) = some 1)⟩ ⟨by decide, by decide⟩ ⟨by decide, by decide⟩ rfl (Nat.le_of_ble_eq_true rfl) d_W_ready_4 ?_
  refine gq_i2l C d_W_ready_7 ?_
  refine gq_last C (fun _ h => h) (g := 45) (j := 0) (a := 0) (t0 := 1) (qm (by decide) (by decide)) (fun _ => rfl) rfl rfl (by decide) (by decide) d_W_ready_8 ?_
  refine gq_goto C (tgt := 18) d_W_ready_9 rfl ?_
  refine gq_iconst C (v := 0) d_W_ready_18 (by decide) ?_
  exact gq_iretE C hr rfl rfl rfl (by decide) (by decide) d_W_ready_19

set_option maxHeartbeats 4000000 in
set_option maxRecDepth 100000 in
theorem c_W_ready_x2 (l : Launch) (hadm : ∀ e : Env, l.admits e → e.platform.stackTraces = false) (Z : qZ) (hZ : qok (pX Z)) (V : qV) (Y : qY) (t : Nat) (ht : t < 4) (h0 : V 7 t 1 = 0) : CT l y_W_ready { frames := 8, cells := 1, slots := 6, locals := 138 } (pX Z) (qA (pX Z)) [.ref (al Z 0 0), .int (nI t), .ref (al Z 45 0)] V Y (.inl (some (.int 2))) V Y := by
  refine CT.ofW (cc := b_W_ready) (maxL := 4) (ret := some .int) (hh := [(0, 9, 12, 13), (0, 9, 15, 23)]) hZ (by decide) w_431 (Nat.le_of_ble_eq_true rfl) ?_
  intro p e s m below meth c C hr htab hlt
  refine gq_aload_n C d_W_ready_0 rfl ?_
  refine gq_iconst C (v := 0) d_W_ready_1 (by decide) ?_
  refine gq_aload_n C d_W_ready_2 rfl ?_
  refine gq_iload_n C d_W_ready_3 rfl ?_
  refine gq_catV C (st := [.int 0, .ref (al Z 45 0)]) (fun _ h => h.elim) (c_H_ready_x2 l hadm Z hZ V Y t ht h0) (qm (by decide) (by decide)) rfl rfl w_432 w_433 w_434 w_435 w_1 ⟨by decide, by decide, (by decide +kernel : (parseMethodDescriptor y_H_ready.desc).map (fun d => d.parameters.length) = some 1)⟩ (pre := [(0, 9, 12, 13)]) (y0 := (0, 9, 15, 23)) (rest := []) htab (names := ["java/lang/IllegalArgumentException"]) ⟨fun z hz => by rw [List.mem_singleton.mp hz]; exact ⟨⟨by decide, by decide⟩, by decide, "java/lang/IllegalArgumentException", List.mem_cons_self, w_243, wn_1_0⟩, ⟨by decide, by decide⟩, by decide, w_335, w_342⟩ ⟨by decide, by decide⟩ ⟨by decide, by decide⟩ rfl (Nat.le_of_ble_eq_true rfl) d_W_ready_4 (fun ax => ?_)
  refine gq_astore_n C (lo' := [(3, .ref ax), (0, .ref (al Z 0 0)), (1, .int (nI t)), (2, .ref (al Z 45 0))]) d_W_ready_15 rfl (by decide) rfl ?_
  refine gq_iconst C (v := 2) d_W_ready_16 (by decide) ?_
  exact gq_iretE C hr rfl rfl rfl (by decide) (by decide) d_W_ready_17

set_option maxHeartbeats 4000000 in
set_option maxRecDepth 100000 in
theorem c_W_ask (l : Launch) (Z : qZ) (hZ : qok (pX Z)) (V : qV) (Y : qY) (t : Nat) (ht : t < 4) (hc : ∃ q, q ≤ 40 ∧ V 12 0 4 = nI q) : CT l y_W_ask { frames := 8, cells := 1, slots := 6, locals := 138 } (pX Z) (qA (pX Z)) [.ref (al Z 0 0), .int (nI t), .ref (al Z 45 0)] V Y (.inl (some (.int 0))) (f_put (f_begin V t) 1 (nI t) 0 (V 7 t 3 + 1)) (qy Y 45 0 0 ((V 7 t 3 + 1).toInt64)) := by
  refine CT.ofW (cc := b_W_ask) (maxL := 4) (ret := some .int) (hh := [(0, 9, 12, 13)]) hZ (by decide) w_438 (Nat.le_of_ble_eq_true rfl) ?_
  intro p e s m below meth c C hr htab hlt
  refine gq_aload_n C d_W_ask_0 rfl ?_
  refine gq_iconst C (v := 0) d_W_ask_1 (by decide) ?_
  refine gq_aload_n C d_W_ask_2 rfl ?_
  refine gq_iload_n C d_W_ask_3 rfl ?_
  refine gq_callV C (st := [.int 0, .ref (al Z 45 0)]) (fun _ h => h) (c_H_ask l Z hZ V Y t ht hc) (qm (by decide) (by decide)) rfl rfl w_439 w_440 w_441 w_442 w_1 ⟨by decide, by decide, (by decide +kernel : (parseMethodDescriptor y_H_ask.desc).map (fun d => d.parameters.length) = some 1)⟩ ⟨by decide, by decide⟩ ⟨by decide, by decide⟩ rfl (Nat.le_of_ble_eq_true rfl) d_W_ask_4 ?_
  refine gq_i2l C d_W_ask_7 ?_
  refine gq_last C (fun _ h => h) (g := 45) (j := 0) (a := 0) (t0 := 1) (qm (by decide) (by decide)) (fun _ => rfl) rfl rfl (by decide) (by decide) d_W_ask_8 ?_
  refine gq_goto C (tgt := 15) d_W_ask_9 rfl ?_
  refine gq_iconst C (v := 0) d_W_ask_15 (by decide) ?_
  exact gq_iretE C hr rfl rfl rfl (by decide) (by decide) d_W_ask_16

set_option maxHeartbeats 4000000 in
set_option maxRecDepth 100000 in
theorem c_W_giveUp (l : Launch) (Z : qZ) (hZ : qok (pX Z)) (V : qV) (Y : qY) (t : Nat) (ht : t < 4) (h0 : ¬ V 7 t 3 = 0) (h5 : V 7 t 5 = 0) (hc : ∃ q, q ≤ 40 ∧ V 12 0 4 = nI q) : CT l y_W_giveUp { frames := 8, cells := 1, slots := 6, locals := 138 } (pX Z) (qA (pX Z)) [.ref (al Z 0 0), .int (nI t)] V Y (.inl (some (.int 0))) (f_put (qv (qv V 7 t 5 1) 7 t 6 0) 4 (nI t) 0 (V 7 t 3)) Y := by
  refine CT.ofW (cc := b_W_giveUp) (maxL := 3) (ret := some .int) (hh := [(0, 5, 8, 13), (0, 5, 11, 23)]) hZ (by decide) w_450 (Nat.le_of_ble_eq_true rfl) ?_
  intro p e s m below meth c C hr htab hlt
  refine gq_aload_n C d_W_giveUp_0 rfl ?_
  refine gq_iload_n C d_W_giveUp_1 rfl ?_
  refine gq_callV C (st := []) (fun _ h => h) (c_H_giveUp l Z hZ V Y t ht h0 h5 hc) (qm (by decide) (by decide)) rfl rfl w_451 w_452 w_453 w_454 w_1 ⟨by decide, by decide, (by decide +kernel : (parseMethodDescriptor y_H_giveUp.desc).map (fun d => d.parameters.length) = some 1)⟩ ⟨by decide, by decide⟩ ⟨by decide, by decide⟩ rfl (Nat.le_of_ble_eq_true rfl) d_W_giveUp_2 ?_
  refine gq_goto C (tgt := 14) d_W_giveUp_5 rfl ?_
  refine gq_iconst C (v := 0) d_W_giveUp_14 (by decide) ?_
  exact gq_iretE C hr rfl rfl rfl (by decide) (by decide) d_W_giveUp_15

set_option maxHeartbeats 4000000 in
set_option maxRecDepth 100000 in
theorem c_W_giveUp_x2 (l : Launch) (hadm : ∀ e : Env, l.admits e → e.platform.stackTraces = false) (Z : qZ) (hZ : qok (pX Z)) (V : qV) (Y : qY) (t : Nat) (ht : t < 4) (h : V 7 t 3 = 0 ∨ ¬ V 7 t 5 = 0) : CT l y_W_giveUp { frames := 8, cells := 1, slots := 6, locals := 138 } (pX Z) (qA (pX Z)) [.ref (al Z 0 0), .int (nI t)] V Y (.inl (some (.int 2))) V Y := by
  refine CT.ofW (cc := b_W_giveUp) (maxL := 3) (ret := some .int) (hh := [(0, 5, 8, 13), (0, 5, 11, 23)]) hZ (by decide) w_450 (Nat.le_of_ble_eq_true rfl) ?_
  intro p e s m below meth c C hr htab hlt
  refine gq_aload_n C d_W_giveUp_0 rfl ?_
  refine gq_iload_n C d_W_giveUp_1 rfl ?_
  refine gq_catV C (st := []) (fun _ h => h.elim) (c_H_giveUp_x2 l hadm Z hZ V Y t ht h) (qm (by decide) (by decide)) rfl rfl w_451 w_452 w_453 w_454 w_1 ⟨by decide, by decide, (by decide +kernel : (parseMethodDescriptor y_H_giveUp.desc).map (fun d => d.parameters.length) = some 1)⟩ (pre := [(0, 5, 8, 13)]) (y0 := (0, 5, 11, 23)) (rest := []) htab (names := ["java/lang/IllegalArgumentException"]) ⟨fun z hz => by rw [List.mem_singleton.mp hz]; exact ⟨⟨by decide, by decide⟩, by decide, "java/lang/IllegalArgumentException", List.mem_cons_self, w_243, wn_1_0⟩, ⟨by decide, by decide⟩, by decide, w_335, w_342⟩ ⟨by decide, by decide⟩ ⟨by decide, by decide⟩ rfl (Nat.le_of_ble_eq_true rfl) d_W_giveUp_2 (fun ax => ?_)
  refine gq_astore_n C (lo' := [(2, .ref ax), (0, .ref (al Z 0 0)), (1, .int (nI t))]) d_W_giveUp_11 rfl (by decide) rfl ?_
  refine gq_iconst C (v := 2) d_W_giveUp_12 (by decide) ?_
  exact gq_iretE C hr rfl rfl rfl (by decide) (by decide) d_W_giveUp_13

set_option maxHeartbeats 4000000 in
set_option maxRecDepth 100000 in
theorem c_W_lease (l : Launch) (Z : qZ) (hZ : qok (pX Z)) (V : qV) (Y : qY) (t : Nat) (ht : t < 4) : CT l y_W_lease { frames := 8, cells := 1, slots := 6, locals := 137 } (pX Z) (qA (pX Z)) [.ref (al Z 0 0), .int (nI t), .ref (al Z 45 0)] V Y (.inl (some (.int 0))) V (qy Y 45 0 0 ((f_lease V t).toInt64)) := by
  refine CT.ofW (cc := b_W_lease) (maxL := 4) (ret := some .int) (hh := [(0, 9, 12, 13)]) hZ (by decide) w_461 (Nat.le_of_ble_eq_true rfl) ?_
  intro p e s m below meth c C hr htab hlt
  refine gq_aload_n C d_W_lease_0 rfl ?_
  refine gq_iconst C (v := 0) d_W_lease_1 (by decide) ?_
  refine gq_aload_n C d_W_lease_2 rfl ?_
  refine gq_iload_n C d_W_lease_3 rfl ?_
  refine gq_callV C (st := [.int 0, .ref (al Z 45 0)]) (fun _ h => h.elim) (c_H_lease l Z hZ V Y t ht) (qm (by decide) (by decide)) rfl rfl w_462 w_463 w_464 w_465 w_1 ⟨by decide, by decide, (by decide +kernel : (parseMethodDescriptor y_H_lease.desc).map (fun d => d.parameters.length) = some 1)⟩ ⟨by decide, by decide⟩ ⟨by decide, by decide⟩ rfl (Nat.le_of_ble_eq_true rfl) d_W_lease_4 ?_
  refine gq_i2l C d_W_lease_7 ?_
  refine gq_last C (fun _ h => h) (g := 45) (j := 0) (a := 0) (t0 := 1) (qm (by decide) (by decide)) (fun _ => rfl) rfl rfl (by decide) (by decide) d_W_lease_8 ?_
  refine gq_goto C (tgt := 15) d_W_lease_9 rfl ?_
  refine gq_iconst C (v := 0) d_W_lease_15 (by decide) ?_
  exact gq_iretE C hr rfl rfl rfl (by decide) (by decide) d_W_lease_16

set_option maxHeartbeats 4000000 in
set_option maxRecDepth 100000 in
theorem c_W_loaded (l : Launch) (Z : qZ) (hZ : qok (pX Z)) (V : qV) (Y : qY) (t : Nat) (ht : t < 4) : CT l y_W_loaded { frames := 8, cells := 1, slots := 6, locals := 137 } (pX Z) (qA (pX Z)) [.ref (al Z 0 0), .int (nI t), .ref (al Z 45 0)] V Y (.inl (some (.int 0))) V (qy Y 45 0 0 ((V 7 t 1).toInt64)) := by
  refine CT.ofW (cc := b_W_loaded) (maxL := 4) (ret := some .int) (hh := [(0, 9, 12, 13)]) hZ (by decide) w_472 (Nat.le_of_ble_eq_true rfl) ?_
  intro p e s m below meth c C hr htab hlt
  refine gq_aload_n C d_W_loaded_0 rfl ?_
  refine gq_iconst C (v := 0) d_W_loaded_1 (by decide) ?_
  refine gq_aload_n C d_W_loaded_2 rfl ?_
  refine gq_iload_n C d_W_loaded_3 rfl ?_
  refine gq_callV C (st := [.int 0, .ref (al Z 45 0)]) (fun _ h => h.elim) (c_H_loaded l Z hZ V Y t ht) (qm (by decide) (by decide)) rfl rfl w_473 w_474 w_475 w_476 w_1 ⟨by decide, by decide, (by decide +kernel : (parseMethodDescriptor y_H_loaded.desc).map (fun d => d.parameters.length) = some 1)⟩ ⟨by decide, by decide⟩ ⟨by decide, by decide⟩ rfl (Nat.le_of_ble_eq_true rfl) d_W_loaded_4 ?_
  refine gq_i2l C d_W_loaded_7 ?_
  refine gq_last C (fun _ h => h) (g := 45) (j := 0) (a := 0) (t0 := 1) (qm (by decide) (by decide)) (fun _ => rfl) rfl rfl (by decide) (by decide) d_W_loaded_8 ?_
  refine gq_goto C (tgt := 15) d_W_loaded_9 rfl ?_
  refine gq_iconst C (v := 0) d_W_loaded_15 (by decide) ?_
  exact gq_iretE C hr rfl rfl rfl (by decide) (by decide) d_W_loaded_16

set_option maxHeartbeats 4000000 in
set_option maxRecDepth 100000 in
theorem c_W_restart_desk (l : Launch) (Z : qZ) (hZ : qok (pX Z)) (V : qV) (Y : qY) (h1 : f_isTD 4 = 1) : CT l y_W_restart { frames := 7, cells := 1, slots := 6, locals := 117 } (pX Z) (qA (pX Z)) [.ref (al Z 0 0), .int 4] V Y (.inl (some (.int 0))) (f_again V) Y := by
  refine CT.ofW (cc := b_W_restart) (maxL := 3) (ret := some .int) (hh := [(0, 5, 8, 13)]) hZ (by decide) w_642 (Nat.le_of_ble_eq_true rfl) ?_
  intro p e s m below meth c C hr htab hlt
  refine gq_aload_n C d_W_restart_0 rfl ?_
  refine gq_iload_n C d_W_restart_1 rfl ?_
  refine gq_callV C (st := []) (fun _ h => h) (c_H_restart_desk l Z hZ V Y h1) (qm (by decide) (by decide)) rfl rfl w_643 w_644 w_645 w_646 w_1 ⟨by decide, by decide, (by decide +kernel : (parseMethodDescriptor y_H_restart.desc).map (fun d => d.parameters.length) = some 1)⟩ ⟨by decide, by decide⟩ ⟨by decide, by decide⟩ rfl (Nat.le_of_ble_eq_true rfl) d_W_restart_2 ?_
  refine gq_goto C (tgt := 11) d_W_restart_5 rfl ?_
  refine gq_iconst C (v := 0) d_W_restart_11 (by decide) ?_
  exact gq_iretE C hr rfl rfl rfl (by decide) (by decide) d_W_restart_12

set_option maxHeartbeats 4000000 in
set_option maxRecDepth 100000 in
theorem c_W_restart (l : Launch) (Z : qZ) (hZ : qok (pX Z)) (V : qV) (Y : qY) (t : Nat) (ht : t < 4) (h1 : f_isTD (nI t) = 1) : CT l y_W_restart { frames := 7, cells := 1, slots := 6, locals := 117 } (pX Z) (qA (pX Z)) [.ref (al Z 0 0), .int (nI t)] V Y (.inl (some (.int 0))) (qv (qv V 7 t 5 1) 7 t 6 0) Y := by
  refine CT.ofW (cc := b_W_restart) (maxL := 3) (ret := some .int) (hh := [(0, 5, 8, 13)]) hZ (by decide) w_642 (Nat.le_of_ble_eq_true rfl) ?_
  intro p e s m below meth c C hr htab hlt
  refine gq_aload_n C d_W_restart_0 rfl ?_
  refine gq_iload_n C d_W_restart_1 rfl ?_
  refine gq_callV C (st := []) (fun _ h => h) (c_H_restart l Z hZ V Y t ht h1) (qm (by decide) (by decide)) rfl rfl w_643 w_644 w_645 w_646 w_1 ⟨by decide, by decide, (by decide +kernel : (parseMethodDescriptor y_H_restart.desc).map (fun d => d.parameters.length) = some 1)⟩ ⟨by decide, by decide⟩ ⟨by decide, by decide⟩ rfl (Nat.le_of_ble_eq_true rfl) d_W_restart_2 ?_
  refine gq_goto C (tgt := 11) d_W_restart_5 rfl ?_
  refine gq_iconst C (v := 0) d_W_restart_11 (by decide) ?_
  exact gq_iretE C hr rfl rfl rfl (by decide) (by decide) d_W_restart_12

set_option maxHeartbeats 4000000 in
set_option maxRecDepth 100000 in
theorem c_W_restart_x (l : Launch) (hadm : ∀ e : Env, l.admits e → e.platform.stackTraces = false) (Z : qZ) (hZ : qok (pX Z)) (V : qV) (Y : qY) (w : Int32) (h : f_isTD w = 0) : CT l y_W_restart { frames := 7, cells := 1, slots := 6, locals := 117 } (pX Z) (qA (pX Z)) [.ref (al Z 0 0), .int w] V Y (.inl (some (.int 1))) V Y := by
  refine CT.ofW (cc := b_W_restart) (maxL := 3) (ret := some .int) (hh := [(0, 5, 8, 13)]) hZ (by decide) w_642 (Nat.le_of_ble_eq_true rfl) ?_
  intro p e s m below meth c C hr htab hlt
  refine gq_aload_n C d_W_restart_0 rfl ?_
  refine gq_iload_n C d_W_restart_1 rfl ?_
  refine gq_catV C (st := []) (fun _ h => h.elim) (c_H_restart_x l hadm Z hZ V Y w h) (qm (by decide) (by decide)) rfl rfl w_643 w_644 w_645 w_646 w_1 ⟨by decide, by decide, (by decide +kernel : (parseMethodDescriptor y_H_restart.desc).map (fun d => d.parameters.length) = some 1)⟩ (pre := []) (y0 := (0, 5, 8, 13)) (rest := []) htab (names := []) ⟨fun z hz => absurd hz List.not_mem_nil, ⟨by decide, by decide⟩, by decide, w_243, w_257⟩ ⟨by decide, by decide⟩ ⟨by decide, by decide⟩ rfl (Nat.le_of_ble_eq_true rfl) d_W_restart_2 (fun ax => ?_)
  refine gq_astore_n C (lo' := [(2, .ref ax), (0, .ref (al Z 0 0)), (1, .int w)]) d_W_restart_8 rfl (by decide) rfl ?_
  refine gq_iconst C (v := 1) d_W_restart_9 (by decide) ?_
  exact gq_iretE C hr rfl rfl rfl (by decide) (by decide) d_W_restart_10

set_option maxHeartbeats 4000000 in
set_option maxRecDepth 100000 in
theorem c_W_deliver_x1 (l : Launch) (hadm : ∀ e : Env, l.admits e → e.platform.stackTraces = false) (Z : qZ) (hZ : qok (pX Z)) (V : qV) (Y : qY) (i : Int32) (h : i < 0 ∨ ¬ i < V 12 0 4) : CT l y_W_deliver { frames := 8, cells := 1, slots := 6, locals := 154 } (pX Z) (qA (pX Z)) [.ref (al Z 0 0), .int i] V Y (.inl (some (.int 1))) V Y := by
  refine CT.ofW (cc := b_W_deliver) (maxL := 3) (ret := some .int) (hh := [(0, 5, 8, 57)]) hZ (by decide) w_479 (Nat.le_of_ble_eq_true rfl) ?_
  intro p e s m below meth c C hr htab hlt
  refine gq_aload_n C d_W_deliver_0 rfl ?_
  refine gq_iload_n C d_W_deliver_1 rfl ?_
  refine gq_catV C (st := []) (fun _ h => h.elim) (c_H_deliver_x1 l hadm Z hZ V Y i h) (qm (by decide) (by decide)) rfl rfl w_481 w_482 w_483 w_484 w_1 ⟨by decide, by decide, (by decide +kernel : (parseMethodDescriptor y_H_deliver.desc).map (fun d => d.parameters.length) = some 1)⟩ (pre := []) (y0 := (0, 5, 8, 57)) (rest := []) htab (names := []) ⟨fun z hz => absurd hz List.not_mem_nil, ⟨by decide, by decide⟩, by decide, w_480, w_491⟩ ⟨by decide, by decide⟩ ⟨by decide, by decide⟩ rfl (Nat.le_of_ble_eq_true rfl) d_W_deliver_2 (fun ax => ?_)
  refine gq_astore_n C (lo' := [(2, .ref ax), (0, .ref (al Z 0 0)), (1, .int i)]) d_W_deliver_8 rfl (by decide) rfl ?_
  refine gq_iconst C (v := 1) d_W_deliver_9 (by decide) ?_
  exact gq_iretE C hr rfl rfl rfl (by decide) (by decide) d_W_deliver_10

set_option maxHeartbeats 4000000 in
set_option maxRecDepth 100000 in
theorem c_W_lose_x1 (l : Launch) (hadm : ∀ e : Env, l.admits e → e.platform.stackTraces = false) (Z : qZ) (hZ : qok (pX Z)) (V : qV) (Y : qY) (i : Int32) (h : i < 0 ∨ ¬ i < V 12 0 4) : CT l y_W_lose { frames := 8, cells := 1, slots := 6, locals := 138 } (pX Z) (qA (pX Z)) [.ref (al Z 0 0), .int i] V Y (.inl (some (.int 1))) V Y := by
  refine CT.ofW (cc := b_W_lose) (maxL := 3) (ret := some .int) (hh := [(0, 5, 8, 57)]) hZ (by decide) w_546 (Nat.le_of_ble_eq_true rfl) ?_
  intro p e s m below meth c C hr htab hlt
  refine gq_aload_n C d_W_lose_0 rfl ?_
  refine gq_iload_n C d_W_lose_1 rfl ?_
  refine gq_catV C (st := []) (fun _ h => h.elim) (c_H_lose_x1 l hadm Z hZ V Y i h) (qm (by decide) (by decide)) rfl rfl w_547 w_548 w_549 w_550 w_1 ⟨by decide, by decide, (by decide +kernel : (parseMethodDescriptor y_H_lose.desc).map (fun d => d.parameters.length) = some 1)⟩ (pre := []) (y0 := (0, 5, 8, 57)) (rest := []) htab (names := []) ⟨fun z hz => absurd hz List.not_mem_nil, ⟨by decide, by decide⟩, by decide, w_480, w_491⟩ ⟨by decide, by decide⟩ ⟨by decide, by decide⟩ rfl (Nat.le_of_ble_eq_true rfl) d_W_lose_2 (fun ax => ?_)
  refine gq_astore_n C (lo' := [(2, .ref ax), (0, .ref (al Z 0 0)), (1, .int i)]) d_W_lose_8 rfl (by decide) rfl ?_
  refine gq_iconst C (v := 1) d_W_lose_9 (by decide) ?_
  exact gq_iretE C hr rfl rfl rfl (by decide) (by decide) d_W_lose_10

set_option maxHeartbeats 4000000 in
set_option maxRecDepth 100000 in
theorem c_W_twin_x1 (l : Launch) (hadm : ∀ e : Env, l.admits e → e.platform.stackTraces = false) (Z : qZ) (hZ : qok (pX Z)) (V : qV) (Y : qY) (i : Int32) (h : i < 0 ∨ ¬ i < V 12 0 4) : CT l y_W_twin { frames := 8, cells := 1, slots := 6, locals := 138 } (pX Z) (qA (pX Z)) [.ref (al Z 0 0), .int i] V Y (.inl (some (.int 1))) V Y := by
  refine CT.ofW (cc := b_W_twin) (maxL := 3) (ret := some .int) (hh := [(0, 5, 8, 57), (0, 5, 11, 23)]) hZ (by decide) w_553 (Nat.le_of_ble_eq_true rfl) ?_
  intro p e s m below meth c C hr htab hlt
  refine gq_aload_n C d_W_twin_0 rfl ?_
  refine gq_iload_n C d_W_twin_1 rfl ?_
  refine gq_catV C (st := []) (fun _ h => h.elim) (c_H_twin_x1 l hadm Z hZ V Y i h) (qm (by decide) (by decide)) rfl rfl w_554 w_555 w_556 w_557 w_1 ⟨by decide, by decide, (by decide +kernel : (parseMethodDescriptor y_H_twin.desc).map (fun d => d.parameters.length) = some 1)⟩ (pre := []) (y0 := (0, 5, 8, 57)) (rest := [(0, 5, 11, 23)]) htab (names := []) ⟨fun z hz => absurd hz List.not_mem_nil, ⟨by decide, by decide⟩, by decide, w_480, w_491⟩ ⟨by decide, by decide⟩ ⟨by decide, by decide⟩ rfl (Nat.le_of_ble_eq_true rfl) d_W_twin_2 (fun ax => ?_)
  refine gq_astore_n C (lo' := [(2, .ref ax), (0, .ref (al Z 0 0)), (1, .int i)]) d_W_twin_8 rfl (by decide) rfl ?_
  refine gq_iconst C (v := 1) d_W_twin_9 (by decide) ?_
  exact gq_iretE C hr rfl rfl rfl (by decide) (by decide) d_W_twin_10

set_option maxHeartbeats 4000000 in
set_option maxRecDepth 100000 in
theorem c_W_letter_x1 (l : Launch) (hadm : ∀ e : Env, l.admits e → e.platform.stackTraces = false) (Z : qZ) (hZ : qok (pX Z)) (V : qV) (Y : qY) (i : Int32) (h : i < 0 ∨ ¬ i < V 12 0 4) (w : Int32) : CT l y_W_letter { frames := 8, cells := 1, slots := 6, locals := 139 } (pX Z) (qA (pX Z)) [.ref (al Z 0 0), .int i, .int w, .ref (al Z 45 0)] V Y (.inl (some (.int 1))) V Y := by
  refine CT.ofW (cc := b_W_letter) (maxL := 5) (ret := some .int) (hh := [(0, 10, 13, 57), (0, 10, 17, 13)]) hZ (by decide) w_561 (Nat.le_of_ble_eq_true rfl) ?_
  intro p e s m below meth c C hr htab hlt
  refine gq_aload_n C d_W_letter_0 rfl ?_
  refine gq_iconst C (v := 0) d_W_letter_1 (by decide) ?_
  refine gq_aload_n C d_W_letter_2 rfl ?_
  refine gq_iload_n C d_W_letter_3 rfl ?_
  refine gq_iload_n C d_W_letter_4 rfl ?_
  refine gq_catV C (st := [.int 0, .ref (al Z 45 0)]) (fun _ h => h.elim) (c_H_letter_x1 l hadm Z hZ V Y i h w) (qm (by decide) (by decide)) rfl rfl w_562 w_563 w_564 w_565 w_1 ⟨by decide, by decide, (by decide +kernel : (parseMethodDescriptor y_H_letter.desc).map (fun d => d.parameters.length) = some 2)⟩ (pre := []) (y0 := (0, 10, 13, 57)) (rest := [(0, 10, 17, 13)]) htab (names := []) ⟨fun z hz => absurd hz List.not_mem_nil, ⟨by decide, by decide⟩, by decide, w_480, w_491⟩ ⟨by decide, by decide⟩ ⟨by decide, by decide⟩ rfl (Nat.le_of_ble_eq_true rfl) d_W_letter_5 (fun ax => ?_)
  refine gq_astore C (lo' := [(4, .ref ax), (0, .ref (al Z 0 0)), (1, .int i), (2, .int w), (3, .ref (al Z 45 0))]) d_W_letter_13 (by decide) rfl ?_
  refine gq_iconst C (v := 1) d_W_letter_15 (by decide) ?_
  exact gq_iretE C hr rfl rfl rfl (by decide) (by decide) d_W_letter_16

set_option maxHeartbeats 4000000 in
set_option maxRecDepth 100000 in
theorem c_W_lose (l : Launch) (Z : qZ) (hZ : qok (pX Z)) (V : qV) (Y : qY) (i n : Nat) (hi : i < n) (hn : n ≤ 40) (h4 : V 12 0 4 = nI n) : CT l y_W_lose { frames := 8, cells := 1, slots := 6, locals := 138 } (pX Z) (qA (pX Z)) [.ref (al Z 0 0), .int (nI i)] V Y (.inl (some (.int 0))) (f_takeOut V i n) Y := by
  refine CT.ofW (cc := b_W_lose) (maxL := 3) (ret := some .int) (hh := [(0, 5, 8, 57)]) hZ (by decide) w_546 (Nat.le_of_ble_eq_true rfl) ?_
  intro p e s m below meth c C hr htab hlt
  refine gq_aload_n C d_W_lose_0 rfl ?_
  refine gq_iload_n C d_W_lose_1 rfl ?_
  refine gq_callV C (st := []) (fun _ h => h) (c_H_lose l Z hZ V Y i n hi hn h4) (qm (by decide) (by decide)) rfl rfl w_547 w_548 w_549 w_550 w_1 ⟨by decide, by decide, (by decide +kernel : (parseMethodDescriptor y_H_lose.desc).map (fun d => d.parameters.length) = some 1)⟩ ⟨by decide, by decide⟩ ⟨by decide, by decide⟩ rfl (Nat.le_of_ble_eq_true rfl) d_W_lose_2 ?_
  refine gq_goto C (tgt := 11) d_W_lose_5 rfl ?_
  refine gq_iconst C (v := 0) d_W_lose_11 (by decide) ?_
  exact gq_iretE C hr rfl rfl rfl (by decide) (by decide) d_W_lose_12

set_option maxHeartbeats 4000000 in
set_option maxRecDepth 100000 in
theorem c_W_twin (l : Launch) (Z : qZ) (hZ : qok (pX Z)) (V : qV) (Y : qY) (i n : Nat) (hi : i < n) (hn : n ≤ 40) (h4 : V 12 0 4 = nI n) (hf : n < 40) : CT l y_W_twin { frames := 8, cells := 1, slots := 6, locals := 138 } (pX Z) (qA (pX Z)) [.ref (al Z 0 0), .int (nI i)] V Y (.inl (some (.int 0))) (f_put V (V 13 0 i) (V 13 1 i) (V 13 2 i) (V 13 3 i)) Y := by
  refine CT.ofW (cc := b_W_twin) (maxL := 3) (ret := some .int) (hh := [(0, 5, 8, 57), (0, 5, 11, 23)]) hZ (by decide) w_553 (Nat.le_of_ble_eq_true rfl) ?_
  intro p e s m below meth c C hr htab hlt
  refine gq_aload_n C d_W_twin_0 rfl ?_
  refine gq_iload_n C d_W_twin_1 rfl ?_
  refine gq_callV C (st := []) (fun _ h => h) (c_H_twin l Z hZ V Y i n hi hn h4 hf) (qm (by decide) (by decide)) rfl rfl w_554 w_555 w_556 w_557 w_1 ⟨by decide, by decide, (by decide +kernel : (parseMethodDescriptor y_H_twin.desc).map (fun d => d.parameters.length) = some 1)⟩ ⟨by decide, by decide⟩ ⟨by decide, by decide⟩ rfl (Nat.le_of_ble_eq_true rfl) d_W_twin_2 ?_
  refine gq_goto C (tgt := 14) d_W_twin_5 rfl ?_
  refine gq_iconst C (v := 0) d_W_twin_14 (by decide) ?_
  exact gq_iretE C hr rfl rfl rfl (by decide) (by decide) d_W_twin_15

set_option maxHeartbeats 4000000 in
set_option maxRecDepth 100000 in
theorem c_W_twin_x2 (l : Launch) (hadm : ∀ e : Env, l.admits e → e.platform.stackTraces = false) (Z : qZ) (hZ : qok (pX Z)) (V : qV) (Y : qY) (i n : Nat) (hi : i < n) (hn : n ≤ 40) (h4 : V 12 0 4 = nI n) (hf : n = 40) : CT l y_W_twin { frames := 8, cells := 1, slots := 6, locals := 138 } (pX Z) (qA (pX Z)) [.ref (al Z 0 0), .int (nI i)] V Y (.inl (some (.int 2))) V Y := by
  refine CT.ofW (cc := b_W_twin) (maxL := 3) (ret := some .int) (hh := [(0, 5, 8, 57), (0, 5, 11, 23)]) hZ (by decide) w_553 (Nat.le_of_ble_eq_true rfl) ?_
  intro p e s m below meth c C hr htab hlt
  refine gq_aload_n C d_W_twin_0 rfl ?_
  refine gq_iload_n C d_W_twin_1 rfl ?_
  refine gq_catV C (st := []) (fun _ h => h.elim) (c_H_twin_x2 l hadm Z hZ V Y i n hi hn h4 hf) (qm (by decide) (by decide)) rfl rfl w_554 w_555 w_556 w_557 w_1 ⟨by decide, by decide, (by decide +kernel : (parseMethodDescriptor y_H_twin.desc).map (fun d => d.parameters.length) = some 1)⟩ (pre := [(0, 5, 8, 57)]) (y0 := (0, 5, 11, 23)) (rest := []) htab (names := ["java/lang/IndexOutOfBoundsException"]) ⟨fun z hz => by rw [List.mem_singleton.mp hz]; exact ⟨⟨by decide, by decide⟩, by decide, "java/lang/IndexOutOfBoundsException", List.mem_cons_self, w_480, wn_1_2⟩, ⟨by decide, by decide⟩, by decide, w_335, w_342⟩ ⟨by decide, by decide⟩ ⟨by decide, by decide⟩ rfl (Nat.le_of_ble_eq_true rfl) d_W_twin_2 (fun ax => ?_)
  refine gq_astore_n C (lo' := [(2, .ref ax), (0, .ref (al Z 0 0)), (1, .int (nI i))]) d_W_twin_11 rfl (by decide) rfl ?_
  refine gq_iconst C (v := 2) d_W_twin_12 (by decide) ?_
  exact gq_iretE C hr rfl rfl rfl (by decide) (by decide) d_W_twin_13

set_option maxHeartbeats 4000000 in
set_option maxRecDepth 100000 in
theorem c_W_letter_0 (l : Launch) (Z : qZ) (hZ : qok (pX Z)) (V : qV) (Y : qY) (i n : Nat) (hi : i < n) (hn : n ≤ 40) (h4 : V 12 0 4 = nI n) : CT l y_W_letter { frames := 8, cells := 1, slots := 6, locals := 139 } (pX Z) (qA (pX Z)) [.ref (al Z 0 0), .int (nI i), .int 0, .ref (al Z 45 0)] V Y (.inl (some (.int 0))) V (qy Y 45 0 0 ((V 13 0 i).toInt64)) := by
  refine CT.ofW (cc := b_W_letter) (maxL := 5) (ret := some .int) (hh := [(0, 10, 13, 57), (0, 10, 17, 13)]) hZ (by decide) w_561 (Nat.le_of_ble_eq_true rfl) ?_
  intro p e s m below meth c C hr htab hlt
  refine gq_aload_n C d_W_letter_0 rfl ?_
  refine gq_iconst C (v := 0) d_W_letter_1 (by decide) ?_
  refine gq_aload_n C d_W_letter_2 rfl ?_
  refine gq_iload_n C d_W_letter_3 rfl ?_
  refine gq_iload_n C d_W_letter_4 rfl ?_
  refine gq_callV C (st := [.int 0, .ref (al Z 45 0)]) (fun _ h => h.elim) (c_H_letter_0 l Z hZ V Y i n hi hn h4) (qm (by decide) (by decide)) rfl rfl w_562 w_563 w_564 w_565 w_1 ⟨by decide, by decide, (by decide +kernel : (parseMethodDescriptor y_H_letter.desc).map (fun d => d.parameters.length) = some 2)⟩ ⟨by decide, by decide⟩ ⟨by decide, by decide⟩ rfl (Nat.le_of_ble_eq_true rfl) d_W_letter_5 ?_
  refine gq_i2l C d_W_letter_8 ?_
  refine gq_last C (fun _ h => h) (g := 45) (j := 0) (a := 0) (t0 := 1) (qm (by decide) (by decide)) (fun _ => rfl) rfl rfl (by decide) (by decide) d_W_letter_9 ?_
  refine gq_goto C (tgt := 21) d_W_letter_10 rfl ?_
  refine gq_iconst C (v := 0) d_W_letter_21 (by decide) ?_
  exact gq_iretE C hr rfl rfl rfl (by decide) (by decide) d_W_letter_22

set_option maxHeartbeats 4000000 in
set_option maxRecDepth 100000 in
theorem c_W_letter_1 (l : Launch) (Z : qZ) (hZ : qok (pX Z)) (V : qV) (Y : qY) (i n : Nat) (hi : i < n) (hn : n ≤ 40) (h4 : V 12 0 4 = nI n) : CT l y_W_letter { frames := 8, cells := 1, slots := 6, locals := 139 } (pX Z) (qA (pX Z)) [.ref (al Z 0 0), .int (nI i), .int 1, .ref (al Z 45 0)] V Y (.inl (some (.int 0))) V (qy Y 45 0 0 ((V 13 1 i).toInt64)) := by
  refine CT.ofW (cc := b_W_letter) (maxL := 5) (ret := some .int) (hh := [(0, 10, 13, 57), (0, 10, 17, 13)]) hZ (by decide) w_561 (Nat.le_of_ble_eq_true rfl) ?_
  intro p e s m below meth c C hr htab hlt
  refine gq_aload_n C d_W_letter_0 rfl ?_
  refine gq_iconst C (v := 0) d_W_letter_1 (by decide) ?_
  refine gq_aload_n C d_W_letter_2 rfl ?_
  refine gq_iload_n C d_W_letter_3 rfl ?_
  refine gq_iload_n C d_W_letter_4 rfl ?_
  refine gq_callV C (st := [.int 0, .ref (al Z 45 0)]) (fun _ h => h.elim) (c_H_letter_1 l Z hZ V Y i n hi hn h4) (qm (by decide) (by decide)) rfl rfl w_562 w_563 w_564 w_565 w_1 ⟨by decide, by decide, (by decide +kernel : (parseMethodDescriptor y_H_letter.desc).map (fun d => d.parameters.length) = some 2)⟩ ⟨by decide, by decide⟩ ⟨by decide, by decide⟩ rfl (Nat.le_of_ble_eq_true rfl) d_W_letter_5 ?_
  refine gq_i2l C d_W_letter_8 ?_
  refine gq_last C (fun _ h => h) (g := 45) (j := 0) (a := 0) (t0 := 1) (qm (by decide) (by decide)) (fun _ => rfl) rfl rfl (by decide) (by decide) d_W_letter_9 ?_
  refine gq_goto C (tgt := 21) d_W_letter_10 rfl ?_
  refine gq_iconst C (v := 0) d_W_letter_21 (by decide) ?_
  exact gq_iretE C hr rfl rfl rfl (by decide) (by decide) d_W_letter_22

set_option maxHeartbeats 4000000 in
set_option maxRecDepth 100000 in
theorem c_W_letter_2 (l : Launch) (Z : qZ) (hZ : qok (pX Z)) (V : qV) (Y : qY) (i n : Nat) (hi : i < n) (hn : n ≤ 40) (h4 : V 12 0 4 = nI n) : CT l y_W_letter { frames := 8, cells := 1, slots := 6, locals := 139 } (pX Z) (qA (pX Z)) [.ref (al Z 0 0), .int (nI i), .int 2, .ref (al Z 45 0)] V Y (.inl (some (.int 0))) V (qy Y 45 0 0 ((V 13 2 i).toInt64)) := by
  refine CT.ofW (cc := b_W_letter) (maxL := 5) (ret := some .int) (hh := [(0, 10, 13, 57), (0, 10, 17, 13)]) hZ (by decide) w_561 (Nat.le_of_ble_eq_true rfl) ?_
  intro p e s m below meth c C hr htab hlt
  refine gq_aload_n C d_W_letter_0 rfl ?_
  refine gq_iconst C (v := 0) d_W_letter_1 (by decide) ?_
  refine gq_aload_n C d_W_letter_2 rfl ?_
  refine gq_iload_n C d_W_letter_3 rfl ?_
  refine gq_iload_n C d_W_letter_4 rfl ?_
  refine gq_callV C (st := [.int 0, .ref (al Z 45 0)]) (fun _ h => h.elim) (c_H_letter_2 l Z hZ V Y i n hi hn h4) (qm (by decide) (by decide)) rfl rfl w_562 w_563 w_564 w_565 w_1 ⟨by decide, by decide, (by decide +kernel : (parseMethodDescriptor y_H_letter.desc).map (fun d => d.parameters.length) = some 2)⟩ ⟨by decide, by decide⟩ ⟨by decide, by decide⟩ rfl (Nat.le_of_ble_eq_true rfl) d_W_letter_5 ?_
  refine gq_i2l C d_W_letter_8 ?_
  refine gq_last C (fun _ h => h) (g := 45) (j := 0) (a := 0) (t0 := 1) (qm (by decide) (by decide)) (fun _ => rfl) rfl rfl (by decide) (by decide) d_W_letter_9 ?_
  refine gq_goto C (tgt := 21) d_W_letter_10 rfl ?_
  refine gq_iconst C (v := 0) d_W_letter_21 (by decide) ?_
  exact gq_iretE C hr rfl rfl rfl (by decide) (by decide) d_W_letter_22

set_option maxHeartbeats 4000000 in
set_option maxRecDepth 100000 in
theorem c_W_letter_3 (l : Launch) (Z : qZ) (hZ : qok (pX Z)) (V : qV) (Y : qY) (i n : Nat) (hi : i < n) (hn : n ≤ 40) (h4 : V 12 0 4 = nI n) : CT l y_W_letter { frames := 8, cells := 1, slots := 6, locals := 139 } (pX Z) (qA (pX Z)) [.ref (al Z 0 0), .int (nI i), .int 3, .ref (al Z 45 0)] V Y (.inl (some (.int 0))) V (qy Y 45 0 0 ((V 13 3 i).toInt64)) := by
  refine CT.ofW (cc := b_W_letter) (maxL := 5) (ret := some .int) (hh := [(0, 10, 13, 57), (0, 10, 17, 13)]) hZ (by decide) w_561 (Nat.le_of_ble_eq_true rfl) ?_
  intro p e s m below meth c C hr htab hlt
  refine gq_aload_n C d_W_letter_0 rfl ?_
  refine gq_iconst C (v := 0) d_W_letter_1 (by decide) ?_
  refine gq_aload_n C d_W_letter_2 rfl ?_
  refine gq_iload_n C d_W_letter_3 rfl ?_
  refine gq_iload_n C d_W_letter_4 rfl ?_
  refine gq_callV C (st := [.int 0, .ref (al Z 45 0)]) (fun _ h => h.elim) (c_H_letter_3 l Z hZ V Y i n hi hn h4) (qm (by decide) (by decide)) rfl rfl w_562 w_563 w_564 w_565 w_1 ⟨by decide, by decide, (by decide +kernel : (parseMethodDescriptor y_H_letter.desc).map (fun d => d.parameters.length) = some 2)⟩ ⟨by decide, by decide⟩ ⟨by decide, by decide⟩ rfl (Nat.le_of_ble_eq_true rfl) d_W_letter_5 ?_
  refine gq_i2l C d_W_letter_8 ?_
  refine gq_last C (fun _ h => h) (g := 45) (j := 0) (a := 0) (t0 := 1) (qm (by decide) (by decide)) (fun _ => rfl) rfl rfl (by decide) (by decide) d_W_letter_9 ?_
  refine gq_goto C (tgt := 21) d_W_letter_10 rfl ?_
  refine gq_iconst C (v := 0) d_W_letter_21 (by decide) ?_
  exact gq_iretE C hr rfl rfl rfl (by decide) (by decide) d_W_letter_22

set_option maxHeartbeats 4000000 in
set_option maxRecDepth 100000 in
theorem c_W_letter_x2 (l : Launch) (hadm : ∀ e : Env, l.admits e → e.platform.stackTraces = false) (Z : qZ) (hZ : qok (pX Z)) (V : qV) (Y : qY) (i n : Nat) (hi : i < n) (hn : n ≤ 40) (h4 : V 12 0 4 = nI n) (w : Int32) (h : w.toInt < 0 ∨ 3 < w.toInt) : CT l y_W_letter { frames := 8, cells := 1, slots := 6, locals := 139 } (pX Z) (qA (pX Z)) [.ref (al Z 0 0), .int (nI i), .int w, .ref (al Z 45 0)] V Y (.inl (some (.int 2))) V Y := by
  refine CT.ofW (cc := b_W_letter) (maxL := 5) (ret := some .int) (hh := [(0, 10, 13, 57), (0, 10, 17, 13)]) hZ (by decide) w_561 (Nat.le_of_ble_eq_true rfl) ?_
  intro p e s m below meth c C hr htab hlt
  refine gq_aload_n C d_W_letter_0 rfl ?_
  refine gq_iconst C (v := 0) d_W_letter_1 (by decide) ?_
  refine gq_aload_n C d_W_letter_2 rfl ?_
  refine gq_iload_n C d_W_letter_3 rfl ?_
  refine gq_iload_n C d_W_letter_4 rfl ?_
  refine gq_catV C (st := [.int 0, .ref (al Z 45 0)]) (fun _ h => h.elim) (c_H_letter_x2 l hadm Z hZ V Y i n hi hn h4 w h) (qm (by decide) (by decide)) rfl rfl w_562 w_563 w_564 w_565 w_1 ⟨by decide, by decide, (by decide +kernel : (parseMethodDescriptor y_H_letter.desc).map (fun d => d.parameters.length) = some 2)⟩ (pre := [(0, 10, 13, 57)]) (y0 := (0, 10, 17, 13)) (rest := []) htab (names := ["java/lang/IndexOutOfBoundsException"]) ⟨fun z hz => by rw [List.mem_singleton.mp hz]; exact ⟨⟨by decide, by decide⟩, by decide, "java/lang/IndexOutOfBoundsException", List.mem_cons_self, w_480, wn_0_2⟩, ⟨by decide, by decide⟩, by decide, w_243, w_257⟩ ⟨by decide, by decide⟩ ⟨by decide, by decide⟩ rfl (Nat.le_of_ble_eq_true rfl) d_W_letter_5 (fun ax => ?_)
  refine gq_astore C (lo' := [(4, .ref ax), (0, .ref (al Z 0 0)), (1, .int (nI i)), (2, .int w), (3, .ref (al Z 45 0))]) d_W_letter_17 (by decide) rfl ?_
  refine gq_iconst C (v := 2) d_W_letter_19 (by decide) ?_
  exact gq_iretE C hr rfl rfl rfl (by decide) (by decide) d_W_letter_20

set_option maxHeartbeats 4000000 in
set_option maxRecDepth 100000 in
theorem c_W_deliver0 (l : Launch) (Z : qZ) (hZ : qok (pX Z)) (V : qV) (Y : qY) (i n : Nat) (hi : i < n) (hn : n ≤ 40) (h4 : V 12 0 4 = nI n) (t : Nat) (ht : t < 4) (h1 : V 13 1 i = nI t) (hk : V 13 0 i = 0) : CT l y_W_deliver { frames := 8, cells := 1, slots := 6, locals := 154 } (pX Z) (qA (pX Z)) [.ref (al Z 0 0), .int (nI i)] V Y (.inl (some (.int 0))) (f_takeBook (f_takeOut V i n) t (V 13 2 i)) Y := by
  refine CT.ofW (cc := b_W_deliver) (maxL := 3) (ret := some .int) (hh := [(0, 5, 8, 57)]) hZ (by decide) w_479 (Nat.le_of_ble_eq_true rfl) ?_
  intro p e s m below meth c C hr htab hlt
  refine gq_aload_n C d_W_deliver_0 rfl ?_
  refine gq_iload_n C d_W_deliver_1 rfl ?_
  refine gq_callV C (st := []) (fun _ h => h) (c_H_deliver0 l Z hZ V Y i n hi hn h4 t ht h1 hk) (qm (by decide) (by decide)) rfl rfl w_481 w_482 w_483 w_484 w_1 ⟨by decide, by decide, (by decide +kernel : (parseMethodDescriptor y_H_deliver.desc).map (fun d => d.parameters.length) = some 1)⟩ ⟨by decide, by decide⟩ ⟨by decide, by decide⟩ rfl (Nat.le_of_ble_eq_true rfl) d_W_deliver_2 ?_
  refine gq_goto C (tgt := 11) d_W_deliver_5 rfl ?_
  refine gq_iconst C (v := 0) d_W_deliver_11 (by decide) ?_
  exact gq_iretE C hr rfl rfl rfl (by decide) (by decide) d_W_deliver_12

set_option maxHeartbeats 4000000 in
set_option maxRecDepth 100000 in
theorem c_W_deliver2 (l : Launch) (Z : qZ) (hZ : qok (pX Z)) (V : qV) (Y : qY) (i n : Nat) (hi : i < n) (hn : n ≤ 40) (h4 : V 12 0 4 = nI n) (t : Nat) (ht : t < 4) (h1 : V 13 1 i = nI t) (hk : V 13 0 i = 2) : CT l y_W_deliver { frames := 8, cells := 1, slots := 6, locals := 154 } (pX Z) (qA (pX Z)) [.ref (al Z 0 0), .int (nI i)] V Y (.inl (some (.int 0))) (f_takeGrant (f_takeOut V i n) t (V 13 3 i) (V 13 2 i)) Y := by
  refine CT.ofW (cc := b_W_deliver) (maxL := 3) (ret := some .int) (hh := [(0, 5, 8, 57)]) hZ (by decide) w_479 (Nat.le_of_ble_eq_true rfl) ?_
  intro p e s m below meth c C hr htab hlt
  refine gq_aload_n C d_W_deliver_0 rfl ?_
  refine gq_iload_n C d_W_deliver_1 rfl ?_
  refine gq_callV C (st := []) (fun _ h => h) (c_H_deliver2 l Z hZ V Y i n hi hn h4 t ht h1 hk) (qm (by decide) (by decide)) rfl rfl w_481 w_482 w_483 w_484 w_1 ⟨by decide, by decide, (by decide +kernel : (parseMethodDescriptor y_H_deliver.desc).map (fun d => d.parameters.length) = some 1)⟩ ⟨by decide, by decide⟩ ⟨by decide, by decide⟩ rfl (Nat.le_of_ble_eq_true rfl) d_W_deliver_2 ?_
  refine gq_goto C (tgt := 11) d_W_deliver_5 rfl ?_
  refine gq_iconst C (v := 0) d_W_deliver_11 (by decide) ?_
  exact gq_iretE C hr rfl rfl rfl (by decide) (by decide) d_W_deliver_12

set_option maxHeartbeats 4000000 in
set_option maxRecDepth 100000 in
theorem c_W_deliver1 (l : Launch) (Z : qZ) (hZ : qok (pX Z)) (V : qV) (Y : qY) (i n : Nat) (hi : i < n) (hn : n ≤ 40) (h4 : V 12 0 4 = nI n) (t : Nat) (ht : t < 4) (h1 : V 13 1 i = nI t) (hk : V 13 0 i = 1) : CT l y_W_deliver { frames := 8, cells := 1, slots := 6, locals := 154 } (pX Z) (qA (pX Z)) [.ref (al Z 0 0), .int (nI i)] V Y (.inl (some (.int 0))) (f_bring1 (f_takeOut V i n) t (V 13 3 i)) Y := by
  refine CT.ofW (cc := b_W_deliver) (maxL := 3) (ret := some .int) (hh := [(0, 5, 8, 57)]) hZ (by decide) w_479 (Nat.le_of_ble_eq_true rfl) ?_
  intro p e s m below meth c C hr htab hlt
  refine gq_aload_n C d_W_deliver_0 rfl ?_
  refine gq_iload_n C d_W_deliver_1 rfl ?_
  refine gq_callV C (st := []) (fun _ h => h) (c_H_deliver1 l Z hZ V Y i n hi hn h4 t ht h1 hk) (qm (by decide) (by decide)) rfl rfl w_481 w_482 w_483 w_484 w_1 ⟨by decide, by decide, (by decide +kernel : (parseMethodDescriptor y_H_deliver.desc).map (fun d => d.parameters.length) = some 1)⟩ ⟨by decide, by decide⟩ ⟨by decide, by decide⟩ rfl (Nat.le_of_ble_eq_true rfl) d_W_deliver_2 ?_
  refine gq_goto C (tgt := 11) d_W_deliver_5 rfl ?_
  refine gq_iconst C (v := 0) d_W_deliver_11 (by decide) ?_
  exact gq_iretE C hr rfl rfl rfl (by decide) (by decide) d_W_deliver_12

set_option maxHeartbeats 4000000 in
set_option maxRecDepth 100000 in
theorem c_W_deliver3 (l : Launch) (Z : qZ) (hZ : qok (pX Z)) (V : qV) (Y : qY) (i n : Nat) (hi : i < n) (hn : n ≤ 40) (h4 : V 12 0 4 = nI n) (t : Nat) (ht : t < 4) (h1 : V 13 1 i = nI t) (hk : V 13 0 i = 3) : CT l y_W_deliver { frames := 8, cells := 1, slots := 6, locals := 154 } (pX Z) (qA (pX Z)) [.ref (al Z 0 0), .int (nI i)] V Y (.inl (some (.int 0))) (f_bring3 (f_takeOut V i n) t (V 13 2 i)) Y := by
  refine CT.ofW (cc := b_W_deliver) (maxL := 3) (ret := some .int) (hh := [(0, 5, 8, 57)]) hZ (by decide) w_479 (Nat.le_of_ble_eq_true rfl) ?_
  intro p e s m below meth c C hr htab hlt
  refine gq_aload_n C d_W_deliver_0 rfl ?_
  refine gq_iload_n C d_W_deliver_1 rfl ?_
  refine gq_callV C (st := []) (fun _ h => h) (c_H_deliver3 l Z hZ V Y i n hi hn h4 t ht h1 hk) (qm (by decide) (by decide)) rfl rfl w_481 w_482 w_483 w_484 w_1 ⟨by decide, by decide, (by decide +kernel : (parseMethodDescriptor y_H_deliver.desc).map (fun d => d.parameters.length) = some 1)⟩ ⟨by decide, by decide⟩ ⟨by decide, by decide⟩ rfl (Nat.le_of_ble_eq_true rfl) d_W_deliver_2 ?_
  refine gq_goto C (tgt := 11) d_W_deliver_5 rfl ?_
  refine gq_iconst C (v := 0) d_W_deliver_11 (by decide) ?_
  exact gq_iretE C hr rfl rfl rfl (by decide) (by decide) d_W_deliver_12

set_option maxHeartbeats 4000000 in
set_option maxRecDepth 100000 in
theorem c_W_deliver4 (l : Launch) (Z : qZ) (hZ : qok (pX Z)) (V : qV) (Y : qY) (i n : Nat) (hi : i < n) (hn : n ≤ 40) (h4 : V 12 0 4 = nI n) (t : Nat) (ht : t < 4) (h1 : V 13 1 i = nI t) (hk : V 13 0 i = 4) : CT l y_W_deliver { frames := 8, cells := 1, slots := 6, locals := 154 } (pX Z) (qA (pX Z)) [.ref (al Z 0 0), .int (nI i)] V Y (.inl (some (.int 0))) (f_bring4 (f_takeOut V i n) t (V 13 3 i)) Y := by
  refine CT.ofW (cc := b_W_deliver) (maxL := 3) (ret := some .int) (hh := [(0, 5, 8, 57)]) hZ (by decide) w_479 (Nat.le_of_ble_eq_true rfl) ?_
  intro p e s m below meth c C hr htab hlt
  refine gq_aload_n C d_W_deliver_0 rfl ?_
  refine gq_iload_n C d_W_deliver_1 rfl ?_
  refine gq_callV C (st := []) (fun _ h => h) (c_H_deliver4 l Z hZ V Y i n hi hn h4 t ht h1 hk) (qm (by decide) (by decide)) rfl rfl w_481 w_482 w_483 w_484 w_1 ⟨by decide, by decide, (by decide +kernel : (parseMethodDescriptor y_H_deliver.desc).map (fun d => d.parameters.length) = some 1)⟩ ⟨by decide, by decide⟩ ⟨by decide, by decide⟩ rfl (Nat.le_of_ble_eq_true rfl) d_W_deliver_2 ?_
  refine gq_goto C (tgt := 11) d_W_deliver_5 rfl ?_
  refine gq_iconst C (v := 0) d_W_deliver_11 (by decide) ?_
  exact gq_iretE C hr rfl rfl rfl (by decide) (by decide) d_W_deliver_12

set_option maxHeartbeats 4000000 in
set_option maxRecDepth 100000 in
theorem c_W_open (l : Launch) (Z : qZ) (hZ : qok (pX Z)) (V : qV) (Y : qY) (t : Nat) (ht : t < 4) (k : Nat) (hk : k < 40) (h7 : V 0 0 7 = nI k) (h0 : ¬ f_lease V t = 0) (h1 : ¬ 3 ≤ V 7 t 7) : CT l y_W_open { frames := 8, cells := 1, slots := 6, locals := 139 } (pX Z) (qA (pX Z)) [.ref (al Z 0 0), .int (nI t), .ref (al Z 45 0)] V Y (.inl (some (.int 0))) (qv (qv (qv (qv (qv V 0 0 7 ((V 0 0 7) + 1)) 15 k 0 (nI t)) 15 k 1 (f_lease V t)) 15 k 2 1) 7 t 7 ((V 7 t 7) + 1)) (qy Y 45 0 0 ((V 0 0 7).toInt64)) := by
  refine CT.ofW (cc := b_W_open) (maxL := 4) (ret := some .int) (hh := [(0, 9, 12, 13), (0, 9, 15, 23)]) hZ (by decide) w_568 (Nat.le_of_ble_eq_true rfl) ?_
  intro p e s m below meth c C hr htab hlt
  refine gq_aload_n C d_W_open_0 rfl ?_
  refine gq_iconst C (v := 0) d_W_open_1 (by decide) ?_
  refine gq_aload_n C d_W_open_2 rfl ?_
  refine gq_iload_n C d_W_open_3 rfl ?_
  refine gq_callV C (st := [.int 0, .ref (al Z 45 0)]) (fun _ h => h) (c_H_open l Z hZ V Y t ht k hk h7 h0 h1) (qm (by decide) (by decide)) rfl rfl w_569 w_570 w_571 w_572 w_1 ⟨by decide, by decide, (by decide +kernel : (parseMethodDescriptor y_H_open.desc).map (fun d => d.parameters.length) = some 1)⟩ ⟨by decide, by decide⟩ ⟨by decide, by decide⟩ rfl (Nat.le_of_ble_eq_true rfl) d_W_open_4 ?_
  refine gq_i2l C d_W_open_7 ?_
  refine gq_last C (fun _ h => h) (g := 45) (j := 0) (a := 0) (t0 := 1) (qm (by decide) (by decide)) (fun _ => rfl) rfl rfl (by decide) (by decide) d_W_open_8 ?_
  refine gq_goto C (tgt := 18) d_W_open_9 rfl ?_
  refine gq_iconst C (v := 0) d_W_open_18 (by decide) ?_
  exact gq_iretE C hr rfl rfl rfl (by decide) (by decide) d_W_open_19

set_option maxHeartbeats 4000000 in
set_option maxRecDepth 100000 in
theorem c_W_open_x2 (l : Launch) (hadm : ∀ e : Env, l.admits e → e.platform.stackTraces = false) (Z : qZ) (hZ : qok (pX Z)) (V : qV) (Y : qY) (t : Nat) (ht : t < 4) (h : f_lease V t = 0 ∨ 3 ≤ V 7 t 7 ∨ ¬ V 0 0 7 < 40) : CT l y_W_open { frames := 8, cells := 1, slots := 6, locals := 139 } (pX Z) (qA (pX Z)) [.ref (al Z 0 0), .int (nI t), .ref (al Z 45 0)] V Y (.inl (some (.int 2))) V Y := by
  refine CT.ofW (cc := b_W_open) (maxL := 4) (ret := some .int) (hh := [(0, 9, 12, 13), (0, 9, 15, 23)]) hZ (by decide) w_568 (Nat.le_of_ble_eq_true rfl) ?_
  intro p e s m below meth c C hr htab hlt
  refine gq_aload_n C d_W_open_0 rfl ?_
  refine gq_iconst C (v := 0) d_W_open_1 (by decide) ?_
  refine gq_aload_n C d_W_open_2 rfl ?_
  refine gq_iload_n C d_W_open_3 rfl ?_
  refine gq_catV C (st := [.int 0, .ref (al Z 45 0)]) (fun _ h => h.elim) (c_H_open_x2 l hadm Z hZ V Y t ht h) (qm (by decide) (by decide)) rfl rfl w_569 w_570 w_571 w_572 w_1 ⟨by decide, by decide, (by decide +kernel : (parseMethodDescriptor y_H_open.desc).map (fun d => d.parameters.length) = some 1)⟩ (pre := [(0, 9, 12, 13)]) (y0 := (0, 9, 15, 23)) (rest := []) htab (names := ["java/lang/IllegalArgumentException"]) ⟨fun z hz => by rw [List.mem_singleton.mp hz]; exact ⟨⟨by decide, by decide⟩, by decide, "java/lang/IllegalArgumentException", List.mem_cons_self, w_243, wn_1_0⟩, ⟨by decide, by decide⟩, by decide, w_335, w_342⟩ ⟨by decide, by decide⟩ ⟨by decide, by decide⟩ rfl (Nat.le_of_ble_eq_true rfl) d_W_open_4 (fun ax => ?_)
  refine gq_astore_n C (lo' := [(3, .ref ax), (0, .ref (al Z 0 0)), (1, .int (nI t)), (2, .ref (al Z 45 0))]) d_W_open_15 rfl (by decide) rfl ?_
  refine gq_iconst C (v := 2) d_W_open_16 (by decide) ?_
  exact gq_iretE C hr rfl rfl rfl (by decide) (by decide) d_W_open_17

set_option maxHeartbeats 4000000 in
set_option maxRecDepth 100000 in
theorem c_W_scan_p (l : Launch) (Z : qZ) (hZ : qok (pX Z)) (V : qV) (Y : qY) (k : Nat) (hk : k < 40) (hib : f_isBasket V (nI k) = 1) (hop : ¬ V 15 k 2 = 0) (b : Nat) (hb : b < 9) (hbk : V 15 k 1 = nI (b + 1)) (n : Nat) (hn : n < 8) (h1 : f_isArticle (nI n) = 1) (h5 : f_sells V (b + 1) n = 1) (h6 : ¬ V 16 k n + 1 < 0) (h7 : V 16 k n + 1 ≤ 30) : CT l y_W_scan { frames := 8, cells := 1, slots := 6, locals := 141 } (pX Z) (qA (pX Z)) [.ref (al Z 0 0), .int (nI k), .int (nI n), .int 1, .ref (al Z 45 0)] V Y (.inl (some (.int 0))) (qv V 16 k n ((V 16 k n) + 1)) (qy Y 45 0 0 (((V 16 k n) + 1).toInt64)) := by
  refine CT.ofW (cc := b_W_scan) (maxL := 6) (ret := some .int) (hh := [(0, 12, 15, 76), (0, 12, 19, 13), (0, 12, 23, 23)]) hZ (by decide) w_579 (Nat.le_of_ble_eq_true rfl) ?_
  intro p e s m below meth c C hr htab hlt
  refine gq_aload C d_W_scan_0 rfl ?_
  refine gq_iconst C (v := 0) d_W_scan_2 (by decide) ?_
  refine gq_aload_n C d_W_scan_3 rfl ?_
  refine gq_iload_n C d_W_scan_4 rfl ?_
  refine gq_iload_n C d_W_scan_5 rfl ?_
  refine gq_iload_n C d_W_scan_6 rfl ?_
  refine gq_callV C (st := [.int 0, .ref (al Z 45 0)]) (fun _ h => h) (c_H_scan_p l Z hZ V Y k hk hib hop b hb hbk n hn h1 h5 h6 h7) (qm (by decide) (by decide)) rfl rfl w_581 w_582 w_583 w_584 w_1 ⟨by decide, by decide, (by decide +kernel : (parseMethodDescriptor y_H_scan.desc).map (fun d => d.parameters.length) = some 3)⟩ ⟨by decide, by decide⟩ ⟨by decide, by decide⟩ rfl (Nat.le_of_ble_eq_true rfl) d_W_scan_7 ?_
  refine gq_i2l C d_W_scan_10 ?_
  refine gq_last C (fun _ h => h) (g := 45) (j := 0) (a := 0) (t0 := 1) (qm (by decide) (by decide)) (fun _ => rfl) rfl rfl (by decide) (by decide) d_W_scan_11 ?_
  refine gq_goto C (tgt := 27) d_W_scan_12 rfl ?_
  refine gq_iconst C (v := 0) d_W_scan_27 (by decide) ?_
  exact gq_iretE C hr rfl rfl rfl (by decide) (by decide) d_W_scan_28

set_option maxHeartbeats 4000000 in
set_option maxRecDepth 100000 in
theorem c_W_scan_p_x2 (l : Launch) (hadm : ∀ e : Env, l.admits e → e.platform.stackTraces = false) (Z : qZ) (hZ : qok (pX Z)) (V : qV) (Y : qY) (k : Nat) (hk : k < 40) (hib : f_isBasket V (nI k) = 1) (hop : ¬ V 15 k 2 = 0) (b : Nat) (hb : b < 9) (hbk : V 15 k 1 = nI (b + 1)) (n : Nat) (hn : n < 8) (h1 : f_isArticle (nI n) = 1) (h5 : f_sells V (b + 1) n = 0) : CT l y_W_scan { frames := 8, cells := 1, slots := 6, locals := 141 } (pX Z) (qA (pX Z)) [.ref (al Z 0 0), .int (nI k), .int (nI n), .int 1, .ref (al Z 45 0)] V Y (.inl (some (.int 2))) V Y := by
  refine CT.ofW (cc := b_W_scan) (maxL := 6) (ret := some .int) (hh := [(0, 12, 15, 76), (0, 12, 19, 13), (0, 12, 23, 23)]) hZ (by decide) w_579 (Nat.le_of_ble_eq_true rfl) ?_
  intro p e s m below meth c C hr htab hlt
  refine gq_aload C d_W_scan_0 rfl ?_
  refine gq_iconst C (v := 0) d_W_scan_2 (by decide) ?_
  refine gq_aload_n C d_W_scan_3 rfl ?_
  refine gq_iload_n C d_W_scan_4 rfl ?_
  refine gq_iload_n C d_W_scan_5 rfl ?_
  refine gq_iload_n C d_W_scan_6 rfl ?_
  refine gq_catV C (st := [.int 0, .ref (al Z 45 0)]) (fun _ h => h.elim) (c_H_scan_p_x2 l hadm Z hZ V Y k hk hib hop b hb hbk n hn h1 h5) (qm (by decide) (by decide)) rfl rfl w_581 w_582 w_583 w_584 w_1 ⟨by decide, by decide, (by decide +kernel : (parseMethodDescriptor y_H_scan.desc).map (fun d => d.parameters.length) = some 3)⟩ (pre := [(0, 12, 15, 76)]) (y0 := (0, 12, 19, 13)) (rest := [(0, 12, 23, 23)]) htab (names := ["java/util/NoSuchElementException"]) ⟨fun z hz => by rw [List.mem_singleton.mp hz]; exact ⟨⟨by decide, by decide⟩, by decide, "java/util/NoSuchElementException", List.mem_cons_self, w_580, wn_0_3⟩, ⟨by decide, by decide⟩, by decide, w_243, w_257⟩ ⟨by decide, by decide⟩ ⟨by decide, by decide⟩ rfl (Nat.le_of_ble_eq_true rfl) d_W_scan_7 (fun ax => ?_)
  refine gq_astore C (lo' := [(5, .ref ax), (0, .ref (al Z 0 0)), (1, .int (nI k)), (2, .int (nI n)), (3, .int 1), (4, .ref (al Z 45 0))]) d_W_scan_19 (by decide) rfl ?_
  refine gq_iconst C (v := 2) d_W_scan_21 (by decide) ?_
  exact gq_iretE C hr rfl rfl rfl (by decide) (by decide) d_W_scan_22

set_option maxHeartbeats 4000000 in
set_option maxRecDepth 100000 in
theorem c_W_scan_p_x3 (l : Launch) (hadm : ∀ e : Env, l.admits e → e.platform.stackTraces = false) (Z : qZ) (hZ : qok (pX Z)) (V : qV) (Y : qY) (k : Nat) (hk : k < 40) (hib : f_isBasket V (nI k) = 1) (hop : ¬ V 15 k 2 = 0) (b : Nat) (hb : b < 9) (hbk : V 15 k 1 = nI (b + 1)) (n : Nat) (hn : n < 8) (h1 : f_isArticle (nI n) = 1) (h5 : f_sells V (b + 1) n = 1) (h : V 16 k n + 1 < 0 ∨ ¬ V 16 k n + 1 ≤ 30) : CT l y_W_scan { frames := 8, cells := 1, slots := 6, locals := 141 } (pX Z) (qA (pX Z)) [.ref (al Z 0 0), .int (nI k), .int (nI n), .int 1, .ref (al Z 45 0)] V Y (.inl (some (.int 3))) V Y := by
  refine CT.ofW (cc := b_W_scan) (maxL := 6) (ret := some .int) (hh := [(0, 12, 15, 76), (0, 12, 19, 13), (0, 12, 23, 23)]) hZ (by decide) w_579 (Nat.le_of_ble_eq_true rfl) ?_
  intro p e s m below meth c C hr htab hlt
  refine gq_aload C d_W_scan_0 rfl ?_
  refine gq_iconst C (v := 0) d_W_scan_2 (by decide) ?_
  refine gq_aload_n C d_W_scan_3 rfl ?_
  refine gq_iload_n C d_W_scan_4 rfl ?_
  refine gq_iload_n C d_W_scan_5 rfl ?_
  refine gq_iload_n C d_W_scan_6 rfl ?_
  refine gq_catV C (st := [.int 0, .ref (al Z 45 0)]) (fun _ h => h.elim) (c_H_scan_p_x3 l hadm Z hZ V Y k hk hib hop b hb hbk n hn h1 h5 h) (qm (by decide) (by decide)) rfl rfl w_581 w_582 w_583 w_584 w_1 ⟨by decide, by decide, (by decide +kernel : (parseMethodDescriptor y_H_scan.desc).map (fun d => d.parameters.length) = some 3)⟩ (pre := [(0, 12, 15, 76), (0, 12, 19, 13)]) (y0 := (0, 12, 23, 23)) (rest := []) htab (names := ["java/util/NoSuchElementException", "java/lang/IllegalArgumentException"]) ⟨fun z hz => by rcases List.mem_cons.mp hz with rfl | hz; exact ⟨⟨by decide, by decide⟩, by decide, "java/util/NoSuchElementException", List.mem_cons_self, w_580, wn_1_3⟩; rw [List.mem_singleton.mp hz]; exact ⟨⟨by decide, by decide⟩, by decide, "java/lang/IllegalArgumentException", List.mem_cons_of_mem _ List.mem_cons_self, w_243, wn_1_0⟩, ⟨by decide, by decide⟩, by decide, w_335, w_342⟩ ⟨by decide, by decide⟩ ⟨by decide, by decide⟩ rfl (Nat.le_of_ble_eq_true rfl) d_W_scan_7 (fun ax => ?_)
  refine gq_astore C (lo' := [(5, .ref ax), (0, .ref (al Z 0 0)), (1, .int (nI k)), (2, .int (nI n)), (3, .int 1), (4, .ref (al Z 45 0))]) d_W_scan_23 (by decide) rfl ?_
  refine gq_iconst C (v := 3) d_W_scan_25 (by decide) ?_
  exact gq_iretE C hr rfl rfl rfl (by decide) (by decide) d_W_scan_26

set_option maxHeartbeats 4000000 in
set_option maxRecDepth 100000 in
theorem c_W_scan_m (l : Launch) (Z : qZ) (hZ : qok (pX Z)) (V : qV) (Y : qY) (k : Nat) (hk : k < 40) (hib : f_isBasket V (nI k) = 1) (hop : ¬ V 15 k 2 = 0) (b : Nat) (hb : b < 9) (hbk : V 15 k 1 = nI (b + 1)) (n : Nat) (hn : n < 8) (h1 : f_isArticle (nI n) = 1) (h5 : f_sells V (b + 1) n = 1) (h6 : ¬ V 16 k n + (-1) < 0) (h7 : V 16 k n + (-1) ≤ 30) : CT l y_W_scan { frames := 8, cells := 1, slots := 6, locals := 141 } (pX Z) (qA (pX Z)) [.ref (al Z 0 0), .int (nI k), .int (nI n), .int ((-1)), .ref (al Z 45 0)] V Y (.inl (some (.int 0))) (qv V 16 k n ((V 16 k n) + ((-1)))) (qy Y 45 0 0 (((V 16 k n) + ((-1))).toInt64)) := by
  refine CT.ofW (cc := b_W_scan) (maxL := 6) (ret := some .int) (hh := [(0, 12, 15, 76), (0, 12, 19, 13), (0, 12, 23, 23)]) hZ (by decide) w_579 (Nat.le_of_ble_eq_true rfl) ?_
  intro p e s m below meth c C hr htab hlt
  refine gq_aload C d_W_scan_0 rfl ?_
  refine gq_iconst C (v := 0) d_W_scan_2 (by decide) ?_
  refine gq_aload_n C d_W_scan_3 rfl ?_
  refine gq_iload_n C d_W_scan_4 rfl ?_
  refine gq_iload_n C d_W_scan_5 rfl ?_
  refine gq_iload_n C d_W_scan_6 rfl ?_
  refine gq_callV C (st := [.int 0, .ref (al Z 45 0)]) (fun _ h => h) (c_H_scan_m l Z hZ V Y k hk hib hop b hb hbk n hn h1 h5 h6 h7) (qm (by decide) (by decide)) rfl rfl w_581 w_582 w_583 w_584 w_1 ⟨by decide, by decide, (by decide +kernel : (parseMethodDescriptor y_H_scan.desc).map (fun d => d.parameters.length) = some 3)⟩ ⟨by decide, by decide⟩ ⟨by decide, by decide⟩ rfl (Nat.le_of_ble_eq_true rfl) d_W_scan_7 ?_
  refine gq_i2l C d_W_scan_10 ?_
  refine gq_last C (fun _ h => h) (g := 45) (j := 0) (a := 0) (t0 := 1) (qm (by decide) (by decide)) (fun _ => rfl) rfl rfl (by decide) (by decide) d_W_scan_11 ?_
  refine gq_goto C (tgt := 27) d_W_scan_12 rfl ?_
  refine gq_iconst C (v := 0) d_W_scan_27 (by decide) ?_
  exact gq_iretE C hr rfl rfl rfl (by decide) (by decide) d_W_scan_28

set_option maxHeartbeats 4000000 in
set_option maxRecDepth 100000 in
theorem c_W_scan_m_x2 (l : Launch) (hadm : ∀ e : Env, l.admits e → e.platform.stackTraces = false) (Z : qZ) (hZ : qok (pX Z)) (V : qV) (Y : qY) (k : Nat) (hk : k < 40) (hib : f_isBasket V (nI k) = 1) (hop : ¬ V 15 k 2 = 0) (b : Nat) (hb : b < 9) (hbk : V 15 k 1 = nI (b + 1)) (n : Nat) (hn : n < 8) (h1 : f_isArticle (nI n) = 1) (h5 : f_sells V (b + 1) n = 0) : CT l y_W_scan { frames := 8, cells := 1, slots := 6, locals := 141 } (pX Z) (qA (pX Z)) [.ref (al Z 0 0), .int (nI k), .int (nI n), .int ((-1)), .ref (al Z 45 0)] V Y (.inl (some (.int 2))) V Y := by
  refine CT.ofW (cc := b_W_scan) (maxL := 6) (ret := some .int) (hh := [(0, 12, 15, 76), (0, 12, 19, 13), (0, 12, 23, 23)]) hZ (by decide) w_579 (Nat.le_of_ble_eq_true rfl) ?_
  intro p e s m below meth c C hr htab hlt
  refine gq_aload C d_W_scan_0 rfl ?_
  refine gq_iconst C (v := 0) d_W_scan_2 (by decide) ?_
  refine gq_aload_n C d_W_scan_3 rfl ?_
  refine gq_iload_n C d_W_scan_4 rfl ?_
  refine gq_iload_n C d_W_scan_5 rfl ?_
  refine gq_iload_n C d_W_scan_6 rfl ?_
  refine gq_catV C (st := [.int 0, .ref (al Z 45 0)]) (fun _ h => h.elim) (c_H_scan_m_x2 l hadm Z hZ V Y k hk hib hop b hb hbk n hn h1 h5) (qm (by decide) (by decide)) rfl rfl w_581 w_582 w_583 w_584 w_1 ⟨by decide, by decide, (by decide +kernel : (parseMethodDescriptor y_H_scan.desc).map (fun d => d.parameters.length) = some 3)⟩ (pre := [(0, 12, 15, 76)]) (y0 := (0, 12, 19, 13)) (rest := [(0, 12, 23, 23)]) htab (names := ["java/util/NoSuchElementException"]) ⟨fun z hz => by rw [List.mem_singleton.mp hz]; exact ⟨⟨by decide, by decide⟩, by decide, "java/util/NoSuchElementException", List.mem_cons_self, w_580, wn_0_3⟩, ⟨by decide, by decide⟩, by decide, w_243, w_257⟩ ⟨by decide, by decide⟩ ⟨by decide, by decide⟩ rfl (Nat.le_of_ble_eq_true rfl) d_W_scan_7 (fun ax => ?_)
  refine gq_astore C (lo' := [(5, .ref ax), (0, .ref (al Z 0 0)), (1, .int (nI k)), (2, .int (nI n)), (3, .int ((-1))), (4, .ref (al Z 45 0))]) d_W_scan_19 (by decide) rfl ?_
  refine gq_iconst C (v := 2) d_W_scan_21 (by decide) ?_
  exact gq_iretE C hr rfl rfl rfl (by decide) (by decide) d_W_scan_22

set_option maxHeartbeats 4000000 in
set_option maxRecDepth 100000 in
theorem c_W_scan_m_x3 (l : Launch) (hadm : ∀ e : Env, l.admits e → e.platform.stackTraces = false) (Z : qZ) (hZ : qok (pX Z)) (V : qV) (Y : qY) (k : Nat) (hk : k < 40) (hib : f_isBasket V (nI k) = 1) (hop : ¬ V 15 k 2 = 0) (b : Nat) (hb : b < 9) (hbk : V 15 k 1 = nI (b + 1)) (n : Nat) (hn : n < 8) (h1 : f_isArticle (nI n) = 1) (h5 : f_sells V (b + 1) n = 1) (h : V 16 k n + (-1) < 0 ∨ ¬ V 16 k n + (-1) ≤ 30) : CT l y_W_scan { frames := 8, cells := 1, slots := 6, locals := 141 } (pX Z) (qA (pX Z)) [.ref (al Z 0 0), .int (nI k), .int (nI n), .int ((-1)), .ref (al Z 45 0)] V Y (.inl (some (.int 3))) V Y := by
  refine CT.ofW (cc := b_W_scan) (maxL := 6) (ret := some .int) (hh := [(0, 12, 15, 76), (0, 12, 19, 13), (0, 12, 23, 23)]) hZ (by decide) w_579 (Nat.le_of_ble_eq_true rfl) ?_
  intro p e s m below meth c C hr htab hlt
  refine gq_aload C d_W_scan_0 rfl ?_
  refine gq_iconst C (v := 0) d_W_scan_2 (by decide) ?_
  refine gq_aload_n C d_W_scan_3 rfl ?_
  refine gq_iload_n C d_W_scan_4 rfl ?_
  refine gq_iload_n C d_W_scan_5 rfl ?_
  refine gq_iload_n C d_W_scan_6 rfl ?_
  refine gq_catV C (st := [.int 0, .ref (al Z 45 0)]) (fun _ h => h.elim) (c_H_scan_m_x3 l hadm Z hZ V Y k hk hib hop b hb hbk n hn h1 h5 h) (qm (by decide) (by decide)) rfl rfl w_581 w_582 w_583 w_584 w_1 ⟨by decide, by decide, (by decide +kernel : (parseMethodDescriptor y_H_scan.desc).map (fun d => d.parameters.length) = some 3)⟩ (pre := [(0, 12, 15, 76), (0, 12, 19, 13)]) (y0 := (0, 12, 23, 23)) (rest := []) htab (names := ["java/util/NoSuchElementException", "java/lang/IllegalArgumentException"]) ⟨fun z hz => by rcases List.mem_cons.mp hz with rfl | hz; exact ⟨⟨by decide, by decide⟩, by decide, "java/util/NoSuchElementException", List.mem_cons_self, w_580, wn_1_3⟩; rw [List.mem_singleton.mp hz]; exact ⟨⟨by decide, by decide⟩, by decide, "java/lang/IllegalArgumentException", List.mem_cons_of_mem _ List.mem_cons_self, w_243, wn_1_0⟩, ⟨by decide, by decide⟩, by decide, w_335, w_342⟩ ⟨by decide, by decide⟩ ⟨by decide, by decide⟩ rfl (Nat.le_of_ble_eq_true rfl) d_W_scan_7 (fun ax => ?_)
  refine gq_astore C (lo' := [(5, .ref ax), (0, .ref (al Z 0 0)), (1, .int (nI k)), (2, .int (nI n)), (3, .int ((-1))), (4, .ref (al Z 45 0))]) d_W_scan_23 (by decide) rfl ?_
  refine gq_iconst C (v := 3) d_W_scan_25 (by decide) ?_
  exact gq_iretE C hr rfl rfl rfl (by decide) (by decide) d_W_scan_26

set_option maxHeartbeats 4000000 in
set_option maxRecDepth 100000 in
theorem c_W_scan_x2a (l : Launch) (hadm : ∀ e : Env, l.admits e → e.platform.stackTraces = false) (Z : qZ) (hZ : qok (pX Z)) (V : qV) (Y : qY) (k : Nat) (hk : k < 40) (hib : f_isBasket V (nI k) = 1) (hop : ¬ V 15 k 2 = 0) (a g : Int32) (h : f_isArticle a = 0 ∨ (¬ g = 1 ∧ ¬ g = -1)) : CT l y_W_scan { frames := 8, cells := 1, slots := 6, locals := 141 } (pX Z) (qA (pX Z)) [.ref (al Z 0 0), .int (nI k), .int a, .int g, .ref (al Z 45 0)] V Y (.inl (some (.int 2))) V Y := by
  refine CT.ofW (cc := b_W_scan) (maxL := 6) (ret := some .int) (hh := [(0, 12, 15, 76), (0, 12, 19, 13), (0, 12, 23, 23)]) hZ (by decide) w_579 (Nat.le_of_ble_eq_true rfl) ?_
  intro p e s m below meth c C hr htab hlt
  refine gq_aload C d_W_scan_0 rfl ?_
  refine gq_iconst C (v := 0) d_W_scan_2 (by decide) ?_
  refine gq_aload_n C d_W_scan_3 rfl ?_
  refine gq_iload_n C d_W_scan_4 rfl ?_
  refine gq_iload_n C d_W_scan_5 rfl ?_
  refine gq_iload_n C d_W_scan_6 rfl ?_
  refine gq_catV C (st := [.int 0, .ref (al Z 45 0)]) (fun _ h => h.elim) (c_H_scan_x2a l hadm Z hZ V Y k hk hib hop a g h) (qm (by decide) (by decide)) rfl rfl w_581 w_582 w_583 w_584 w_1 ⟨by decide, by decide, (by decide +kernel : (parseMethodDescriptor y_H_scan.desc).map (fun d => d.parameters.length) = some 3)⟩ (pre := [(0, 12, 15, 76)]) (y0 := (0, 12, 19, 13)) (rest := [(0, 12, 23, 23)]) htab (names := ["java/util/NoSuchElementException"]) ⟨fun z hz => by rw [List.mem_singleton.mp hz]; exact ⟨⟨by decide, by decide⟩, by decide, "java/util/NoSuchElementException", List.mem_cons_self, w_580, wn_0_3⟩, ⟨by decide, by decide⟩, by decide, w_243, w_257⟩ ⟨by decide, by decide⟩ ⟨by decide, by decide⟩ rfl (Nat.le_of_ble_eq_true rfl) d_W_scan_7 (fun ax => ?_)
  refine gq_astore C (lo' := [(5, .ref ax), (0, .ref (al Z 0 0)), (1, .int (nI k)), (2, .int a), (3, .int g), (4, .ref (al Z 45 0))]) d_W_scan_19 (by decide) rfl ?_
  refine gq_iconst C (v := 2) d_W_scan_21 (by decide) ?_
  exact gq_iretE C hr rfl rfl rfl (by decide) (by decide) d_W_scan_22

set_option maxHeartbeats 4000000 in
set_option maxRecDepth 100000 in
theorem c_W_scan_x1a (l : Launch) (hadm : ∀ e : Env, l.admits e → e.platform.stackTraces = false) (Z : qZ) (hZ : qok (pX Z)) (V : qV) (Y : qY) (k : Int32) (h : f_isBasket V k = 0) (a g : Int32) : CT l y_W_scan { frames := 8, cells := 1, slots := 6, locals := 141 } (pX Z) (qA (pX Z)) [.ref (al Z 0 0), .int k, .int a, .int g, .ref (al Z 45 0)] V Y (.inl (some (.int 1))) V Y := by
  refine CT.ofW (cc := b_W_scan) (maxL := 6) (ret := some .int) (hh := [(0, 12, 15, 76), (0, 12, 19, 13), (0, 12, 23, 23)]) hZ (by decide) w_579 (Nat.le_of_ble_eq_true rfl) ?_
  intro p e s m below meth c C hr htab hlt
  refine gq_aload C d_W_scan_0 rfl ?_
  refine gq_iconst C (v := 0) d_W_scan_2 (by decide) ?_
  refine gq_aload_n C d_W_scan_3 rfl ?_
  refine gq_iload_n C d_W_scan_4 rfl ?_
  refine gq_iload_n C d_W_scan_5 rfl ?_
  refine gq_iload_n C d_W_scan_6 rfl ?_
  refine gq_catV C (st := [.int 0, .ref (al Z 45 0)]) (fun _ h => h.elim) (c_H_scan_x1a l hadm Z hZ V Y k h a g) (qm (by decide) (by decide)) rfl rfl w_581 w_582 w_583 w_584 w_1 ⟨by decide, by decide, (by decide +kernel : (parseMethodDescriptor y_H_scan.desc).map (fun d => d.parameters.length) = some 3)⟩ (pre := []) (y0 := (0, 12, 15, 76)) (rest := [(0, 12, 19, 13), (0, 12, 23, 23)]) htab (names := []) ⟨fun z hz => absurd hz List.not_mem_nil, ⟨by decide, by decide⟩, by decide, w_580, w_595⟩ ⟨by decide, by decide⟩ ⟨by decide, by decide⟩ rfl (Nat.le_of_ble_eq_true rfl) d_W_scan_7 (fun ax => ?_)
  refine gq_astore C (lo' := [(5, .ref ax), (0, .ref (al Z 0 0)), (1, .int k), (2, .int a), (3, .int g), (4, .ref (al Z 45 0))]) d_W_scan_15 (by decide) rfl ?_
  refine gq_iconst C (v := 1) d_W_scan_17 (by decide) ?_
  exact gq_iretE C hr rfl rfl rfl (by decide) (by decide) d_W_scan_18

set_option maxHeartbeats 4000000 in
set_option maxRecDepth 100000 in
theorem c_W_scan_x1b (l : Launch) (hadm : ∀ e : Env, l.admits e → e.platform.stackTraces = false) (Z : qZ) (hZ : qok (pX Z)) (V : qV) (Y : qY) (k : Nat) (hk : k < 40) (h1 : f_isBasket V (nI k) = 1) (h2 : V 15 k 2 = 0) (a g : Int32) : CT l y_W_scan { frames := 8, cells := 1, slots := 6, locals := 141 } (pX Z) (qA (pX Z)) [.ref (al Z 0 0), .int (nI k), .int a, .int g, .ref (al Z 45 0)] V Y (.inl (some (.int 1))) V Y := by
  refine CT.ofW (cc := b_W_scan) (maxL := 6) (ret := some .int) (hh := [(0, 12, 15, 76), (0, 12, 19, 13), (0, 12, 23, 23)]) hZ (by decide) w_579 (Nat.le_of_ble_eq_true rfl) ?_
  intro p e s m below meth c C hr htab hlt
  refine gq_aload C d_W_scan_0 rfl ?_
  refine gq_iconst C (v := 0) d_W_scan_2 (by decide) ?_
  refine gq_aload_n C d_W_scan_3 rfl ?_
  refine gq_iload_n C d_W_scan_4 rfl ?_
  refine gq_iload_n C d_W_scan_5 rfl ?_
  refine gq_iload_n C d_W_scan_6 rfl ?_
  refine gq_catV C (st := [.int 0, .ref (al Z 45 0)]) (fun _ h => h.elim) (c_H_scan_x1b l hadm Z hZ V Y k hk h1 h2 a g) (qm (by decide) (by decide)) rfl rfl w_581 w_582 w_583 w_584 w_1 ⟨by decide, by decide, (by decide +kernel : (parseMethodDescriptor y_H_scan.desc).map (fun d => d.parameters.length) = some 3)⟩ (pre := []) (y0 := (0, 12, 15, 76)) (rest := [(0, 12, 19, 13), (0, 12, 23, 23)]) htab (names := []) ⟨fun z hz => absurd hz List.not_mem_nil, ⟨by decide, by decide⟩, by decide, w_580, w_595⟩ ⟨by decide, by decide⟩ ⟨by decide, by decide⟩ rfl (Nat.le_of_ble_eq_true rfl) d_W_scan_7 (fun ax => ?_)
  refine gq_astore C (lo' := [(5, .ref ax), (0, .ref (al Z 0 0)), (1, .int (nI k)), (2, .int a), (3, .int g), (4, .ref (al Z 45 0))]) d_W_scan_15 (by decide) rfl ?_
  refine gq_iconst C (v := 1) d_W_scan_17 (by decide) ?_
  exact gq_iretE C hr rfl rfl rfl (by decide) (by decide) d_W_scan_18

set_option maxHeartbeats 4000000 in
set_option maxRecDepth 100000 in
theorem c_W_pay_x1a (l : Launch) (hadm : ∀ e : Env, l.admits e → e.platform.stackTraces = false) (Z : qZ) (hZ : qok (pX Z)) (V : qV) (Y : qY) (k : Int32) (h : f_isBasket V k = 0) : CT l y_W_pay { frames := 8, cells := 1, slots := 6, locals := 143 } (pX Z) (qA (pX Z)) [.ref (al Z 0 0), .int k, .ref (al Z 45 0)] V Y (.inl (some (.int 1))) V Y := by
  refine CT.ofW (cc := b_W_pay) (maxL := 4) (ret := some .int) (hh := [(0, 8, 11, 76)]) hZ (by decide) w_614 (Nat.le_of_ble_eq_true rfl) ?_
  intro p e s m below meth c C hr htab hlt
  refine gq_aload_n C d_W_pay_0 rfl ?_
  refine gq_iconst C (v := 0) d_W_pay_1 (by decide) ?_
  refine gq_aload_n C d_W_pay_2 rfl ?_
  refine gq_iload_n C d_W_pay_3 rfl ?_
  refine gq_catV C (st := [.int 0, .ref (al Z 45 0)]) (fun _ h => h.elim) (c_H_pay_x1a l hadm Z hZ V Y k h) (qm (by decide) (by decide)) rfl rfl w_615 w_616 w_617 w_618 w_1 ⟨by decide, by decide, (by decide +kernel : (parseMethodDescriptor y_H_pay.desc).map (fun d => d.parameters.length) = some 1)⟩ (pre := []) (y0 := (0, 8, 11, 76)) (rest := []) htab (names := []) ⟨fun z hz => absurd hz List.not_mem_nil, ⟨by decide, by decide⟩, by decide, w_580, w_595⟩ ⟨by decide, by decide⟩ ⟨by decide, by decide⟩ rfl (Nat.le_of_ble_eq_true rfl) d_W_pay_4 (fun ax => ?_)
  refine gq_astore_n C (lo' := [(3, .ref ax), (0, .ref (al Z 0 0)), (1, .int k), (2, .ref (al Z 45 0))]) d_W_pay_11 rfl (by decide) rfl ?_
  refine gq_iconst C (v := 1) d_W_pay_12 (by decide) ?_
  exact gq_iretE C hr rfl rfl rfl (by decide) (by decide) d_W_pay_13

set_option maxHeartbeats 4000000 in
set_option maxRecDepth 100000 in
theorem c_W_pay_x1b (l : Launch) (hadm : ∀ e : Env, l.admits e → e.platform.stackTraces = false) (Z : qZ) (hZ : qok (pX Z)) (V : qV) (Y : qY) (k : Nat) (hk : k < 40) (h1 : f_isBasket V (nI k) = 1) (h2 : V 15 k 2 = 0) : CT l y_W_pay { frames := 8, cells := 1, slots := 6, locals := 143 } (pX Z) (qA (pX Z)) [.ref (al Z 0 0), .int (nI k), .ref (al Z 45 0)] V Y (.inl (some (.int 1))) V Y := by
  refine CT.ofW (cc := b_W_pay) (maxL := 4) (ret := some .int) (hh := [(0, 8, 11, 76)]) hZ (by decide) w_614 (Nat.le_of_ble_eq_true rfl) ?_
  intro p e s m below meth c C hr htab hlt
  refine gq_aload_n C d_W_pay_0 rfl ?_
  refine gq_iconst C (v := 0) d_W_pay_1 (by decide) ?_
  refine gq_aload_n C d_W_pay_2 rfl ?_
  refine gq_iload_n C d_W_pay_3 rfl ?_
  refine gq_catV C (st := [.int 0, .ref (al Z 45 0)]) (fun _ h => h.elim) (c_H_pay_x1b l hadm Z hZ V Y k hk h1 h2) (qm (by decide) (by decide)) rfl rfl w_615 w_616 w_617 w_618 w_1 ⟨by decide, by decide, (by decide +kernel : (parseMethodDescriptor y_H_pay.desc).map (fun d => d.parameters.length) = some 1)⟩ (pre := []) (y0 := (0, 8, 11, 76)) (rest := []) htab (names := []) ⟨fun z hz => absurd hz List.not_mem_nil, ⟨by decide, by decide⟩, by decide, w_580, w_595⟩ ⟨by decide, by decide⟩ ⟨by decide, by decide⟩ rfl (Nat.le_of_ble_eq_true rfl) d_W_pay_4 (fun ax => ?_)
  refine gq_astore_n C (lo' := [(3, .ref ax), (0, .ref (al Z 0 0)), (1, .int (nI k)), (2, .ref (al Z 45 0))]) d_W_pay_11 rfl (by decide) rfl ?_
  refine gq_iconst C (v := 1) d_W_pay_12 (by decide) ?_
  exact gq_iretE C hr rfl rfl rfl (by decide) (by decide) d_W_pay_13

set_option maxHeartbeats 4000000 in
set_option maxRecDepth 100000 in
theorem c_W_book (l : Launch) (Z : qZ) (hZ : qok (pX Z)) (V : qV) (Y : qY) (k : Nat) (hk : k < 40) (h1 : f_isBasket V (nI k) = 1) : CT l y_W_book { frames := 7, cells := 1, slots := 6, locals := 117 } (pX Z) (qA (pX Z)) [.ref (al Z 0 0), .int (nI k), .ref (al Z 45 0)] V Y (.inl (some (.int 0))) V (qy Y 45 0 0 ((V 15 k 1).toInt64)) := by
  refine CT.ofW (cc := b_W_book) (maxL := 4) (ret := some .int) (hh := [(0, 9, 12, 76)]) hZ (by decide) w_628 (Nat.le_of_ble_eq_true rfl) ?_
  intro p e s m below meth c C hr htab hlt
  refine gq_aload_n C d_W_book_0 rfl ?_
  refine gq_iconst C (v := 0) d_W_book_1 (by decide) ?_
  refine gq_aload_n C d_W_book_2 rfl ?_
  refine gq_iload_n C d_W_book_3 rfl ?_
  refine gq_callV C (st := [.int 0, .ref (al Z 45 0)]) (fun _ h => h.elim) (c_H_book l Z hZ V Y k hk h1) (qm (by decide) (by decide)) rfl rfl w_629 w_630 w_631 w_632 w_1 ⟨by decide, by decide, (by decide +kernel : (parseMethodDescriptor y_H_book.desc).map (fun d => d.parameters.length) = some 1)⟩ ⟨by decide, by decide⟩ ⟨by decide, by decide⟩ rfl (Nat.le_of_ble_eq_true rfl) d_W_book_4 ?_
  refine gq_i2l C d_W_book_7 ?_
  refine gq_last C (fun _ h => h) (g := 45) (j := 0) (a := 0) (t0 := 1) (qm (by decide) (by decide)) (fun _ => rfl) rfl rfl (by decide) (by decide) d_W_book_8 ?_
  refine gq_goto C (tgt := 15) d_W_book_9 rfl ?_
  refine gq_iconst C (v := 0) d_W_book_15 (by decide) ?_
  exact gq_iretE C hr rfl rfl rfl (by decide) (by decide) d_W_book_16

set_option maxHeartbeats 4000000 in
set_option maxRecDepth 100000 in
theorem c_W_book_x (l : Launch) (hadm : ∀ e : Env, l.admits e → e.platform.stackTraces = false) (Z : qZ) (hZ : qok (pX Z)) (V : qV) (Y : qY) (k : Int32) (h : f_isBasket V k = 0) : CT l y_W_book { frames := 7, cells := 1, slots := 6, locals := 117 } (pX Z) (qA (pX Z)) [.ref (al Z 0 0), .int k, .ref (al Z 45 0)] V Y (.inl (some (.int 1))) V Y := by
  refine CT.ofW (cc := b_W_book) (maxL := 4) (ret := some .int) (hh := [(0, 9, 12, 76)]) hZ (by decide) w_628 (Nat.le_of_ble_eq_true rfl) ?_
  intro p e s m below meth c C hr htab hlt
  refine gq_aload_n C d_W_book_0 rfl ?_
  refine gq_iconst C (v := 0) d_W_book_1 (by decide) ?_
  refine gq_aload_n C d_W_book_2 rfl ?_
  refine gq_iload_n C d_W_book_3 rfl ?_
  refine gq_catV C (st := [.int 0, .ref (al Z 45 0)]) (fun _ h => h.elim) (c_H_book_x l hadm Z hZ V Y k h) (qm (by decide) (by decide)) rfl rfl w_629 w_630 w_631 w_632 w_1 ⟨by decide, by decide, (by decide +kernel : (parseMethodDescriptor y_H_book.desc).map (fun d => d.parameters.length) = some 1)⟩ (pre := []) (y0 := (0, 9, 12, 76)) (rest := []) htab (names := []) ⟨fun z hz => absurd hz List.not_mem_nil, ⟨by decide, by decide⟩, by decide, w_580, w_595⟩ ⟨by decide, by decide⟩ ⟨by decide, by decide⟩ rfl (Nat.le_of_ble_eq_true rfl) d_W_book_4 (fun ax => ?_)
  refine gq_astore_n C (lo' := [(3, .ref ax), (0, .ref (al Z 0 0)), (1, .int k), (2, .ref (al Z 45 0))]) d_W_book_12 rfl (by decide) rfl ?_
  refine gq_iconst C (v := 1) d_W_book_13 (by decide) ?_
  exact gq_iretE C hr rfl rfl rfl (by decide) (by decide) d_W_book_14

set_option maxHeartbeats 4000000 in
set_option maxRecDepth 100000 in
theorem c_W_fetch (l : Launch) (Z : qZ) (hZ : qok (pX Z)) (V : qV) (Y : qY) (t : Nat) (ht : t < 4) (h n : Nat) (hh : h ≤ n) (hn : n ≤ 9) (h1 : V 7 t 1 = nI h) (h2 : V 0 0 2 = nI n) (hc : ∃ q, q ≤ 40 ∧ V 12 0 4 = nI q) : CT l y_W_fetch { frames := 8, cells := 1, slots := 6, locals := 139 } (pX Z) (qA (pX Z)) [.ref (al Z 0 0), .int (nI t), .ref (al Z 45 0)] V Y (.inl (some (.int 0))) (f_fetch (nI t) (n - h) (h + 1) V) (qy Y 45 0 0 ((nI n - nI h).toInt64)) := by
  refine CT.ofW (cc := b_W_fetch) (maxL := 4) (ret := some .int) (hh := [(0, 9, 12, 13)]) hZ (by decide) w_421 (Nat.le_of_ble_eq_true rfl) ?_
  intro p e s m below meth c C hr htab hlt
  refine gq_aload_n C d_W_fetch_0 rfl ?_
  refine gq_iconst C (v := 0) d_W_fetch_1 (by decide) ?_
  refine gq_aload_n C d_W_fetch_2 rfl ?_
  refine gq_iload_n C d_W_fetch_3 rfl ?_
  refine gq_callV C (st := [.int 0, .ref (al Z 45 0)]) (fun _ h => h) (c_H_fetch l Z hZ V Y t ht h n hh hn h1 h2 hc) (qm (by decide) (by decide)) rfl rfl w_422 w_423 w_424 w_425 w_1 ⟨by decide, by decide, (by decide +kernel : (parseMethodDescriptor y_H_fetch.desc).map (fun d => d.parameters.length) = some 1)⟩ ⟨by decide, by decide⟩ ⟨by decide, by decide⟩ rfl (Nat.le_of_ble_eq_true rfl) d_W_fetch_4 ?_
  refine gq_i2l C d_W_fetch_7 ?_
  refine gq_last C (fun _ h => h) (g := 45) (j := 0) (a := 0) (t0 := 1) (qm (by decide) (by decide)) (fun _ => rfl) rfl rfl (by decide) (by decide) d_W_fetch_8 ?_
  refine gq_goto C (tgt := 15) d_W_fetch_9 rfl ?_
  refine gq_iconst C (v := 0) d_W_fetch_15 (by decide) ?_
  exact gq_iretE C hr rfl rfl rfl (by decide) (by decide) d_W_fetch_16

set_option maxHeartbeats 4000000 in
set_option maxRecDepth 100000 in
theorem c_W_pay (l : Launch) (Z : qZ) (hZ : qok (pX Z)) (V : qV) (Y : qY) (k : Nat) (hk : k < 40) (hib : f_isBasket V (nI k) = 1) (hop : ¬ V 15 k 2 = 0) (t : Nat) (ht : t < 4) (h15 : V 15 k 0 = nI t) (b : Nat) (hb : b < 9) (hbk : V 15 k 1 = nI (b + 1)) (pn zf : Nat → Nat) (hp : ∀ a, a < 8 → V 16 k a = nI (pn a) ∧ pn a ≤ 30) (hz : ∀ u, u < 16 → V 3 (b + 1) u = nI (zf u) ∧ zf u < 100) : CT l y_W_pay { frames := 8, cells := 1, slots := 6, locals := 143 } (pX Z) (qA (pX Z)) [.ref (al Z 0 0), .int (nI k), .ref (al Z 45 0)] V Y (.inl (some (.int 0))) (f_pay V k t) (qy (quY Y 17 0 (f_payR V (b + 1) pn zf 8 0 (Y 17 0) 0).1) 45 0 0 ((f_payR V (b + 1) pn zf 8 0 (Y 17 0) 0).2)) := by
  refine CT.ofW (cc := b_W_pay) (maxL := 4) (ret := some .int) (hh := [(0, 8, 11, 76)]) hZ (by decide) w_614 (Nat.le_of_ble_eq_true rfl) ?_
  intro p e s m below meth c C hr htab hlt
  refine gq_aload_n C d_W_pay_0 rfl ?_
  refine gq_iconst C (v := 0) d_W_pay_1 (by decide) ?_
  refine gq_aload_n C d_W_pay_2 rfl ?_
  refine gq_iload_n C d_W_pay_3 rfl ?_
  refine gq_callV C (st := [.int 0, .ref (al Z 45 0)]) (fun _ h => h) (c_H_pay l Z hZ V Y k hk hib hop t ht h15 b hb hbk pn zf hp hz) (qm (by decide) (by decide)) rfl rfl w_615 w_616 w_617 w_618 w_1 ⟨by decide, by decide, (by decide +kernel : (parseMethodDescriptor y_H_pay.desc).map (fun d => d.parameters.length) = some 1)⟩ ⟨by decide, by decide⟩ ⟨by decide, by decide⟩ rfl (Nat.le_of_ble_eq_true rfl) d_W_pay_4 ?_
  refine gq_last C (fun _ h => h) (g := 45) (j := 0) (a := 0) (t0 := 1) (qm (by decide) (by decide)) (fun _ => rfl) rfl rfl (by decide) (by decide) d_W_pay_7 ?_
  refine gq_goto C (tgt := 14) d_W_pay_8 rfl ?_
  refine gq_iconst C (v := 0) d_W_pay_14 (by decide) ?_
  exact gq_iretE C hr rfl rfl rfl (by decide) (by decide) d_W_pay_15
