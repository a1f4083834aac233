/-! Constructors. The new cells lie one behind the other from z on: cell k at z + k holds E k, and N cells there are. -/
def kA (z : Nat) : Nat → Prop := fun q => z ≤ q
def kW (z N : Nat) (E : Nat → va_E) : va_W := (List.range N).map (fun k => (z + k, E k))
def KP (D : va_G) (z N : Nat) (E : Nat → va_E) (H : Heap) : Prop := va_P D qCl (kW z N E) H ∧ H.size = z + N
def kX (s : State) : Prop := va_AO "PriceHouse$PriceList" s ∧ va_AO "PriceHouse$Till" s ∧ va_AO "PriceHouse$Note" s ∧ va_AO "PriceHouse$Basket" s ∧ va_Nw (.methodLinkNest "PriceHouse$Desk" 24 ⟨"PriceHouse$Note", "<init>", "()V"⟩ "PriceHouse") s
theorem kX.warm {s U : State} (hW : s.WarmedH U.vm) (h : kX s) : kX U := ⟨h.1.moved hW.alike, h.2.1.moved hW.alike, h.2.2.1.moved hW.alike, h.2.2.2.1.moved hW.alike, h.2.2.2.2.warmM hW⟩
theorem kW_get {z N : Nat} {E : Nat → va_E} {k : Nat} (h : k < N) : (kW z N E)[k]? = some (z + k, E k) := by
  unfold kW
  rw [List.getElem?_map, List.getElem?_range h]
  rfl
theorem kW_inv {z N : Nat} {E : Nat → va_E} {k : Nat} {q : Nat × va_E} (h : (kW z N E)[k]? = some q) : k < N ∧ q = (z + k, E k) := by
  have hl : k < N := by
    have := (List.getElem?_eq_some_iff.mp h).1
    simpa [kW] using this
  exact ⟨hl, (Option.some.inj ((kW_get hl).symm.trans h)).symm⟩
theorem KP.at {D : va_G} {z N : Nat} {E : Nat → va_E} {H : Heap} (h : KP D z N E H) {k : Nat} (hk : k < N) : va_at D qCl (z + k, E k) H := h.1 k _ (kW_get hk)
theorem kW_D (z N : Nat) (E : Nat → va_E) : va_D (kA z) (kW z N E) := by
  refine ⟨fun i j p q hi hj he => ?_, fun k q hk => ?_⟩
  · obtain ⟨h1, rfl⟩ := kW_inv hi
    obtain ⟨h2, rfl⟩ := kW_inv hj
    have : z + i = z + j := he
    omega
  · obtain ⟨h1, rfl⟩ := kW_inv hk
    exact Nat.le_add_right _ _
theorem kW_set {z N : Nat} {E : Nat → va_E} {k : Nat} (e : va_E) (hk : k < N) : (kW z N E).set k (z + k, e) = kW z N (va_up E k e) := by
  apply List.ext_getElem?
  intro i
  have hl : k < (kW z N E).length := by simpa [kW] using hk
  by_cases h : i = k
  · subst h
    rw [List.getElem?_set_self hl, kW_get hk, va_up_self]
  · rw [List.getElem?_set_ne (Ne.symm h)]
    by_cases hi : i < N
    · rw [kW_get hi, kW_get hi, va_up_ne _ _ h]
    · rw [List.getElem?_eq_none (by simpa [kW] using hi), List.getElem?_eq_none (by simpa [kW] using hi)]
theorem KP.push {D : va_G} {z N : Nat} {E : Nat → va_E} {H H1 : Heap} {e : va_E} (h : KP D z N E H) (o1 : ∀ q, q < z + N → H1[q]? = H[q]?) (z1 : H1.size = z + N + 1) (he : va_at D qCl (z + N, e) H1) : KP D z (N + 1) (va_up E N e) H1 := by
  refine ⟨fun k q hk => ?_, by omega⟩
  obtain ⟨h1, rfl⟩ := kW_inv hk
  by_cases hkN : k = N
  · subst hkN
    rw [va_up_self]
    exact he
  · rw [va_up_ne _ _ hkN]
    exact (h.at (k := k) (by omega)).kept (o1 (z + k) (by omega))
theorem KP.put {D : va_G} {z N : Nat} {E : Nat → va_E} {H H1 : Heap} {k : Nat} {e : va_E} (h : KP D z N E H) (hk : k < N) (he : va_at D qCl (z + k, e) H1) (z1 : H1.size = H.size) (oq : ∀ q : Nat, q ≠ z + k → H1[q]? = H[q]?) : KP D z N (va_up E k e) H1 := by
  refine ⟨?_, z1.trans h.2⟩
  rw [← kW_set e hk]
  exact h.1.set (kW_D z N E) (kW_get hk) he oq
def KPost (D : va_G) (z : Nat) (rm : Room) (N' : Nat) (P : (Nat → va_E) → Prop) (st : State) (o : Outcome) (t : State) : Prop :=
  o = .returned none ∧ (∃ E', P E' ∧ KP D z N' E' t.heap) ∧ va_F (kA z) st t ∧ st.WarmedH t.vm ∧ ∃ L : List Loc, st.sameButNew ({ t with vm := st.vm } : State) L rm.cells rm.slots ∧ ∀ q ∈ L, kA z q.base
def KQ (below : List Frame) (D : va_G) (z : Nat) (rm : Room) (N' : Nat) (P : (Nat → va_E) → Prop) (st : State) : State → Prop := fun t => ∃ o, t.status = .running ∧ Ended t below o ∧ KPost D z rm N' P st o t
def KPre (D : va_G) (tys : List (ClassId × FieldType)) (z : Nat) (av : List Value) (N : Nat) (E : Nat → va_E) (a : Array Value) (U : State) : Prop := a = av.toArray ∧ KP D z N E U.heap ∧ va_K D qCl tys U ∧ kX U
def CK (l : Launch) (y : MethodName) (rm : Room) (D : va_G) (tys : List (ClassId × FieldType)) (z : Nat) (av : List Value) (N : Nat) (E : Nat → va_E) (N' : Nat) (P : (Nat → va_E) → Prop) : Prop :=
  MetFree l y (headSpec QT rm) (KPre D tys z av N E) (fun _ _ _ _ _ => True) (fun _ st o t => KPost D z rm N' P st o t)
def Kx (p : Program) (s : State) (m : MethodId) (args : Array Value) (meth : Method) (c : Code) (D : va_G) (tys : List (ClassId × FieldType)) (nL : Nat) (cc : ByteArray) (own : String) : Prop :=
  p.tables.exec = Jvm.exec ∧ c.code = cc ∧ c.maxLocals = nL ∧ s.vm.findClass own = some m.cls ∧ (∀ w ∈ QT, w.before args s = true) ∧ va_K D qCl tys s ∧ meth.locks = false ∧ kX s
def GK (p : Program) (l : Launch) (e : Env) (R : Room) (s : State) (m : MethodId) (args : Array Value) (below : List Frame) (meth : Method) (c : Code) (Q : State → Prop) (D : va_G) (z nL N : Nat) (E : Nat → va_E) (cells slots pc : Nat) (lo : List (Nat × Value)) (st : List Value) : Prop :=
  ∀ (H : Heap) (locs : List Loc) (ls : Array Slot), KP D z N E H → va_S (kA z) s.heap H locs → lv_has ls nL lo → W p l e R s m args below meth c H locs cells slots Q (F0 m pc ls st)
theorem CK.of {l : Launch} {y : MethodName} {rm : Room} {D : va_G} {tys : List (ClassId × FieldType)} {z : Nat} {av : List Value} {N N' : Nat} {E : Nat → va_E} {P : (Nat → va_E) → Prop} {cc : ByteArray} {maxL : Nat} (hy : plainName y.cls = true) (hy1 : y.name = "<init>") (hcw : Cond.code y cc maxL none ∈ QT) (hlen : (lg_sl av).length ≤ maxL)
    (body : ∀ (p : Program) (e : Env) (s : State) (m : MethodId) (below : List Frame) (meth : Method) (c : Code), Kx p s m av.toArray meth c D tys maxL cc y.cls → meth.sig.returnType = none → meth.name = "<init>" → GK p l e rm s m av.toArray below meth c (KQ below D z rm N' P s) D z maxL N E 0 0 0 (lv_args 0 av) []) : CK l y rm D tys z av N E N' P := by
  refine MetFree.of_bodyS (code := cc) (maxLocals := maxL) (ret := none) hy ?_ ?_
  · intro args s m h hn
    obtain ⟨meth, c, h1, h2, h3, h4, h5, h6, -, -⟩ := Cond.code_spec hn (atoms_spec (ws := QT) h _ hcw)
    exact ⟨meth, c, h1, h2, h3, h4, h5, h6⟩
  · intro p e s m args below meth c s₁ B hml hP _
    obtain ⟨rfl, hPP, hK, hX⟩ := hP
    have hh0 : s₁.heap = s.heap := by rw [B.state]; rfl
    have hts := atoms_spec (ws := QT) B.pre
    have X := Stand.of_body B
    have C : Kx p s m av.toArray meth c D tys maxL cc y.cls := ⟨B.exec, B.bytes, hml, findClass_of_methodNamed B.named, hts, hK, B.notSynchronized, hX⟩
    have K : W p l e rm s m av.toArray below meth c s.heap [] 0 0 (KQ below D z rm N' P s) (entryFrame m av.toArray maxL) := by
      rw [lg_entry_eq]
      exact body p e s m below meth c C B.returns ((name_of_methodNamed B.named B.method).1.trans hy1) s.heap [] _ hPP va_S.rf (lv_entry av (n := maxL) hlen)
    obtain ⟨t, a1, o, b1, b2, b3⟩ := K s₁ hh0 X
    exact ⟨t, o, a1, b1, b2, b3⟩
section QK
variable {p : Program} {l : Launch} {e : Env} {R : Room} {s : State} {m : MethodId} {args : Array Value} {below : List Frame} {meth : Method} {c : Code} {Q : State → Prop} {D : va_G} {tys : List (ClassId × FieldType)} {z nL N : Nat} {E E' : Nat → va_E} {cells slots pc : Nat} {lo lo' : List (Nat × Value)} {st : List Value} {cc : ByteArray} {own : String}
theorem GK.wide {k n : Nat} (h1 : cells ≤ k) (h2 : slots ≤ n) (kk : GK p l e R s m args below meth c Q D z nL N E k n pc lo st) : GK p l e R s m args below meth c Q D z nL N E cells slots pc lo st := fun H locs ls hP hS hl => W.widen h1 h2 (kk H locs ls hP hS hl)
theorem GK.eqN {N' : Nat} {st' : List Value} (h : N = N') (h2 : st = st') (kk : GK p l e R s m args below meth c Q D z nL N' E cells slots pc lo st') : GK p l e R s m args below meth c Q D z nL N E cells slots pc lo st := by subst h; subst h2; exact kk
theorem bk_iconst (C : Kx p s m args meth c D tys nL cc own) {n : Int} {v : Int32} (hd : decode cc pc = .ok (.iconst n, 1)) (hv : Int32.ofInt n = v) (k : GK p l e R s m args below meth c Q D z nL N E cells slots (pc + 1) lo (.int v :: st)) : GK p l e R s m args below meth c Q D z nL N E cells slots pc lo st := fun H locs ls hP hS hl => lv_iconst C.1 C.2.1 hd hv (k H locs ls hP hS hl)
theorem bk_bipush (C : Kx p s m args meth c D tys nL cc own) {n : Int} {v : Int32} (hd : decode cc pc = .ok (.bipush n, 2)) (hv : (Int8.ofInt n).toInt32 = v) (k : GK p l e R s m args below meth c Q D z nL N E cells slots (pc + 2) lo (.int v :: st)) : GK p l e R s m args below meth c Q D z nL N E cells slots pc lo st := fun H locs ls hP hS hl => lv_bipush C.1 C.2.1 hd hv (k H locs ls hP hS hl)
theorem bk_sipush (C : Kx p s m args meth c D tys nL cc own) {n : Int} {v : Int32} (hd : decode cc pc = .ok (.sipush n, 3)) (hv : (Int16.ofInt n).toInt32 = v) (k : GK p l e R s m args below meth c Q D z nL N E cells slots (pc + 3) lo (.int v :: st)) : GK p l e R s m args below meth c Q D z nL N E cells slots pc lo st := fun H locs ls hP hS hl => lv_sipush C.1 C.2.1 hd hv (k H locs ls hP hS hl)
theorem bk_iload_n (C : Kx p s m args meth c D tys nL cc own) {k : Fin 4} {v : Int32} (hd : decode cc pc = .ok (.iload_n k, 1)) (hi : qlk lo k = some (.int v)) (kk : GK p l e R s m args below meth c Q D z nL N E cells slots (pc + 1) lo (.int v :: st)) : GK p l e R s m args below meth c Q D z nL N E cells slots pc lo st := fun H locs ls hP hS hl => lv_iload_n C.1 C.2.1 hd rfl (qlk_ok hl hi) (kk H locs ls hP hS hl)
theorem bk_aload_n (C : Kx p s m args meth c D tys nL cc own) {k : Fin 4} {v : Nat} (hd : decode cc pc = .ok (.aload_n k, 1)) (hi : qlk lo k = some (.ref v)) (kk : GK p l e R s m args below meth c Q D z nL N E cells slots (pc + 1) lo (.ref v :: st)) : GK p l e R s m args below meth c Q D z nL N E cells slots pc lo st := fun H locs ls hP hS hl => lv_aload_n C.1 C.2.1 hd rfl (qlk_ok hl hi) (kk H locs ls hP hS hl)
theorem bk_istore_n (C : Kx p s m args meth c D tys nL cc own) {k : Fin 4} {i : Nat} {v : Int32} (hd : decode cc pc = .ok (.istore_n k, 1)) (hi : (k : Nat) = i) (hn : i < nL) (hl : (i, Value.int v) :: lo.filter (fun q => !(q.1 == i) && !(q.1 + 1 == i && q.2.category == 2)) = lo') (kk : GK p l e R s m args below meth c Q D z nL N E cells slots (pc + 1) lo' st) : GK p l e R s m args below meth c Q D z nL N E cells slots pc lo (.int v :: st) := fun H locs _ hP hS h => lv_istore_n C.1 C.2.1 hd hi h hn hl (fun ls' h' => kk H locs ls' hP hS h')
theorem bk_istore (C : Kx p s m args meth c D tys nL cc own) {i : Nat} {v : Int32} (hd : decode cc pc = .ok (.istore i, 2)) (hn : i < nL) (hl : (i, Value.int v) :: lo.filter (fun q => !(q.1 == i) && !(q.1 + 1 == i && q.2.category == 2)) = lo') (kk : GK p l e R s m args below meth c Q D z nL N E cells slots (pc + 2) lo' st) : GK p l e R s m args below meth c Q D z nL N E cells slots pc lo (.int v :: st) := fun H locs _ hP hS h => lv_istore C.1 C.2.1 hd h hn hl (fun ls' h' => kk H locs ls' hP hS h')
theorem bk_astore_n (C : Kx p s m args meth c D tys nL cc own) {k : Fin 4} {i : Nat} {v : Nat} (hd : decode cc pc = .ok (.astore_n k, 1)) (hi : (k : Nat) = i) (hn : i < nL) (hl : (i, Value.ref v) :: lo.filter (fun q => !(q.1 == i) && !(q.1 + 1 == i && q.2.category == 2)) = lo') (kk : GK p l e R s m args below meth c Q D z nL N E cells slots (pc + 1) lo' st) : GK p l e R s m args below meth c Q D z nL N E cells slots pc lo (.ref v :: st) := fun H locs _ hP hS h => lv_astore_n C.1 C.2.1 hd hi h hn hl (fun ls' h' => kk H locs ls' hP hS h')
theorem bk_iinc (C : Kx p s m args meth c D tys nL cc own) {i k : Nat} {n : Int} {v w : Int32} (hd : decode cc pc = .ok (.iinc i n, 3)) (hk : lo[k]? = some (i, .int v)) (hv : v + Int32.ofInt n = w) (hn : i < nL) (hl : (i, Value.int w) :: lo.filter (fun q => !(q.1 == i) && !(q.1 + 1 == i && q.2.category == 2)) = lo') (kk : GK p l e R s m args below meth c Q D z nL N E cells slots (pc + 3) lo' st) : GK p l e R s m args below meth c Q D z nL N E cells slots pc lo st := fun H locs _ hP hS h => lv_iinc C.1 C.2.1 hd h hk hv hn hl (fun ls' h' => kk H locs ls' hP hS h')
theorem bk_dup (C : Kx p s m args meth c D tys nL cc own) {v : Value} (hd : decode cc pc = .ok (.dup, 1)) (hv : v.category = 1) (k : GK p l e R s m args below meth c Q D z nL N E cells slots (pc + 1) lo (v :: v :: st)) : GK p l e R s m args below meth c Q D z nL N E cells slots pc lo (v :: st) := fun H locs ls hP hS hl => lv_dup C.1 C.2.1 hd hv (k H locs ls hP hS hl)
theorem bk_goto (C : Kx p s m args meth c D tys nL cc own) {off : Int} {tgt : Nat} (hd : decode cc pc = .ok (.goto off, 3)) (ht : (pc : Int) + off = (tgt : Int)) (k : GK p l e R s m args below meth c Q D z nL N E cells slots tgt lo st) : GK p l e R s m args below meth c Q D z nL N E cells slots pc lo st := fun H locs ls hP hS hl => lv_goto C.1 C.2.1 hd ht (k H locs ls hP hS hl)
theorem bk_icmp_ge (C : Kx p s m args meth c D tys nL cc own) {v w : Int32} {off : Int} {tgt : Nat} (hd : decode cc pc = .ok (.if_icmp .ge off, 3)) (ht : (pc : Int) + off = (tgt : Int)) (kt : w ≤ v → GK p l e R s m args below meth c Q D z nL N E cells slots tgt lo st) (kf : ¬ w ≤ v → GK p l e R s m args below meth c Q D z nL N E cells slots (pc + 3) lo st) : GK p l e R s m args below meth c Q D z nL N E cells slots pc lo (.int w :: .int v :: st) := fun H locs ls hP hS hl => lv_icmp_ge C.1 C.2.1 hd ht (fun h => kt h H locs ls hP hS hl) (fun h => kf h H locs ls hP hS hl)
theorem bk_obj (C : Kx p s m args meth c D tys nL cc own) {idx a : Nat} (hlink : Cond.methodLink own idx Lib.objectInit ∈ QT) (hinst : Cond.instanceMethod Lib.objectInit ∈ QT) (hcode : Cond.code Lib.objectInit ⟨#[0xb1]⟩ 1 none ∈ QT) (hd : decode cc pc = .ok (.invokespecial idx, 3)) (hfr : 1 ≤ R.frames) (hlo : (st.map fun v => v.category).sum + 12 ≤ R.locals) (kk : GK p l e R s m args below meth c Q D z nL N E cells slots (pc + 3) lo st) : GK p l e R s m args below meth c Q D z nL N E cells slots pc lo (.ref a :: st) := by
  intro H locs ls hP hS hl
  refine W.objInit C.1 C.2.1 C.2.2.2.1 (C.2.2.2.2.1 _ hlink) (C.2.2.2.2.1 _ hinst) (C.2.2.2.2.1 _ hcode) rfl (by rw [C.2.2.1]; exact hl.1) rfl hd hfr (by show 2 * 0 + _ + 12 ≤ _; omega) ?_
  exact W.eq (g2 := F0 m (pc + 3) ls st) rfl (kk H locs ls hP hS hl)
theorem kS_push {H0 H H1 : Heap} {locs : List Loc} {n : Nat} (hS : va_S (kA z) H0 H locs) (hn : H.size = n) (z1 : H1.size = n + 1) (o1 : ∀ q, q < n → H1[q]? = H[q]?) : va_S (kA z) H0 H1 locs := ⟨Nat.le_trans hS.1 (by omega), fun x h1 h2 => (o1 x (by have := hS.1; omega)).trans (hS.2.1 x h1 h2), hS.2.2⟩
theorem bk_new (C : Kx p s m args meth c D tys nL cc own) {C0 : String} {T : u_T} {N0 ci index : Nat} (ty : Nat → FieldType) (hty : ∀ k, k < N0 → parseFieldDescriptor (T k).2.2.1 = some (ty k)) (hin : ∀ w ∈ u_ws C0 T N0, w ∈ QT) (hcl : Cond.classLink own index C0 ∈ QT) (hinst : Cond.instantiable C0 N0 ∈ QT) (hini : Cond.initialized C0 ∈ QT) (hc : qCl[ci]? = some (C0, T, N0)) {fs : List Value} (hfs : ∀ j, j < N0 → defaultValue (ty j) = vp_V fs j) (hcells : cells + 1 ≤ R.cells) (hslots : slots + N0 ≤ R.slots) (hd : decode cc pc = .ok (.new index, 3))
    (kk : GK p l e R s m args below meth c Q D z nL (N + 1) (va_up E N (.inr (ci, fs))) (cells + 1) (slots + N0) (pc + 3) lo (.ref (z + N) :: st)) : GK p l e R s m args below meth c Q D z nL N E cells slots pc lo st := by
  intro H locs ls hP hS hl
  have hKn := C.2.2.2.2.2.1.1 ci _ hc
  have hts := C.2.2.2.2.1
  refine W.newcK C.1 C.2.1 C.2.2.2.1 (hts _ hcl) (hts _ hinst) (hts _ hini) rfl hd hcells hslots hKn.2.1 hP.2 fun H1 kC hkC e1 z1 o1 => ?_
  exact kk H1 locs ls (hP.push o1 z1 ⟨_, hc, (u_born ty hts hin hKn hkC e1 hty).to hfs⟩) (kS_push hS hP.2 z1 o1) hl
theorem bk_newa (C : Kx p s m args meth c D tys nL cc own) {atype : ArrayType} {ty : FieldType} (hty : newarray.typeOf atype = ty) (harr : Cond.arrayClass ty ∈ QT) {t0 : Nat} {cT : ClassId} (ht : tys[t0]? = some (cT, ty)) (hra : ∀ U, va_RA U cT ty → U.vm.findClass ("[" ++ ty.toString) = some cT) {n : Int32} {N0 : Nat} {a0 : vp_A} (ha : ∀ cA : ClassId, vp_cell cA a0 = arrV cA N0 (fun _ => defaultValue ty)) (hn : ¬ n < 0) (hN : n.toNatClampNeg = N0) (hbytes : N0 * componentBytes ty ≤ 536870912) (hcells : cells + 1 ≤ R.cells) (hslots : slots + N0 ≤ R.slots) (hd : decode cc pc = .ok (.newarray atype, 2))
    (kk : GK p l e R s m args below meth c Q D z nL (N + 1) (va_up E N (.inl (cT, a0))) (cells + 1) (slots + N0) (pc + 2) lo (.ref (z + N) :: st)) : GK p l e R s m args below meth c Q D z nL N E cells slots pc lo (.int n :: st) := by
  intro H locs ls hP hS hl
  subst hty
  refine va_newaK C.1 C.2.1 (C.2.2.2.2.1 _ harr) rfl hd rfl hn hN hbytes hcells hslots hP.2 fun H1 cA e1 z1 o1 hAr hNm => ?_
  have hc : cA = cT := Option.some.inj (hNm.symm.trans (hra s (C.2.2.2.2.2.1.2 t0 _ ht).2))
  subst hc
  exact kk H1 locs ls (hP.push o1 z1 (by show H1[z + N]? = some (vp_cell cA a0); rw [ha]; exact e1)) (kS_push hS hP.2 z1 o1) hl
theorem bk_newq (C : Kx p s m args meth c D tys nL cc own) {C0 : String} {index : Nat} (hcl : Cond.classLink own index C0 ∈ QT) (hover : va_AO C0 s) {t0 : Nat} {cT : ClassId} (ht : tys[t0]? = some (cT, .object C0)) {n : Int32} {N0 : Nat} (hn : ¬ n < 0) (hN : n.toNatClampNeg = N0) (hbytes : N0 * 4 ≤ 536870912) (hcells : cells + 1 ≤ R.cells) (hslots : slots + N0 ≤ R.slots) (hd : decode cc pc = .ok (.anewarray index, 3))
    (kk : GK p l e R s m args below meth c Q D z nL (N + 1) (va_up E N (.inl (cT, N0, .inr (.inr (.inr (.inr (fun _ => none))))))) (cells + 1) (slots + N0) (pc + 3) lo (.ref (z + N) :: st)) : GK p l e R s m args below meth c Q D z nL N E cells slots pc lo (.int n :: st) := by
  intro H locs ls hP hS hl
  subst hN
  refine W.anew C.1 C.2.1 C.2.2.2.1 (C.2.2.2.2.1 _ hcl) (va_AO.use hover) rfl hd rfl hn hbytes hcells hslots fun cA kA comp f1 f2 f3 f4 => ?_
  obtain ⟨_, _, _, _, _, g1⟩ := (C.2.2.2.2.2.1.2 t0 _ ht).2
  have hc : cA = cT := Option.some.inj (f1.symm.trans g1)
  subst hc
  have hz := hP.2
  rw [hz]
  refine kk _ locs ls (hP.push (fun q hq => ?_) (by rw [Array.size_push, hz]) ?_) (kS_push hS hz (by rw [Array.size_push, hz]) (fun q hq => ?_)) hl
  · rw [Array.getElem?_push, if_neg (by omega)]
  · show (H.push _)[z + N]? = some (vp_cell cA _)
    rw [← hz, Array.getElem?_push_size, vp_cell_q, ← arrV_new]
    rfl
  · rw [Array.getElem?_push, if_neg (by omega)]
theorem bk_get (C : Kx p s m args meth c D tys nL cc own) {k j ci index N0 : Nat} {T : u_T} {C0 : String} {fs : List Value} {v : Value} (hj : j < N) (he : E j = .inr (ci, fs)) (hc : qCl[ci]? = some (C0, T, N0)) (hin : ∀ w ∈ u_ws C0 T N0, w ∈ QT) (hk : k < N0) (hlink : Cond.fieldLink own index (T k).1 (T k).2.1 (T k).2.2.1 ∈ QT) (hv : fs[k]? = some v) (hd : decode cc pc = .ok (.getfield index, 3))
    (kk : GK p l e R s m args below meth c Q D z nL N E cells slots (pc + 3) lo (v :: st)) : GK p l e R s m args below meth c Q D z nL N E cells slots pc lo (.ref (z + j) :: st) := by
  intro H locs ls hP hS hl
  exact va_get C.1 C.2.1 C.2.2.2.2.1 hin C.2.2.2.1 C.2.2.2.2.2.1 hP.1 j (by rw [kW_get hj, he]) hc k hk (C.2.2.2.2.1 _ hlink) (fun _ h => h) hv hd (kk H locs ls hP hS hl)
theorem bk_put (C : Kx p s m args meth c D tys nL cc own) (hinit : meth.name = "<init>") {k j ci index N0 : Nat} {T : u_T} {C0 : String} {fs : List Value} {v : Value} {ty : FieldType} (ty0 : Nat → FieldType) (hty : ∀ k, k < N0 → parseFieldDescriptor (T k).2.2.1 = some (ty0 k)) (hnm : ∀ a, a < N0 → ∀ b, b < N0 → a ≠ b → (T a).2.1 ≠ (T b).2.1) (hj : j < N) (he : E j = .inr (ci, fs)) (hc : qCl[ci]? = some (C0, T, N0)) (hin : ∀ w ∈ u_ws C0 T N0, w ∈ QT) (hk : k < N0) (hlink : Cond.fieldLink own index (T k).1 (T k).2.1 (T k).2.2.1 ∈ QT) (hdecl : (T k).1 = own) (hdd : parseFieldDescriptor (T k).2.2.1 = some ty) (hn : narrow ty v = v) (hfit : fits ty v = true) (hl : k < fs.length) (hd : decode cc pc = .ok (.putfield index, 3))
    (kk : GK p l e R s m args below meth c Q D z nL N (va_up E j (.inr (ci, fs.set k v))) cells slots (pc + 3) lo st) : GK p l e R s m args below meth c Q D z nL N E cells slots pc lo (v :: .ref (z + j) :: st) := by
  intro H locs ls hP hS hl2
  have hts := C.2.2.2.2.1
  have hK := C.2.2.2.2.2.1
  have hap := va_apart (own := own) hts hin ty0 hty hnm hK hc
  obtain ⟨r, h1, cell, q1, q2, q3, q4⟩ := (show va_at D qCl (z + j, .inr (ci, fs)) H from he ▸ hP.at hj)
  obtain rfl : r = (C0, T, N0) := Option.some.inj (h1.symm.trans hc)
  obtain ⟨hSl, hfc, kC, hkC, hkind⟩ := hK.1 ci _ hc
  obtain ⟨cf, kf, fi, f, hi, hsl⟩ := hSl k hk
  have hlay := hts _ (hin _ (u_in_lay hk))
  unfold u_lay at hlay
  have hst := (u_facts hfc hkC (u_lays hts hin hk) hi).1
  by_cases hfin : (T k).2.2.2 = true
  · rw [if_pos hfin] at hlay
    have hcf : m.cls = cf := by
      obtain ⟨_, _, c', _, _, _, -, -, hf', -, -, -, hown2, -⟩ := Cond.laysFinal_spec hlay
      have e1 : c' = cf := by have := hi.symm.trans hf'; simp at this; exact this.1.symm
      rw [hdecl] at hown2
      rw [← e1]; exact Option.some.inj (C.2.2.2.1.symm.trans hown2)
    have h6 := u_fits hfc hkC hkind (Or.inr hlay) hi hdd hn hfit
    refine W.putFinK C.1 C.2.1 C.2.2.2.1 (hts _ hlink) hi hst hcf hinit (by rw [q2]; exact h6) q1 q3 (by rw [hsl]; exact k2_hasslot (q4 k hk)) rfl rfl hd fun H' e1 e2 e3 => ?_
    rw [hsl] at e1 ⊢
    exact kk H' _ ls (hP.put hj ⟨_, hc, t_OB.to (V := updV (vp_V fs) k v) ⟨_, e1, q2, q3, t_set q4 hap hk v⟩ (fun j _ => vp_updV_set hl v j)⟩ e2 e3) (hS.put e2 e3 (Nat.le_add_right _ _)) hl2
  · rw [if_neg hfin] at hlay
    have h6 := u_store hfc hkC hkind hlay hi hdd hn hfit
    refine W.putK C.1 C.2.1 (f := f) ⟨C.2.2.2.1, hts _ hlink, ⟨_, _, _, hi⟩, hst⟩ (by rw [q2]; exact h6) q1 q3 (by rw [hsl]; exact k2_hasslot (q4 k hk)) rfl rfl hd fun H' e1 e2 e3 => ?_
    rw [hsl] at e1 ⊢
    exact kk H' _ ls (hP.put hj ⟨_, hc, t_OB.to (V := updV (vp_V fs) k v) ⟨_, e1, q2, q3, t_set q4 hap hk v⟩ (fun j _ => vp_updV_set hl v j)⟩ e2 e3) (hS.put e2 e3 (Nat.le_add_right _ _)) hl2
theorem k_end {rm : Room} {H : Heap} {locs : List Loc} {P : (Nat → va_E) → Prop} (hp : P E) (hP : KP D z N E H) (hS : va_S (kA z) s.heap H locs) (t : State) (h : MQ below (fun _ _ o t => o = .returned none ∧ t.heap = H) args s rm.cells rm.slots (kA z) t) : KQ below D z rm N P s t := by
  obtain ⟨o, h1, h2, ⟨rfl, hH⟩, L, ⟨-, hW, hsm⟩, hL⟩ := h
  exact ⟨_, h1, h2, rfl, ⟨E, hp, by rw [hH]; exact hP⟩, hS.F hH, hW, L, hsm, hL⟩
theorem bk_ret (C : Kx p s m args meth c D tys nL cc own) {rm : Room} {P : (Nat → va_E) → Prop} (hr : meth.sig.returnType = none) (hc : cells ≤ rm.cells) (hs : slots ≤ rm.slots) (hd : decode cc pc = .ok (.return_, 1)) (hp : P E) : GK p l e R s m args below meth c (KQ below D z rm N P s) D z nL N E cells slots pc lo [] := by
  intro H locs ls hP hS hl
  refine W.widen hc hs ?_
  exact W_mono (k_end hp hP hS) (W.vret C.1 C.2.1 hr (fun t ht _ => ⟨rfl, ht⟩) hS.2.2 hd C.2.2.2.2.2.2.1)
theorem bk_aast (C : Kx p s m args meth c D tys nL cc own) {ja jv a n t0 ci : Nat} {cT : ClassId} {r : vw_C} {vs : List Value} {f : Nat → Option Nat} {i : Int32} (hja : ja < N) (hjv : jv < N) (hea : E ja = .inl (cT, n, .inr (.inr (.inr (.inr f))))) (hev : E jv = .inr (ci, vs)) (ht : tys[t0]? = some (cT, .object r.1)) (hc : qCl[ci]? = some r) (hi : i = nI a) (ha : a < n) (hn : n < 2 ^ 31) (hd : decode cc pc = .ok (.aastore, 1))
    (kk : GK p l e R s m args below meth c Q D z nL N (va_up E ja (.inl (cT, n, .inr (.inr (.inr (.inr (va_up f a (some (z + jv)))))))) ) cells slots (pc + 1) lo st) : GK p l e R s m args below meth c Q D z nL N E cells slots pc lo (.ref (z + jv) :: .int i :: .ref (z + ja) :: st) := by
  intro H locs ls hP hS hl
  have hK := C.2.2.2.2.2.1
  subst hi
  obtain ⟨r', hr', cellV, g1, g2, g3, -⟩ := (show va_at D qCl (z + jv, .inr (ci, vs)) H from hev ▸ hP.at hjv)
  have hcls := (hK.1 ci r hc).2
  obtain ⟨kA', comp, k1, k2, k3, -⟩ := (hK.2 t0 _ ht).2
  have hcomp : comp = D.1 ci := Option.some.inj (k3.symm.trans hcls.1)
  subst hcomp
  obtain ⟨kC, hkC, -⟩ := hcls.2
  have hat : va_at D qCl (z + ja, .inl (cT, n, .inr (.inr (.inr (.inr f))))) H := hea ▸ hP.at hja
  refine W.aast C.1 C.2.1 hat (fun q h => by cases h) (fun h => by cases h) k1 k2 rfl hkC ⟨nI_pos (by omega), by show _ < (arrV _ _ _).slots.size; rw [arrV_size, nI_clamp (by omega)]; exact ha⟩ g1 (fun q h => by rw [g3] at h; cases h) (by rw [g2]; exact hkC) (by rw [g2]; exact va_assign hcls) rfl rfl hd fun H1 e z1 oq => ?_
  refine kk H1 _ ls (hP.put hja ?_ z1 oq) (hS.put z1 oq (Nat.le_add_right _ _)) hl
  show H1[z + ja]? = some (vp_cell _ _)
  rw [e, nI_clamp (by omega)]
  rw [vp_cell_q, vp_cell_q, arrV_store]
  congr 2
  funext q
  by_cases hq : q = a
  · subst hq
    simp [updV, va_up, va_rf]
  · simp [updV, va_up, hq]
theorem bk_iast (C : Kx p s m args meth c D tys nL cc own) {ja a n t0 : Nat} {cT : ClassId} {f : Nat → Int32} {i x : Int32} (hja : ja < N) (hea : E ja = .inl (cT, n, .inl f)) (ht : tys[t0]? = some (cT, .int)) (hi : i = nI a) (ha : a < n) (hn : n < 2 ^ 31) (hd : decode cc pc = .ok (.iastore, 1))
    (kk : GK p l e R s m args below meth c Q D z nL N (va_up E ja (.inl (cT, n, .inl (upd f a x)))) cells slots (pc + 1) lo st) : GK p l e R s m args below meth c Q D z nL N E cells slots pc lo (.int x :: .int i :: .ref (z + ja) :: st) := by
  intro H locs ls hP hS hl
  have hK := C.2.2.2.2.2.1
  subst hi
  have hat : va_at D qCl (z + ja, .inl (cT, n, .inl f)) H := hea ▸ hP.at hja
  refine W.iast C.1 C.2.1 hat ((hK.2 t0 _ ht).1 n (fun j => .int (f j))) (fun q => by cases q) (by show ¬ (nI a < 0 ∨ (arrV _ _ _).slots.size ≤ _); rw [arrV_size]; exact vp_in_nI ha hn) rfl rfl hd fun H1 e z1 oq => ?_
  refine kk H1 _ ls (hP.put hja ?_ z1 oq) (hS.put z1 oq (Nat.le_add_right _ _)) hl
  show H1[z + ja]? = some (vp_cell _ _)
  rw [e, nI_clamp (by omega)]
  show _ = some (arrV cT n (fun j => .int (upd f a x j)))
  rw [show vp_cell cT (n, .inl f) = arrV cT n (fun j => .int (f j)) from rfl, arrV_store]
  congr 2
  funext q
  by_cases hq : q = a
  · subst hq
    simp [updV, pk_us]
  · simp [updV, hq, pk_un hq]
theorem bk_zast (C : Kx p s m args meth c D tys nL cc own) {ja a n t0 : Nat} {cT : ClassId} {f : Nat → Int32} {i x : Int32} (hja : ja < N) (hea : E ja = .inl (cT, n, .inl f)) (ht : tys[t0]? = some (cT, .boolean)) (hi : i = nI a) (ha : a < n) (hn : n < 2 ^ 31) (hx : narrow .boolean (.int x) = .int x) (hd : decode cc pc = .ok (.bastore, 1))
    (kk : GK p l e R s m args below meth c Q D z nL N (va_up E ja (.inl (cT, n, .inl (upd f a x)))) cells slots (pc + 1) lo st) : GK p l e R s m args below meth c Q D z nL N E cells slots pc lo (.int x :: .int i :: .ref (z + ja) :: st) := by
  intro H locs ls hP hS hl
  have hK := C.2.2.2.2.2.1
  subst hi
  have hat : va_at D qCl (z + ja, .inl (cT, n, .inl f)) H := hea ▸ hP.at hja
  refine W.zast C.1 C.2.1 hat ((hK.2 t0 _ ht).1 n (fun j => .int (f j))) (fun q => by cases q) (by show ¬ (nI a < 0 ∨ (arrV _ _ _).slots.size ≤ _); rw [arrV_size]; exact vp_in_nI ha hn) rfl rfl hd fun H1 e z1 oq => ?_
  refine kk H1 _ ls (hP.put hja ?_ z1 oq) (hS.put z1 oq (Nat.le_add_right _ _)) hl
  show H1[z + ja]? = some (vp_cell _ _)
  rw [e, nI_clamp (by omega), hx]
  show _ = some (arrV cT n (fun j => .int (upd f a x j)))
  rw [show vp_cell cT (n, .inl f) = arrV cT n (fun j => .int (f j)) from rfl, arrV_store]
  congr 2
  funext q
  by_cases hq : q = a
  · subst hq
    simp [updV, pk_us]
  · simp [updV, hq, pk_un hq]
theorem k_run (C : Kx p s m args meth c D tys nL cc own) {T : State} {vm₁ : Vm} {H : Heap} {locs : List Loc} {ls : Array Slot} {y : MethodName} {rm : Room} {k N' : Nat} {P : (Nat → va_E) → Prop} {bytes : ByteArray} {maxL index : Nat} {mk : MethodId} (hT : T.heap = H) (X₁ : Stand p l e R s m args below meth c (T.setVm vm₁) locs cells slots) (hM : CK l y rm D tys z [.ref (z + k)] N E N' P)
    (hcode : Cond.code y bytes maxL none ∈ QT) (hini : Cond.initialized y.cls ∈ QT) (hR : rm.frames + 1 ≤ R.frames ∧ 8 + (maxL + 11) + rm.locals ≤ R.locals) (hf : cells + rm.cells ≤ R.cells ∧ slots + rm.slots ≤ R.slots) (hP : KP D z N E H) (hS : va_S (kA z) s.heap H locs) (hl : lv_has ls nL lo) (hW : (st.map fun v => v.category).sum ≤ 8) (hd : decode cc pc = .ok (.invokespecial index, 3)) (hn : s.methodNamed? y = some mk)
    (kk : ∀ E', P E' → GK p l e R s m args below meth c Q D z nL N' E' (cells + rm.cells) (slots + rm.slots) (pc + 3) lo st) :
    ∃ t2, Steps p.tables e below (doInvoke e ((T.setVm vm₁).setTop (F0 m pc ls st)) [] mk ([.ref (z + k)] : List Value).toArray).1 t2 ∧ Q t2 := by
  have hws : ∀ w ∈ QT, w.before ([.ref (z + k)] : List Value).toArray (T.setVm vm₁) = true := fun w hw => qgw_at X₁.warmed (QT_qgw w hw) (C.2.2.2.2.1 w hw)
  have hnT : (T.setVm vm₁).methodNamed? y = some mk := X₁.named hn
  obtain ⟨methY, cY, hmY, hcY, -, hlY, -, -, -, -⟩ := Cond.code_spec hnT (hws _ hcode)
  obtain ⟨kY, hkY, -⟩ := className_of_methodNamed hnT
  have hinitY : kY.init = .initialized := Cond.initialized_spec (findClass_of_methodNamed hnT) hkY (hws _ hini)
  have h : At (T.setVm vm₁) (F0 m pc ls st).method c below := X₁.here
  have hdg : decode c.code (F0 m pc ls st).pc = .ok (.invokespecial index, 3) := by rw [C.2.1]; exact hd
  have happ : (headSpec QT rm).appliesLoose y e.platform ((T.setVm vm₁).calling (F0 m pc ls st) mk ([.ref (z + k)] : List Value).toArray) = true :=
    Spec.appliesLoose_calling (g := F0 m pc ls st) h hdg hnT hkY hinitY (X₁.room_calling (g := F0 m pc ls st) (R' := rm) (hl.1.trans C.2.2.1.symm) hmY hcY hR.1 (by rw [hlY]; show 2 * 0 + (st.map fun v => v.category).sum + (maxL + 11) + rm.locals ≤ R.locals; omega) hf.1 hf.2) (atoms_intro hws)
  have hfr : ((T.setVm vm₁).setTop (F0 m pc ls st)).frames = [.java (F0 m pc ls st)] ++ below := by rw [State.frames_setTop' (F0 m pc ls st) h.top, X₁.tail]; rfl
  obtain ⟨o, t, hsteps, -, hend, hq⟩ := Steps.callFree hM p X₁.admits X₁.cas X₁.clock (acts := []) hfr happ
    ⟨rfl, by show KP D z N E T.heap; rw [hT]; exact hP, va_K.moved (u := s) X₁.warmed.alike C.2.2.2.2.2.1, kX.warm X₁.warmed C.2.2.2.2.2.2.2⟩ trivial
  rw [hfr] at hend
  obtain ⟨a3, ⟨E', hp, a4⟩, a5, a6, L, a7, a8⟩ := hq
  subst a3
  obtain ⟨T', X', -, -, ht⟩ := X₁.outOf (g := F0 m pc ls st) rfl hdg hend a6 a7
  have hT' : T'.heap = t.heap := by rw [ht]; rfl
  obtain ⟨t2, b1, b2⟩ := kk E' hp T'.heap (locs ++ L) ls (by rw [hT']; exact a4) (by rw [hT']; exact q_S hS (T := T.setVm vm₁) hT rfl a5 (fun _ h => h) a8) hl T' rfl X'
  refine ⟨t2, hsteps.trans ?_, b2⟩
  rw [ht]
  exact b1
theorem bk_call (C : Kx p s m args meth c D tys nL cc own) {y : MethodName} {rm : Room} {k N' : Nat} {P : (Nat → va_E) → Prop} {bytes : ByteArray} {maxL index : Nat} (hM : CK l y rm D tys z [.ref (z + k)] N E N' P) (hy1 : y.name = "<init>") (hlink : Cond.methodLink own index y ∈ QT) (hinst : Cond.instanceMethod y ∈ QT) (hcode : Cond.code y bytes maxL none ∈ QT) (hini : Cond.initialized y.cls ∈ QT) (hy : y.cls ≠ "java/lang/invoke/MethodHandle" ∧ y.cls ≠ "java/lang/invoke/VarHandle" ∧ (parseMethodDescriptor y.desc).map (fun d => d.parameters.length) = some 0)
    (hR : rm.frames + 1 ≤ R.frames ∧ 8 + (maxL + 11) + rm.locals ≤ R.locals) (hf : cells + rm.cells ≤ R.cells ∧ slots + rm.slots ≤ R.slots) (hW : (st.map fun v => v.category).sum ≤ 8) (hd : decode cc pc = .ok (.invokespecial index, 3))
    (kk : ∀ E', P E' → GK p l e R s m args below meth c Q D z nL N' E' (cells + rm.cells) (slots + rm.slots) (pc + 3) lo st) : GK p l e R s m args below meth c Q D z nL N E cells slots pc lo (.ref (z + k) :: st) := by
  intro H locs ls hP hS hl T hT X
  have hts := C.2.2.2.2.1
  have hpl : e.platform.magicAccessors = ({} : Platform).magicAccessors := by rw [X.admits.platform]
  obtain ⟨mk, methM, cM, kP, vm₁, hnamed, -, -, -, -, -, -, -, hW₁, hstep₁⟩ := Steps.initColdArgs (e := e) X.here C.1 X.warmed hpl C.2.2.2.1 hy1 ⟨hy.1, hy.2.1⟩ (hts _ hlink) (hts _ hinst) (hts _ hcode) (f := F0 m pc ls (.ref (z + k) :: st)) rfl (a := z + k) (argsL := []) (rest := st) (fun sig h => by have h2 := hy.2.2; rw [h] at h2; exact (Option.some.inj h2).symm) rfl (by rw [C.2.1]; exact hd)
  obtain ⟨t2, h1, h2⟩ := k_run C hT (X.noted hW₁) hM hcode hini hR hf hP hS hl hW hd hnamed kk
  exact ⟨t2, hstep₁ _ (fun acts => by rw [doInvoke_state]; exact h1), h2⟩
theorem bk_callN (C : Kx p s m args meth c D tys nL cc own) {y : MethodName} {rm : Room} {k N' : Nat} {P : (Nat → va_E) → Prop} {bytes : ByteArray} {maxL index : Nat} {host : String} (hM : CK l y rm D tys z [.ref (z + k)] N E N' P) (hy1 : y.name = "<init>") (hlink : va_Nw (.methodLinkNest own index y host) s) (hinst : Cond.instanceMethod y ∈ QT) (hcode : Cond.code y bytes maxL none ∈ QT) (hini : Cond.initialized y.cls ∈ QT) (hy : y.cls ≠ "java/lang/invoke/MethodHandle" ∧ y.cls ≠ "java/lang/invoke/VarHandle" ∧ (parseMethodDescriptor y.desc).map (fun d => d.parameters.length) = some 0)
    (hR : rm.frames + 1 ≤ R.frames ∧ 8 + (maxL + 11) + rm.locals ≤ R.locals) (hf : cells + rm.cells ≤ R.cells ∧ slots + rm.slots ≤ R.slots) (hW : (st.map fun v => v.category).sum ≤ 8) (hd : decode cc pc = .ok (.invokespecial index, 3))
    (kk : ∀ E', P E' → GK p l e R s m args below meth c Q D z nL N' E' (cells + rm.cells) (slots + rm.slots) (pc + 3) lo st) : GK p l e R s m args below meth c Q D z nL N E cells slots pc lo (.ref (z + k) :: st) := by
  intro H locs ls hP hS hl T hT X
  have hts := C.2.2.2.2.1
  have hpl : e.platform.magicAccessors = ({} : Platform).magicAccessors := by rw [X.admits.platform]
  obtain ⟨mk, methM, cM, kP, vm₁, hnamed, -, -, -, -, -, -, -, hW₁, hstep₁⟩ := Steps.initColdArgsNest (e := e) (args := args) X.here C.1 X.warmed hpl C.2.2.2.1 hy1 ⟨hy.1, hy.2.1⟩ (va_Nw.use rfl hlink) (hts _ hinst) (hts _ hcode) (f := F0 m pc ls (.ref (z + k) :: st)) rfl (a := z + k) (argsL := []) (rest := st) (fun sig h => by have h2 := hy.2.2; rw [h] at h2; exact (Option.some.inj h2).symm) rfl (by rw [C.2.1]; exact hd)
  obtain ⟨t2, h1, h2⟩ := k_run C hT (X.noted hW₁) hM hcode hini hR hf hP hS hl hW hd hnamed kk
  exact ⟨t2, hstep₁ _ (fun acts => by rw [doInvoke_state]; exact h1), h2⟩
end QK
