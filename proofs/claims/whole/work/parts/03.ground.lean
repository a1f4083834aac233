/-! The ground of all contracts here. A world is a list of cells (g, j): family g, number j; its address is qal x g j, its content is qcf x g j of the ints V g j and the longs Y g j. So the heap is the pair V, Y, and every row of a walk speaks of these alone. -/
abbrev qX : Type := va_G × List vw_C × List (ClassId × FieldType) × (Nat → Nat → Nat) × List (Nat × Nat) × (Nat → Nat → (Nat → Int32) → (Nat → Int64) → va_E)
abbrev qD (x : qX) : va_G := x.1
abbrev qcl (x : qX) : List vw_C := x.2.1
abbrev qty (x : qX) : List (ClassId × FieldType) := x.2.2.1
abbrev qal (x : qX) : Nat → Nat → Nat := x.2.2.2.1
abbrev qI (x : qX) : List (Nat × Nat) := x.2.2.2.2.1
abbrev qcf (x : qX) : Nat → Nat → (Nat → Int32) → (Nat → Int64) → va_E := x.2.2.2.2.2
abbrev qV : Type := Nat → Nat → Nat → Int32
abbrev qY : Type := Nat → Nat → Nat → Int64
def qw (x : qX) (V : qV) (Y : qY) : va_W := (qI x).map (fun q => (qal x q.1 q.2, qcf x q.1 q.2 (V q.1 q.2) (Y q.1 q.2)))
def qA (x : qX) : Nat → Prop := fun a => ∃ q : Nat × Nat, q ∈ qI x ∧ a = qal x q.1 q.2
def qok (x : qX) : Prop := ∀ (i j : Nat) (p q : Nat × Nat), (qI x)[i]? = some p → (qI x)[j]? = some q → qal x p.1 p.2 = qal x q.1 q.2 → i = j
def qu (V : qV) (g j : Nat) (f : Nat → Int32) : qV := fun g' j' => if g' = g ∧ j' = j then f else V g' j'
def qv (V : qV) (g j k : Nat) (v : Int32) : qV := qu V g j (upd (V g j) k v)
def quY (Y : qY) (g j : Nat) (f : Nat → Int64) : qY := fun g' j' => if g' = g ∧ j' = j then f else Y g' j'
def qy (Y : qY) (g j k : Nat) (v : Int64) : qY := quY Y g j (vp_updL (Y g j) k v)
theorem qu_self (V : qV) (g j : Nat) : qu V g j (V g j) = V := by
  funext a b
  unfold qu
  split
  · rename_i h
    rw [h.1, h.2]
  · rfl
theorem quY_self (Y : qY) (g j : Nat) : quY Y g j (Y g j) = Y := by
  funext a b
  unfold quY
  split
  · rename_i h
    rw [h.1, h.2]
  · rfl
theorem qv_at (V : qV) (g j k : Nat) (v : Int32) (a b c : Nat) : qv V g j k v a b c = if a = g ∧ b = j ∧ c = k then v else V a b c := by
  unfold qv qu
  by_cases h : a = g ∧ b = j
  · rw [if_pos h]
    by_cases hc : c = k
    · rw [if_pos ⟨h.1, h.2, hc⟩, hc, pk_us]
    · rw [if_neg (fun z => hc z.2.2), pk_un hc, h.1, h.2]
  · rw [if_neg h, if_neg (fun z => h ⟨z.1, z.2.1⟩)]
theorem qy_at (Y : qY) (g j k : Nat) (v : Int64) (a b c : Nat) : qy Y g j k v a b c = if a = g ∧ b = j ∧ c = k then v else Y a b c := by
  unfold qy quY
  by_cases h : a = g ∧ b = j
  · rw [if_pos h]
    by_cases hc : c = k
    · rw [if_pos ⟨h.1, h.2, hc⟩, hc, pk_uLs]
    · rw [if_neg (fun z => hc z.2.2), pk_uLn hc, h.1, h.2]
  · rw [if_neg h, if_neg (fun z => h ⟨z.1, z.2.1⟩)]
theorem qw_get (x : qX) (V : qV) (Y : qY) (k : Nat) : (qw x V Y)[k]? = ((qI x)[k]?).map (fun q => (qal x q.1 q.2, qcf x q.1 q.2 (V q.1 q.2) (Y q.1 q.2))) := by
  unfold qw
  rw [List.getElem?_map]
theorem qw_at {x : qX} {g j : Nat} (V : qV) (Y : qY) (h : (g, j) ∈ qI x) : ∃ k : Nat, (qI x)[k]? = some (g, j) ∧ (qw x V Y)[k]? = some (qal x g j, qcf x g j (V g j) (Y g j)) := by
  obtain ⟨k, hk⟩ := List.getElem?_of_mem h
  exact ⟨k, hk, by rw [qw_get, hk]; rfl⟩
theorem qw_D {x : qX} (h : qok x) (V : qV) (Y : qY) : va_D (qA x) (qw x V Y) := by
  refine ⟨fun i j p q hi hj he => ?_, fun k q hk => ?_⟩
  · rw [qw_get] at hi hj
    obtain ⟨a, ha, rfl⟩ := Option.map_eq_some_iff.mp hi
    obtain ⟨b, hb, rfl⟩ := Option.map_eq_some_iff.mp hj
    exact h i j a b ha hb he
  · rw [qw_get] at hk
    obtain ⟨a, ha, rfl⟩ := Option.map_eq_some_iff.mp hk
    exact ⟨a, List.mem_of_getElem? ha, rfl⟩
theorem qw_set {x : qX} (h : qok x) {k g j : Nat} (hk : (qI x)[k]? = some (g, j)) (V : qV) (Y : qY) (f : Nat → Int32) (y : Nat → Int64) : (qw x V Y).set k (qal x g j, qcf x g j f y) = qw x (qu V g j f) (quY Y g j y) := by
  apply List.ext_getElem?
  intro i
  have hl : k < (qw x V Y).length := by
    unfold qw
    rw [List.length_map]
    exact (List.getElem?_eq_some_iff.mp hk).1
  by_cases hi : i = k
  · subst hi
    rw [List.getElem?_set_self hl, qw_get, hk]
    simp [qu, quY]
  · rw [List.getElem?_set_ne (Ne.symm hi), qw_get, qw_get]
    cases hq : (qI x)[i]? with
    | none => rfl
    | some q =>
      have hne : ¬ (q.1 = g ∧ q.2 = j) := fun z => hi (h i k q (g, j) hq hk (by rw [z.1, z.2]))
      simp [qu, quY, hne]
theorem qw_setV {x : qX} (h : qok x) {k g j : Nat} (hk : (qI x)[k]? = some (g, j)) (V : qV) (Y : qY) (f : Nat → Int32) : (qw x V Y).set k (qal x g j, qcf x g j f (Y g j)) = qw x (qu V g j f) Y := by
  rw [qw_set h hk, quY_self]
theorem qw_setY {x : qX} (h : qok x) {k g j : Nat} (hk : (qI x)[k]? = some (g, j)) (V : qV) (Y : qY) (y : Nat → Int64) : (qw x V Y).set k (qal x g j, qcf x g j (V g j) y) = qw x V (quY Y g j y) := by
  rw [qw_set h hk, qu_self]
/-- a local by its number -/
def qlk (lo : List (Nat × Value)) (i : Nat) : Option Value := (lo.find? (fun q => q.1 == i)).map (fun q => q.2)
theorem qlk_ok {ls : Array Slot} {nL : Nat} {lo : List (Nat × Value)} {i : Nat} {v : Value} (h : lv_has ls nL lo) (hi : qlk lo i = some v) : ls[i]? = some (.val v) := by
  unfold qlk at hi
  obtain ⟨q, hq, rfl⟩ := Option.map_eq_some_iff.mp hi
  have h1 := List.mem_of_find?_eq_some hq
  have h2 := List.find?_some hq
  have h3 : q.1 = i := by simpa using h2
  rw [← h3]
  exact h.2.2 q h1
def qZs (A : Nat → Prop) (U : State) : Prop := (va_Zq "java/lang/Throwable" "UNASSIGNED_STACK" "[Ljava/lang/StackTraceElement;" A U U.heap ∧ va_Zq "java/lang/Throwable" "SUPPRESSED_SENTINEL" "Ljava/util/List;" A U U.heap) ∧ (Cond.laysStatic "java/lang/Throwable" "UNASSIGNED_STACK" "[Ljava/lang/StackTraceElement;").before #[] U = true ∧ (Cond.laysStatic "java/lang/Throwable" "SUPPRESSED_SENTINEL" "Ljava/util/List;").before #[] U = true
/-- what a method's walk stands on -/
def Cx (p : Program) (s : State) (m : MethodId) (args : Array Value) (meth : Method) (c : Code) (x : qX) (nL : Nat) (A : Nat → Prop) (cc : ByteArray) (own : String) (Ts : List Cond) : Prop :=
  p.tables.exec = Jvm.exec ∧ c.code = cc ∧ c.maxLocals = nL ∧ s.vm.findClass own = some m.cls ∧ (∀ w ∈ Ts, w.before args s = true) ∧ va_K (qD x) (qcl x) (qty x) s ∧ qok x ∧ meth.locks = false ∧ qZs A s
/-- the walk, now at pc with the locals lo, the stack st, the heap V, Y -/
def G (p : Program) (l : Launch) (e : Env) (R : Room) (s : State) (m : MethodId) (args : Array Value) (below : List Frame) (meth : Method) (c : Code) (Q : State → Prop) (x : qX) (nL : Nat) (A : Nat → Prop) (V : qV) (Y : qY) (cells slots pc : Nat) (lo : List (Nat × Value)) (st : List Value) : Prop :=
  ∀ (H : Heap) (locs : List Loc) (ls : Array Slot), va_P (qD x) (qcl x) (qw x V Y) H → va_S A s.heap H locs → lv_has ls nL lo → W p l e R s m args below meth c H locs cells slots Q (F0 m pc ls st)
section QR
variable {p : Program} {l : Launch} {e : Env} {R : Room} {s : State} {m : MethodId} {args : Array Value} {below : List Frame} {meth : Method} {c : Code} {Q : State → Prop} {x : qX} {nL : Nat} {A : Nat → Prop} {V V' : qV} {Y Y' : qY} {cells slots pc : Nat} {lo lo' : List (Nat × Value)} {st : List Value} {cc : ByteArray} {own : String} {Ts : List Cond}
theorem G.eqV (h : V = V') (k : G p l e R s m args below meth c Q x nL A V' Y cells slots pc lo st) : G p l e R s m args below meth c Q x nL A V Y cells slots pc lo st := h ▸ k
theorem G.eqY (h : Y = Y') (k : G p l e R s m args below meth c Q x nL A V Y' cells slots pc lo st) : G p l e R s m args below meth c Q x nL A V Y cells slots pc lo st := h ▸ k
theorem G.eqS {st' : List Value} (h : st = st') (k : G p l e R s m args below meth c Q x nL A V Y cells slots pc lo st') : G p l e R s m args below meth c Q x nL A V Y cells slots pc lo st := h ▸ k
theorem G.sub (h : ∀ q ∈ lo', q ∈ lo) (k : G p l e R s m args below meth c Q x nL A V Y cells slots pc lo' st) : G p l e R s m args below meth c Q x nL A V Y cells slots pc lo st := fun H locs ls hP hS hl => k H locs ls hP hS ⟨hl.1, hl.2.1, fun q hq => hl.2.2 q (h q hq)⟩
theorem G.wide {k n : Nat} (h1 : cells ≤ k) (h2 : slots ≤ n) (kk : G p l e R s m args below meth c Q x nL A V Y k n pc lo st) : G p l e R s m args below meth c Q x nL A V Y cells slots pc lo st := fun H locs ls hP hS hl => W.widen h1 h2 (kk H locs ls hP hS hl)
theorem gq_iconst (C : Cx p s m args meth c x nL A cc own Ts) {n : Int} {v : Int32} (hd : decode cc pc = .ok (.iconst n, 1)) (hv : Int32.ofInt n = v) (k : G p l e R s m args below meth c Q x nL A V Y cells slots (pc + 1) lo (.int v :: st)) : G p l e R s m args below meth c Q x nL A V Y cells slots pc lo st := fun H locs ls hP hS hl => lv_iconst C.1 C.2.1 hd hv (k H locs ls hP hS hl)
theorem gq_bipush (C : Cx p s m args meth c x nL A cc own Ts) {n : Int} {v : Int32} (hd : decode cc pc = .ok (.bipush n, 2)) (hv : (Int8.ofInt n).toInt32 = v) (k : G p l e R s m args below meth c Q x nL A V Y cells slots (pc + 2) lo (.int v :: st)) : G p l e R s m args below meth c Q x nL A V Y cells slots pc lo st := fun H locs ls hP hS hl => lv_bipush C.1 C.2.1 hd hv (k H locs ls hP hS hl)
theorem gq_sipush (C : Cx p s m args meth c x nL A cc own Ts) {n : Int} {v : Int32} (hd : decode cc pc = .ok (.sipush n, 3)) (hv : (Int16.ofInt n).toInt32 = v) (k : G p l e R s m args below meth c Q x nL A V Y cells slots (pc + 3) lo (.int v :: st)) : G p l e R s m args below meth c Q x nL A V Y cells slots pc lo st := fun H locs ls hP hS hl => lv_sipush C.1 C.2.1 hd hv (k H locs ls hP hS hl)
theorem gq_lconst (C : Cx p s m args meth c x nL A cc own Ts) {n : Fin 2} {v : Int64} (hd : decode cc pc = .ok (.lconst n, 1)) (hv : Int64.ofNat (n : Nat) = v) (k : G p l e R s m args below meth c Q x nL A V Y cells slots (pc + 1) lo (.long v :: st)) : G p l e R s m args below meth c Q x nL A V Y cells slots pc lo st := fun H locs ls hP hS hl => lv_lconst C.1 C.2.1 hd hv (k H locs ls hP hS hl)
theorem gq_ldc (C : Cx p s m args meth c x nL A cc own Ts) {index : Nat} {v : Int32} (hc : Cond.constant own index v ∈ Ts) (hd : decode cc pc = .ok (.ldc index, 2)) (k : G p l e R s m args below meth c Q x nL A V Y cells slots (pc + 2) lo (.int v :: st)) : G p l e R s m args below meth c Q x nL A V Y cells slots pc lo st := fun H locs ls hP hS hl => lv_ldc C.1 C.2.1 C.2.2.2.1 (C.2.2.2.2.1 _ hc) hd (k H locs ls hP hS hl)
theorem gq_iload_n (C : Cx p s m args meth c x nL A cc own Ts) {k : Fin 4} {v : Int32} (hd : decode cc pc = .ok (.iload_n k, 1)) (hi : qlk lo k = some (.int v)) (kk : G p l e R s m args below meth c Q x nL A V Y cells slots (pc + 1) lo (.int v :: st)) : G p l e R s m args below meth c Q x nL A V Y cells slots pc lo st := fun H locs ls hP hS hl => lv_iload_n C.1 C.2.1 hd rfl (qlk_ok hl hi) (kk H locs ls hP hS hl)
theorem gq_iload (C : Cx p s m args meth c x nL A cc own Ts) {i : Nat} {v : Int32} (hd : decode cc pc = .ok (.iload i, 2)) (hi : qlk lo i = some (.int v)) (kk : G p l e R s m args below meth c Q x nL A V Y cells slots (pc + 2) lo (.int v :: st)) : G p l e R s m args below meth c Q x nL A V Y cells slots pc lo st := fun H locs ls hP hS hl => lv_iload C.1 C.2.1 hd (qlk_ok hl hi) (kk H locs ls hP hS hl)
theorem gq_lload_n (C : Cx p s m args meth c x nL A cc own Ts) {k : Fin 4} {v : Int64} (hd : decode cc pc = .ok (.lload_n k, 1)) (hi : qlk lo k = some (.long v)) (kk : G p l e R s m args below meth c Q x nL A V Y cells slots (pc + 1) lo (.long v :: st)) : G p l e R s m args below meth c Q x nL A V Y cells slots pc lo st := fun H locs ls hP hS hl => lv_lload_n C.1 C.2.1 hd rfl (qlk_ok hl hi) (kk H locs ls hP hS hl)
theorem gq_lload (C : Cx p s m args meth c x nL A cc own Ts) {i : Nat} {v : Int64} (hd : decode cc pc = .ok (.lload i, 2)) (hi : qlk lo i = some (.long v)) (kk : G p l e R s m args below meth c Q x nL A V Y cells slots (pc + 2) lo (.long v :: st)) : G p l e R s m args below meth c Q x nL A V Y cells slots pc lo st := fun H locs ls hP hS hl => lv_lload C.1 C.2.1 hd (qlk_ok hl hi) (kk H locs ls hP hS hl)
theorem gq_aload_n (C : Cx p s m args meth c x nL A cc own Ts) {k : Fin 4} {v : Nat} (hd : decode cc pc = .ok (.aload_n k, 1)) (hi : qlk lo k = some (.ref v)) (kk : G p l e R s m args below meth c Q x nL A V Y cells slots (pc + 1) lo (.ref v :: st)) : G p l e R s m args below meth c Q x nL A V Y cells slots pc lo st := fun H locs ls hP hS hl => lv_aload_n C.1 C.2.1 hd rfl (qlk_ok hl hi) (kk H locs ls hP hS hl)
theorem gq_aload (C : Cx p s m args meth c x nL A cc own Ts) {i : Nat} {v : Nat} (hd : decode cc pc = .ok (.aload i, 2)) (hi : qlk lo i = some (.ref v)) (kk : G p l e R s m args below meth c Q x nL A V Y cells slots (pc + 2) lo (.ref v :: st)) : G p l e R s m args below meth c Q x nL A V Y cells slots pc lo st := fun H locs ls hP hS hl => lv_aload C.1 C.2.1 hd (qlk_ok hl hi) (kk H locs ls hP hS hl)
theorem gq_istore_n (C : Cx p s m args meth c x nL A cc own Ts) {k : Fin 4} {i : Nat} {v : Int32} (hd : decode cc pc = .ok (.istore_n k, 1)) (hi : (k : Nat) = i) (hn : i < nL) (hl : (i, Value.int v) :: lo.filter (fun q => !(q.1 == i) && !(q.1 + 1 == i && q.2.category == 2)) = lo') (kk : G p l e R s m args below meth c Q x nL A V Y cells slots (pc + 1) lo' st) : G p l e R s m args below meth c Q x nL A V Y cells slots pc lo (.int v :: st) := fun H locs _ hP hS h => lv_istore_n C.1 C.2.1 hd hi h hn hl (fun ls' h' => kk H locs ls' hP hS h')
theorem gq_istore (C : Cx p s m args meth c x nL A cc own Ts) {i : Nat} {v : Int32} (hd : decode cc pc = .ok (.istore i, 2)) (hn : i < nL) (hl : (i, Value.int v) :: lo.filter (fun q => !(q.1 == i) && !(q.1 + 1 == i && q.2.category == 2)) = lo') (kk : G p l e R s m args below meth c Q x nL A V Y cells slots (pc + 2) lo' st) : G p l e R s m args below meth c Q x nL A V Y cells slots pc lo (.int v :: st) := fun H locs _ hP hS h => lv_istore C.1 C.2.1 hd h hn hl (fun ls' h' => kk H locs ls' hP hS h')
theorem gq_lstore_n (C : Cx p s m args meth c x nL A cc own Ts) {k : Fin 4} {i : Nat} {v : Int64} (hd : decode cc pc = .ok (.lstore_n k, 1)) (hi : (k : Nat) = i) (hn : i + 1 < nL) (hl : (i, Value.long v) :: lo.filter (fun q => !(q.1 == i) && (!(q.1 == i + 1) && !(q.1 + 1 == i && q.2.category == 2))) = lo') (kk : G p l e R s m args below meth c Q x nL A V Y cells slots (pc + 1) lo' st) : G p l e R s m args below meth c Q x nL A V Y cells slots pc lo (.long v :: st) := fun H locs _ hP hS h => lv_lstore_n C.1 C.2.1 hd hi h hn hl (fun ls' h' => kk H locs ls' hP hS h')
theorem gq_lstore (C : Cx p s m args meth c x nL A cc own Ts) {i : Nat} {v : Int64} (hd : decode cc pc = .ok (.lstore i, 2)) (hn : i + 1 < nL) (hl : (i, Value.long v) :: lo.filter (fun q => !(q.1 == i) && (!(q.1 == i + 1) && !(q.1 + 1 == i && q.2.category == 2))) = lo') (kk : G p l e R s m args below meth c Q x nL A V Y cells slots (pc + 2) lo' st) : G p l e R s m args below meth c Q x nL A V Y cells slots pc lo (.long v :: st) := fun H locs _ hP hS h => lv_lstore C.1 C.2.1 hd h hn hl (fun ls' h' => kk H locs ls' hP hS h')
theorem gq_astore_n (C : Cx p s m args meth c x nL A cc own Ts) {k : Fin 4} {i : Nat} {v : Nat} (hd : decode cc pc = .ok (.astore_n k, 1)) (hi : (k : Nat) = i) (hn : i < nL) (hl : (i, Value.ref v) :: lo.filter (fun q => !(q.1 == i) && !(q.1 + 1 == i && q.2.category == 2)) = lo') (kk : G p l e R s m args below meth c Q x nL A V Y cells slots (pc + 1) lo' st) : G p l e R s m args below meth c Q x nL A V Y cells slots pc lo (.ref v :: st) := fun H locs _ hP hS h => lv_astore_n C.1 C.2.1 hd hi h hn hl (fun ls' h' => kk H locs ls' hP hS h')
theorem gq_astore (C : Cx p s m args meth c x nL A cc own Ts) {i : Nat} {v : Nat} (hd : decode cc pc = .ok (.astore i, 2)) (hn : i < nL) (hl : (i, Value.ref v) :: lo.filter (fun q => !(q.1 == i) && !(q.1 + 1 == i && q.2.category == 2)) = lo') (kk : G p l e R s m args below meth c Q x nL A V Y cells slots (pc + 2) lo' st) : G p l e R s m args below meth c Q x nL A V Y cells slots pc lo (.ref v :: st) := fun H locs _ hP hS h => lv_astore C.1 C.2.1 hd h hn hl (fun ls' h' => kk H locs ls' hP hS h')
theorem gq_iinc (C : Cx p s m args meth c x nL A cc own Ts) {i k : Nat} {n : Int} {v w : Int32} (hd : decode cc pc = .ok (.iinc i n, 3)) (hk : lo[k]? = some (i, .int v)) (hv : v + Int32.ofInt n = w) (hn : i < nL) (hl : (i, Value.int w) :: lo.filter (fun q => !(q.1 == i) && !(q.1 + 1 == i && q.2.category == 2)) = lo') (kk : G p l e R s m args below meth c Q x nL A V Y cells slots (pc + 3) lo' st) : G p l e R s m args below meth c Q x nL A V Y cells slots pc lo st := fun H locs _ hP hS h => lv_iinc C.1 C.2.1 hd h hk hv hn hl (fun ls' h' => kk H locs ls' hP hS h')
theorem gq_dup (C : Cx p s m args meth c x nL A cc own Ts) {v : Value} (hd : decode cc pc = .ok (.dup, 1)) (hv : v.category = 1) (k : G p l e R s m args below meth c Q x nL A V Y cells slots (pc + 1) lo (v :: v :: st)) : G p l e R s m args below meth c Q x nL A V Y cells slots pc lo (v :: st) := fun H locs ls hP hS hl => lv_dup C.1 C.2.1 hd hv (k H locs ls hP hS hl)
theorem gq_pop (C : Cx p s m args meth c x nL A cc own Ts) {v : Value} (hd : decode cc pc = .ok (.pop, 1)) (hv : v.category = 1) (k : G p l e R s m args below meth c Q x nL A V Y cells slots (pc + 1) lo st) : G p l e R s m args below meth c Q x nL A V Y cells slots pc lo (v :: st) := fun H locs ls hP hS hl => lv_pop C.1 C.2.1 hd hv (k H locs ls hP hS hl)
theorem gq_dup_x1 (C : Cx p s m args meth c x nL A cc own Ts) {v w : Value} (hd : decode cc pc = .ok (.dup_x1, 1)) (hv : v.category = 1) (hw : w.category = 1) (k : G p l e R s m args below meth c Q x nL A V Y cells slots (pc + 1) lo (v :: w :: v :: st)) : G p l e R s m args below meth c Q x nL A V Y cells slots pc lo (v :: w :: st) := fun H locs ls hP hS hl => lv_dup_x1 C.1 C.2.1 hd hv hw (k H locs ls hP hS hl)
theorem gq_iadd (C : Cx p s m args meth c x nL A cc own Ts) {v w : Int32} (hd : decode cc pc = .ok (.iadd, 1)) (k : G p l e R s m args below meth c Q x nL A V Y cells slots (pc + 1) lo (.int (v + w) :: st)) : G p l e R s m args below meth c Q x nL A V Y cells slots pc lo (.int w :: .int v :: st) := fun H locs ls hP hS hl => lv_iadd C.1 C.2.1 hd (k H locs ls hP hS hl)
theorem gq_isub (C : Cx p s m args meth c x nL A cc own Ts) {v w : Int32} (hd : decode cc pc = .ok (.isub, 1)) (k : G p l e R s m args below meth c Q x nL A V Y cells slots (pc + 1) lo (.int (v - w) :: st)) : G p l e R s m args below meth c Q x nL A V Y cells slots pc lo (.int w :: .int v :: st) := fun H locs ls hP hS hl => lv_isub C.1 C.2.1 hd (k H locs ls hP hS hl)
theorem gq_imul (C : Cx p s m args meth c x nL A cc own Ts) {v w : Int32} (hd : decode cc pc = .ok (.imul, 1)) (k : G p l e R s m args below meth c Q x nL A V Y cells slots (pc + 1) lo (.int (v * w) :: st)) : G p l e R s m args below meth c Q x nL A V Y cells slots pc lo (.int w :: .int v :: st) := fun H locs ls hP hS hl => lv_imul C.1 C.2.1 hd (k H locs ls hP hS hl)
theorem gq_idiv (C : Cx p s m args meth c x nL A cc own Ts) {v w : Int32} (hd : decode cc pc = .ok (.idiv, 1)) (hne : ¬ w = 0) (k : G p l e R s m args below meth c Q x nL A V Y cells slots (pc + 1) lo (.int (v / w) :: st)) : G p l e R s m args below meth c Q x nL A V Y cells slots pc lo (.int w :: .int v :: st) := fun H locs ls hP hS hl => lv_idiv C.1 C.2.1 hd hne (k H locs ls hP hS hl)
theorem gq_iand (C : Cx p s m args meth c x nL A cc own Ts) {v w : Int32} (hd : decode cc pc = .ok (.iand, 1)) (k : G p l e R s m args below meth c Q x nL A V Y cells slots (pc + 1) lo (.int (v &&& w) :: st)) : G p l e R s m args below meth c Q x nL A V Y cells slots pc lo (.int w :: .int v :: st) := fun H locs ls hP hS hl => lv_iand C.1 C.2.1 hd (k H locs ls hP hS hl)
theorem gq_ladd (C : Cx p s m args meth c x nL A cc own Ts) {v w : Int64} (hd : decode cc pc = .ok (.ladd, 1)) (k : G p l e R s m args below meth c Q x nL A V Y cells slots (pc + 1) lo (.long (v + w) :: st)) : G p l e R s m args below meth c Q x nL A V Y cells slots pc lo (.long w :: .long v :: st) := fun H locs ls hP hS hl => lv_ladd C.1 C.2.1 hd (k H locs ls hP hS hl)
theorem gq_i2l (C : Cx p s m args meth c x nL A cc own Ts) {v : Int32} (hd : decode cc pc = .ok (.i2l, 1)) (k : G p l e R s m args below meth c Q x nL A V Y cells slots (pc + 1) lo (.long v.toInt64 :: st)) : G p l e R s m args below meth c Q x nL A V Y cells slots pc lo (.int v :: st) := fun H locs ls hP hS hl => lv_i2l C.1 C.2.1 hd rfl (k H locs ls hP hS hl)
theorem gq_lcmp (C : Cx p s m args meth c x nL A cc own Ts) {v w : Int64} (hd : decode cc pc = .ok (.lcmp, 1)) (k : G p l e R s m args below meth c Q x nL A V Y cells slots (pc + 1) lo (.int (lg_cmp v w) :: st)) : G p l e R s m args below meth c Q x nL A V Y cells slots pc lo (.long w :: .long v :: st) := fun H locs ls hP hS hl => W.lcmp C.1 C.2.1 hd (k H locs ls hP hS hl)
theorem gq_goto (C : Cx p s m args meth c x nL A cc own Ts) {off : Int} {tgt : Nat} (hd : decode cc pc = .ok (.goto off, 3)) (ht : (pc : Int) + off = (tgt : Int)) (k : G p l e R s m args below meth c Q x nL A V Y cells slots tgt lo st) : G p l e R s m args below meth c Q x nL A V Y cells slots pc lo st := fun H locs ls hP hS hl => lv_goto C.1 C.2.1 hd ht (k H locs ls hP hS hl)
theorem gq_if_eq (C : Cx p s m args meth c x nL A cc own Ts) {v : Int32} {off : Int} {tgt : Nat} (hd : decode cc pc = .ok (.ifCond .eq off, 3)) (ht : (pc : Int) + off = (tgt : Int)) (kt : v = 0 → G p l e R s m args below meth c Q x nL A V Y cells slots tgt lo st) (kf : ¬ v = 0 → G p l e R s m args below meth c Q x nL A V Y cells slots (pc + 3) lo st) : G p l e R s m args below meth c Q x nL A V Y cells slots pc lo (.int v :: st) := fun H locs ls hP hS hl => lv_if_eq C.1 C.2.1 hd ht (fun h => kt h H locs ls hP hS hl) (fun h => kf h H locs ls hP hS hl)
theorem gq_icmp_eq (C : Cx p s m args meth c x nL A cc own Ts) {v w : Int32} {off : Int} {tgt : Nat} (hd : decode cc pc = .ok (.if_icmp .eq off, 3)) (ht : (pc : Int) + off = (tgt : Int)) (kt : v = w → G p l e R s m args below meth c Q x nL A V Y cells slots tgt lo st) (kf : ¬ v = w → G p l e R s m args below meth c Q x nL A V Y cells slots (pc + 3) lo st) : G p l e R s m args below meth c Q x nL A V Y cells slots pc lo (.int w :: .int v :: st) := fun H locs ls hP hS hl => lv_icmp_eq C.1 C.2.1 hd ht (fun h => kt h H locs ls hP hS hl) (fun h => kf h H locs ls hP hS hl)
theorem gq_if_ne (C : Cx p s m args meth c x nL A cc own Ts) {v : Int32} {off : Int} {tgt : Nat} (hd : decode cc pc = .ok (.ifCond .ne off, 3)) (ht : (pc : Int) + off = (tgt : Int)) (kt : ¬ v = 0 → G p l e R s m args below meth c Q x nL A V Y cells slots tgt lo st) (kf : v = 0 → G p l e R s m args below meth c Q x nL A V Y cells slots (pc + 3) lo st) : G p l e R s m args below meth c Q x nL A V Y cells slots pc lo (.int v :: st) := fun H locs ls hP hS hl => lv_if_ne C.1 C.2.1 hd ht (fun h => kt h H locs ls hP hS hl) (fun h => kf h H locs ls hP hS hl)
theorem gq_icmp_ne (C : Cx p s m args meth c x nL A cc own Ts) {v w : Int32} {off : Int} {tgt : Nat} (hd : decode cc pc = .ok (.if_icmp .ne off, 3)) (ht : (pc : Int) + off = (tgt : Int)) (kt : ¬ v = w → G p l e R s m args below meth c Q x nL A V Y cells slots tgt lo st) (kf : v = w → G p l e R s m args below meth c Q x nL A V Y cells slots (pc + 3) lo st) : G p l e R s m args below meth c Q x nL A V Y cells slots pc lo (.int w :: .int v :: st) := fun H locs ls hP hS hl => lv_icmp_ne C.1 C.2.1 hd ht (fun h => kt h H locs ls hP hS hl) (fun h => kf h H locs ls hP hS hl)
theorem gq_if_lt (C : Cx p s m args meth c x nL A cc own Ts) {v : Int32} {off : Int} {tgt : Nat} (hd : decode cc pc = .ok (.ifCond .lt off, 3)) (ht : (pc : Int) + off = (tgt : Int)) (kt : v < 0 → G p l e R s m args below meth c Q x nL A V Y cells slots tgt lo st) (kf : ¬ v < 0 → G p l e R s m args below meth c Q x nL A V Y cells slots (pc + 3) lo st) : G p l e R s m args below meth c Q x nL A V Y cells slots pc lo (.int v :: st) := fun H locs ls hP hS hl => lv_if_lt C.1 C.2.1 hd ht (fun h => kt h H locs ls hP hS hl) (fun h => kf h H locs ls hP hS hl)
theorem gq_icmp_lt (C : Cx p s m args meth c x nL A cc own Ts) {v w : Int32} {off : Int} {tgt : Nat} (hd : decode cc pc = .ok (.if_icmp .lt off, 3)) (ht : (pc : Int) + off = (tgt : Int)) (kt : v < w → G p l e R s m args below meth c Q x nL A V Y cells slots tgt lo st) (kf : ¬ v < w → G p l e R s m args below meth c Q x nL A V Y cells slots (pc + 3) lo st) : G p l e R s m args below meth c Q x nL A V Y cells slots pc lo (.int w :: .int v :: st) := fun H locs ls hP hS hl => lv_icmp_lt C.1 C.2.1 hd ht (fun h => kt h H locs ls hP hS hl) (fun h => kf h H locs ls hP hS hl)
theorem gq_if_ge (C : Cx p s m args meth c x nL A cc own Ts) {v : Int32} {off : Int} {tgt : Nat} (hd : decode cc pc = .ok (.ifCond .ge off, 3)) (ht : (pc : Int) + off = (tgt : Int)) (kt : 0 ≤ v → G p l e R s m args below meth c Q x nL A V Y cells slots tgt lo st) (kf : ¬ 0 ≤ v → G p l e R s m args below meth c Q x nL A V Y cells slots (pc + 3) lo st) : G p l e R s m args below meth c Q x nL A V Y cells slots pc lo (.int v :: st) := fun H locs ls hP hS hl => lv_if_ge C.1 C.2.1 hd ht (fun h => kt h H locs ls hP hS hl) (fun h => kf h H locs ls hP hS hl)
theorem gq_icmp_ge (C : Cx p s m args meth c x nL A cc own Ts) {v w : Int32} {off : Int} {tgt : Nat} (hd : decode cc pc = .ok (.if_icmp .ge off, 3)) (ht : (pc : Int) + off = (tgt : Int)) (kt : w ≤ v → G p l e R s m args below meth c Q x nL A V Y cells slots tgt lo st) (kf : ¬ w ≤ v → G p l e R s m args below meth c Q x nL A V Y cells slots (pc + 3) lo st) : G p l e R s m args below meth c Q x nL A V Y cells slots pc lo (.int w :: .int v :: st) := fun H locs ls hP hS hl => lv_icmp_ge C.1 C.2.1 hd ht (fun h => kt h H locs ls hP hS hl) (fun h => kf h H locs ls hP hS hl)
theorem gq_if_gt (C : Cx p s m args meth c x nL A cc own Ts) {v : Int32} {off : Int} {tgt : Nat} (hd : decode cc pc = .ok (.ifCond .gt off, 3)) (ht : (pc : Int) + off = (tgt : Int)) (kt : 0 < v → G p l e R s m args below meth c Q x nL A V Y cells slots tgt lo st) (kf : ¬ 0 < v → G p l e R s m args below meth c Q x nL A V Y cells slots (pc + 3) lo st) : G p l e R s m args below meth c Q x nL A V Y cells slots pc lo (.int v :: st) := fun H locs ls hP hS hl => lv_if_gt C.1 C.2.1 hd ht (fun h => kt h H locs ls hP hS hl) (fun h => kf h H locs ls hP hS hl)
theorem gq_icmp_gt (C : Cx p s m args meth c x nL A cc own Ts) {v w : Int32} {off : Int} {tgt : Nat} (hd : decode cc pc = .ok (.if_icmp .gt off, 3)) (ht : (pc : Int) + off = (tgt : Int)) (kt : w < v → G p l e R s m args below meth c Q x nL A V Y cells slots tgt lo st) (kf : ¬ w < v → G p l e R s m args below meth c Q x nL A V Y cells slots (pc + 3) lo st) : G p l e R s m args below meth c Q x nL A V Y cells slots pc lo (.int w :: .int v :: st) := fun H locs ls hP hS hl => lv_icmp_gt C.1 C.2.1 hd ht (fun h => kt h H locs ls hP hS hl) (fun h => kf h H locs ls hP hS hl)
theorem gq_if_le (C : Cx p s m args meth c x nL A cc own Ts) {v : Int32} {off : Int} {tgt : Nat} (hd : decode cc pc = .ok (.ifCond .le off, 3)) (ht : (pc : Int) + off = (tgt : Int)) (kt : v ≤ 0 → G p l e R s m args below meth c Q x nL A V Y cells slots tgt lo st) (kf : ¬ v ≤ 0 → G p l e R s m args below meth c Q x nL A V Y cells slots (pc + 3) lo st) : G p l e R s m args below meth c Q x nL A V Y cells slots pc lo (.int v :: st) := fun H locs ls hP hS hl => lv_if_le C.1 C.2.1 hd ht (fun h => kt h H locs ls hP hS hl) (fun h => kf h H locs ls hP hS hl)
theorem gq_icmp_le (C : Cx p s m args meth c x nL A cc own Ts) {v w : Int32} {off : Int} {tgt : Nat} (hd : decode cc pc = .ok (.if_icmp .le off, 3)) (ht : (pc : Int) + off = (tgt : Int)) (kt : v ≤ w → G p l e R s m args below meth c Q x nL A V Y cells slots tgt lo st) (kf : ¬ v ≤ w → G p l e R s m args below meth c Q x nL A V Y cells slots (pc + 3) lo st) : G p l e R s m args below meth c Q x nL A V Y cells slots pc lo (.int w :: .int v :: st) := fun H locs ls hP hS hl => lv_icmp_le C.1 C.2.1 hd ht (fun h => kt h H locs ls hP hS hl) (fun h => kf h H locs ls hP hS hl)
/-- a field is read -/
theorem gq_get (C : Cx p s m args meth c x nL A cc own Ts) {g j k ci index N : Nat} {T : u_T} {C0 : String} {fs : List Value} {v : Value} (hm : (g, j) ∈ qI x) (he : qcf x g j (V g j) (Y g j) = .inr (ci, fs)) (hc : (qcl x)[ci]? = some (C0, T, N)) (hin : ∀ w ∈ u_ws C0 T N, w ∈ Ts) (hk : k < N) (hlink : Cond.fieldLink own index (T k).1 (T k).2.1 (T k).2.2.1 ∈ Ts) (hv : fs[k]? = some v) (hd : decode cc pc = .ok (.getfield index, 3))
    (kk : G p l e R s m args below meth c Q x nL A V Y cells slots (pc + 3) lo (v :: st)) : G p l e R s m args below meth c Q x nL A V Y cells slots pc lo (.ref (qal x g j) :: st) := by
  intro H locs ls hP hS hl
  obtain ⟨q, -, hq⟩ := qw_at V Y hm
  rw [he] at hq
  exact va_get C.1 C.2.1 C.2.2.2.2.1 hin C.2.2.2.1 C.2.2.2.2.2.1 hP q hq hc k hk (C.2.2.2.2.1 _ hlink) (fun _ h => h) hv hd (kk H locs ls hP hS hl)
/-- a field of ints is written -/
theorem gq_put (C : Cx p s m args meth c x nL A cc own Ts) (hA : ∀ q, qA x q → A q) {g j k ci index N : Nat} {T : u_T} {C0 : String} {fs : List Value} {v : Int32} {ty : FieldType} (ty0 : Nat → FieldType) (hty : ∀ k, k < N → parseFieldDescriptor (T k).2.2.1 = some (ty0 k)) (hnm : ∀ a, a < N → ∀ b, b < N → a ≠ b → (T a).2.1 ≠ (T b).2.1) (hm : (g, j) ∈ qI x) (he : qcf x g j (V g j) (Y g j) = .inr (ci, fs)) (hc : (qcl x)[ci]? = some (C0, T, N)) (hin : ∀ w ∈ u_ws C0 T N, w ∈ Ts) (hk : k < N) (hlink : Cond.fieldLink own index (T k).1 (T k).2.1 (T k).2.2.1 ∈ Ts) (hfin : (T k).2.2.2 = false) (hdd : parseFieldDescriptor (T k).2.2.1 = some ty) (hn : narrow ty (.int v) = .int v) (hfit : fits ty (.int v) = true) (hl : k < fs.length) (he2 : qcf x g j (upd (V g j) k v) (Y g j) = .inr (ci, fs.set k (.int v))) (hd : decode cc pc = .ok (.putfield index, 3))
    (kk : G p l e R s m args below meth c Q x nL A (qv V g j k v) Y cells slots (pc + 3) lo st) : G p l e R s m args below meth c Q x nL A V Y cells slots pc lo (.int v :: .ref (qal x g j) :: st) := by
  intro H locs ls hP hS hl2
  obtain ⟨q, h1, hq⟩ := qw_at V Y hm
  rw [he] at hq
  refine va_put C.1 C.2.1 C.2.2.2.2.1 hin ty0 hty hnm C.2.2.2.1 C.2.2.2.2.2.1 hP ((qw_D C.2.2.2.2.2.2.1 V Y).weaken (fun _ _ _ h => hA _ h)) hS q hq hc k hk (C.2.2.2.2.1 _ hlink) (fun _ h => h) hfin hdd hn hfit hl hd (fun H1 locs1 hP1 _ hS1 => ?_)
  rw [← he2, qw_setV C.2.2.2.2.2.2.1 h1] at hP1
  exact kk H1 locs1 ls hP1 hS1 hl2
/-- an int array is read, its index a number -/
theorem gq_iald (C : Cx p s m args meth c x nL A cc own Ts) {g j n a t0 : Nat} {cA : ClassId} {i : Int32} (hm : (g, j) ∈ qI x) (he : qcf x g j (V g j) (Y g j) = .inl (cA, n, .inl (V g j))) (ht : (qty x)[t0]? = some (cA, .int)) (hi : i = nI a) (ha : a < n) (hn : n < 2 ^ 31) (hd : decode cc pc = .ok (.iaload, 1))
    (kk : G p l e R s m args below meth c Q x nL A V Y cells slots (pc + 1) lo (.int (V g j a) :: st)) : G p l e R s m args below meth c Q x nL A V Y cells slots pc lo (.int i :: .ref (qal x g j) :: st) := by
  intro H locs ls hP hS hl
  obtain ⟨q, -, hq⟩ := qw_at V Y hm
  rw [he] at hq
  subst hi
  refine va_iald C.1 C.2.1 C.2.2.2.2.2.1 hP q t0 hq ht (vp_in_nI ha hn) hd ?_
  rw [nI_clamp (by omega)]
  exact kk H locs ls hP hS hl
theorem gq_zald (C : Cx p s m args meth c x nL A cc own Ts) {g j n a t0 : Nat} {cA : ClassId} {i : Int32} (hm : (g, j) ∈ qI x) (he : qcf x g j (V g j) (Y g j) = .inl (cA, n, .inl (V g j))) (ht : (qty x)[t0]? = some (cA, .boolean)) (hi : i = nI a) (ha : a < n) (hn : n < 2 ^ 31) (hd : decode cc pc = .ok (.baload, 1))
    (kk : G p l e R s m args below meth c Q x nL A V Y cells slots (pc + 1) lo (.int (V g j a) :: st)) : G p l e R s m args below meth c Q x nL A V Y cells slots pc lo (.int i :: .ref (qal x g j) :: st) := by
  intro H locs ls hP hS hl
  obtain ⟨q, -, hq⟩ := qw_at V Y hm
  rw [he] at hq
  subst hi
  refine va_zald C.1 C.2.1 C.2.2.2.2.2.1 hP q t0 hq ht (vp_in_nI ha hn) hd ?_
  rw [nI_clamp (by omega)]
  exact kk H locs ls hP hS hl
theorem gq_lald (C : Cx p s m args meth c x nL A cc own Ts) {g j n a t0 : Nat} {cA : ClassId} {i : Int32} (hm : (g, j) ∈ qI x) (he : qcf x g j (V g j) (Y g j) = .inl (cA, n, .inr (.inl (Y g j)))) (ht : (qty x)[t0]? = some (cA, .long)) (hi : i = nI a) (ha : a < n) (hn : n < 2 ^ 31) (hd : decode cc pc = .ok (.laload, 1))
    (kk : G p l e R s m args below meth c Q x nL A V Y cells slots (pc + 1) lo (.long (Y g j a) :: st)) : G p l e R s m args below meth c Q x nL A V Y cells slots pc lo (.int i :: .ref (qal x g j) :: st) := by
  intro H locs ls hP hS hl
  obtain ⟨q, -, hq⟩ := qw_at V Y hm
  rw [he] at hq
  subst hi
  refine va_lald C.1 C.2.1 C.2.2.2.2.2.1 hP q t0 hq ht (vp_in_nI ha hn) hd ?_
  rw [nI_clamp (by omega)]
  exact kk H locs ls hP hS hl
/-- an array of references is read -/
theorem gq_aald (C : Cx p s m args meth c x nL A cc own Ts) {g j n a t0 b : Nat} {cA : ClassId} {C1 : String} {f : Nat → Option Nat} {i : Int32} (hm : (g, j) ∈ qI x) (he : qcf x g j (V g j) (Y g j) = .inl (cA, n, .inr (.inr (.inr (.inr f))))) (ht : (qty x)[t0]? = some (cA, .object C1)) (hi : i = nI a) (ha : a < n) (hn : n < 2 ^ 31) (hf : f a = some b) (hd : decode cc pc = .ok (.aaload, 1))
    (kk : G p l e R s m args below meth c Q x nL A V Y cells slots (pc + 1) lo (.ref b :: st)) : G p l e R s m args below meth c Q x nL A V Y cells slots pc lo (.int i :: .ref (qal x g j) :: st) := by
  intro H locs ls hP hS hl
  obtain ⟨q, -, hq⟩ := qw_at V Y hm
  rw [he] at hq
  subst hi
  refine va_aldq C.1 C.2.1 C.2.2.2.2.2.1 hP q t0 hq ht (vp_in_nI ha hn) hd ?_
  rw [nI_clamp (by omega), hf]
  exact kk H locs ls hP hS hl
theorem gq_iast (C : Cx p s m args meth c x nL A cc own Ts) (hA : ∀ q, qA x q → A q) {g j n a t0 : Nat} {cA : ClassId} {i v : Int32} (hm : (g, j) ∈ qI x) (he : ∀ f, qcf x g j f (Y g j) = .inl (cA, n, .inl f)) (ht : (qty x)[t0]? = some (cA, .int)) (hi : i = nI a) (ha : a < n) (hn : n < 2 ^ 31) (hd : decode cc pc = .ok (.iastore, 1))
    (kk : G p l e R s m args below meth c Q x nL A (qv V g j a v) Y cells slots (pc + 1) lo st) : G p l e R s m args below meth c Q x nL A V Y cells slots pc lo (.int v :: .int i :: .ref (qal x g j) :: st) := by
  intro H locs ls hP hS hl
  obtain ⟨q, h1, hq⟩ := qw_at V Y hm
  rw [he] at hq
  subst hi
  refine va_iast C.1 C.2.1 C.2.2.2.2.2.1 hP ((qw_D C.2.2.2.2.2.2.1 V Y).weaken (fun _ _ _ h => hA _ h)) hS q t0 hq ht (vp_in_nI ha hn) hd (fun H1 locs1 hP1 _ hS1 => ?_)
  rw [nI_clamp (by omega), ← he, qw_setV C.2.2.2.2.2.2.1 h1] at hP1
  exact kk H1 locs1 ls hP1 hS1 hl
theorem gq_zast (C : Cx p s m args meth c x nL A cc own Ts) (hA : ∀ q, qA x q → A q) {g j n a t0 : Nat} {cA : ClassId} {i v : Int32} (hm : (g, j) ∈ qI x) (he : ∀ f, qcf x g j f (Y g j) = .inl (cA, n, .inl f)) (ht : (qty x)[t0]? = some (cA, .boolean)) (hi : i = nI a) (ha : a < n) (hn : n < 2 ^ 31) (hv : vp_nar .boolean v = v) (hd : decode cc pc = .ok (.bastore, 1))
    (kk : G p l e R s m args below meth c Q x nL A (qv V g j a v) Y cells slots (pc + 1) lo st) : G p l e R s m args below meth c Q x nL A V Y cells slots pc lo (.int v :: .int i :: .ref (qal x g j) :: st) := by
  intro H locs ls hP hS hl
  obtain ⟨q, h1, hq⟩ := qw_at V Y hm
  rw [he] at hq
  subst hi
  refine va_zast C.1 C.2.1 C.2.2.2.2.2.1 hP ((qw_D C.2.2.2.2.2.2.1 V Y).weaken (fun _ _ _ h => hA _ h)) hS q t0 hq ht (vp_in_nI ha hn) hd (fun H1 locs1 hP1 _ hS1 => ?_)
  rw [nI_clamp (by omega), hv, ← he, qw_setV C.2.2.2.2.2.2.1 h1] at hP1
  exact kk H1 locs1 ls hP1 hS1 hl
theorem gq_last (C : Cx p s m args meth c x nL A cc own Ts) (hA : ∀ q, qA x q → A q) {g j n a t0 : Nat} {cA : ClassId} {i : Int32} {v : Int64} (hm : (g, j) ∈ qI x) (he : ∀ f, qcf x g j (V g j) f = .inl (cA, n, .inr (.inl f))) (ht : (qty x)[t0]? = some (cA, .long)) (hi : i = nI a) (ha : a < n) (hn : n < 2 ^ 31) (hd : decode cc pc = .ok (.lastore, 1))
    (kk : G p l e R s m args below meth c Q x nL A V (qy Y g j a v) cells slots (pc + 1) lo st) : G p l e R s m args below meth c Q x nL A V Y cells slots pc lo (.long v :: .int i :: .ref (qal x g j) :: st) := by
  intro H locs ls hP hS hl
  obtain ⟨q, h1, hq⟩ := qw_at V Y hm
  rw [he] at hq
  subst hi
  refine va_last C.1 C.2.1 C.2.2.2.2.2.1 hP ((qw_D C.2.2.2.2.2.2.1 V Y).weaken (fun _ _ _ h => hA _ h)) hS q t0 hq ht (vp_in_nI ha hn) hd (fun H1 locs1 hP1 _ hS1 => ?_)
  rw [nI_clamp (by omega), ← he, qw_setY C.2.2.2.2.2.2.1 h1] at hP1
  exact kk H1 locs1 ls hP1 hS1 hl
end QR
