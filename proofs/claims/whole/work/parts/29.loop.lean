/-! THE CLAIM OUT OF ONE WALK OF THE LAW'S BODY. Your part is whole_start (and what it stands on); all else here is the same for every law, but numbers. -/
def R_law : String := "PriceHouseLaw"
def lw_P (b : Addr) (xs : List Int32) (args : Array Value) (s : State) : Prop := args = #[.ref b] ∧ s.IntsAt b xs ∧ xs.length ≤ 2560 ∧ (Jvm.Cond.and given_1 narrow_1).before args s = true
def lw_Q (_ : Array Value) (s : State) (o : Outcome) (t : State) : Prop := o = .returned (some (.int 1)) ∧ Framed s o t [] 601024 7293034
def lw_Z (below : List Frame) (a : Array Value) (s : State) : State → Prop := fun t => ∃ o, t.status = .running ∧ Ended t below o ∧ lw_Q a s o t
/-- the law's own end, with 1 on the stack, nothing written that was there before, its room as the claim has it -/
theorem lw_ret {p : Program} {l : Launch} {e : Env} {s : State} {m : MethodId} {below : List Frame} {meth : Method} {c : Code} {b : Nat} (hx : p.tables.exec = Jvm.exec) (hb : c.code = code) (hr : meth.sig.returnType = ret) (hlocks : meth.locks = false) {pc : Nat} {H : Heap} {ls : Array Slot} (hdg : decode code pc = .ok (.ireturn, 1)) : W p l e room_1 s m #[Value.ref b] below meth c H [] 601024 7293034 (lw_Z below #[Value.ref b] s) (F0 m pc ls [.int 1]) := by
  intro T hT X
  obtain ⟨fs, hret, hrun, hended, hW, hframe⟩ := X.leave (v := some (.int 1)) (hlocks := hlocks) (fun h => by rw [hr] at h; cases h)
  have hmeth' : T.vm.method? m = some meth := X.method'
  refine ⟨T.setFrames fs, ?_, .returned (some (.int 1)), hrun, hended, rfl, ⟨_, rfl⟩, hW, hframe⟩
  jvm_step X.here [X.here.top, hx, hb, hdg, hmeth', hr, ret, narrow_b1]
  (try refine ⟨rfl, ?_⟩); (try refine ⟨rfl, ?_⟩)
  first | (intro acts; rw [hret _ acts rfl rfl rfl]) | rw [hret _ _ rfl rfl rfl]
  exact Steps.refl _
/-- what holds at the law's entry: the machine, the code, the tables' words (any of lw_tbl by 'hts w (by decide +kernel)'), the script of L ints xs at the cell b, what the Statement gives of the start (any of its parts by flat_of_before) -/
def lw_At (p : Program) (s : State) (m : MethodId) (meth : Method) (c : Code) (b L : Nat) (xs : Nat → Int32) : Prop :=
  p.tables.exec = Jvm.exec ∧ c.code = code ∧ meth.sig.returnType = ret ∧ c.maxLocals = 8 ∧ s.vm.findClass R_law = some m.cls ∧ (∀ w ∈ lw_tbl, w.before #[Value.ref b] s = true) ∧ va_X b L xs s s.heap ∧ b < s.heap.size ∧ meth.locks = false ∧ (Jvm.Cond.and given_1 narrow_1).before #[Value.ref b] s = true
theorem n_gt {L i : Nat} (hL : L ≤ 2560) (hi : i ≤ 2560) : (nI L - 5 < nI i ↔ L < i + 5) := by
  rw [Int32.lt_iff_toInt_lt, show (5 : Int32) = nI 5 from rfl, pk_sub_toInt (by omega) (by omega), nI_toInt (by omega)]
  omega
abbrev LO (Z : qZ) (b i : Nat) : List (Nat × Value) := [(4, .int (nI i)), (3, .ref (al Z 45 0)), (2, .ref (al Z 20 0)), (1, .ref (al Z 0 0)), (0, .ref b)]
set_option maxHeartbeats 4000000 in
set_option maxRecDepth 100000 in
theorem law_loop {p : Program} {l : Launch} {e : Env} {s : State} {m : MethodId} {below : List Frame} {meth : Method} {c : Code} {A : Nat → Prop} (hadm : ∀ e : Env, l.admits e → e.platform.stackTraces = false) (Z : qZ) (hZ : qok (pX Z)) (hA : ∀ q, qA (pX Z) q → A q) (hfr : ∀ q, A q → s.heap.size ≤ q) {b L : Nat} {xs : Nat → Int32} (C : Cx p s m #[Value.ref b] meth c (pX Z) 8 A b_W_law "PriceHouseLaw" QT) (hr : meth.sig.returnType = ret) (hX : va_X b L xs s s.heap) (hbl : b < s.heap.size) (hbA : ¬ A b) (hL : L ≤ 2560) {c0 s0 : Nat} (hc0 : c0 + 512 ≤ 601024) (hs0 : s0 + 3072 ≤ 7293034) (r : Nat) : ∀ (n i : Nat) (V : qV) (Y : qY) (lo : List (Nat × Value)), i = 5 * n → n + r = L / 5 → (∀ q ∈ LO Z b i, q ∈ lo) → Rel n V → G p l e room_1 s m #[Value.ref b] below meth c (lw_Z below #[Value.ref b] s) (pX Z) 8 A V Y (c0 + n) (s0 + 6 * n) 23 lo [] := by
  induction r with
  | zero =>
    intro n i V Y lo hi hn hlo h
    refine G.sub hlo ?_
    refine gq_iload C d_W_law_23 rfl ?_
    refine gq_aload_n C d_W_law_25 rfl ?_
    refine gq_slen C hX hbl hbA d_W_law_26 ?_
    refine gq_iconst C (v := 5) d_W_law_27 (by decide) ?_
    refine gq_isub C d_W_law_28 ?_
    refine gq_icmp_gt C (tgt := 1327) d_W_law_29 rfl (fun _ => ?_) (fun hb => absurd ((n_gt hL (by omega)).mpr (by omega)) hb)
    refine gq_iconst C (v := 1) d_W_law_1327 (by decide) ?_
    intro H locs ls hP hS hl
    exact va_forget (fun q hq => hfr _ (hS.2.2 q hq)) (W.widen (by omega) (by omega) (lw_ret C.1 C.2.1 hr C.2.2.2.2.2.2.2.1 d_W_law_1328))
  | succ r ih =>
    intro n i V Y lo hi hn hlo h
    have hi5 : i + 5 ≤ L := by omega
    have hn5 : n ≤ 512 := by omega
    have hc : c0 + n + 1 ≤ room_1.cells := by show c0 + n + 1 ≤ 601024; omega
    have hs : s0 + 6 * n + 6 ≤ room_1.slots := by show s0 + 6 * n + 6 ≤ 7293034; omega
    have tail : ∀ (V' : qV) (Y' : qY) (lo' : List (Nat × Value)), (∀ q ∈ LO Z b i, q ∈ lo') → Rel (n + 1) V' → G p l e room_1 s m #[Value.ref b] below meth c (lw_Z below #[Value.ref b] s) (pX Z) 8 A V' Y' (c0 + n + 1) (s0 + 6 * n + 6) 1321 lo' [] := by
      intro V' Y' lo' hlo' hR
      refine G.sub hlo' ?_
      refine gq_iinc C (k := 0) (w := nI (i + 5)) (lo' := LO Z b (i + 5)) d_W_law_1321 rfl (by rw [show Int32.ofInt 5 = nI 5 from by decide]; exact nI_add i 5) (by decide) rfl ?_
      refine gq_goto C (tgt := 23) d_W_law_1324 rfl ?_
      have q := ih (n + 1) (i + 5) V' Y' (LO Z b (i + 5)) (by omega) (by omega) (fun _ h => h) hR
      rw [show s0 + 6 * (n + 1) = s0 + 6 * n + 6 by omega, show c0 + (n + 1) = c0 + n + 1 by omega] at q
      exact q
    refine G.sub hlo ?_
    refine gq_iload C d_W_law_23 rfl ?_
    refine gq_aload_n C d_W_law_25 rfl ?_
    refine gq_slen C hX hbl hbA d_W_law_26 ?_
    refine gq_iconst C (v := 5) d_W_law_27 (by decide) ?_
    refine gq_isub C d_W_law_28 ?_
    refine gq_icmp_gt C (tgt := 1327) d_W_law_29 rfl (fun hb => absurd ((n_gt hL (by omega)).mp hb) (by omega)) (fun _ => ?_)
    refine gq_aload_n C d_W_law_32 rfl ?_
    refine gq_iload C d_W_law_33 rfl ?_
    refine gq_sld C (a := i) hX hbl hbA hL rfl (by omega) d_W_law_35 ?_
    refine gq_bipush C (v := 31) d_W_law_36 (by decide) ?_
    refine gq_iand C d_W_law_38 ?_
    obtain ⟨j, hj, ej⟩ := pk_andE (xs i) (m := 31) 5 (by decide)
    refine G.eqS (st' := [.int (nI j)]) (by rw [ej]) ?_
    match j, hj with
    | 0, _ => exact gq_tableIn C (tgt := 148) d_W_law_39 (by decide) (by decide) rfl rfl (law_article hadm Z hZ hA C hX hbl hbA hL hc hs hi5 hn5 V Y h tail)
    | 1, _ => exact gq_tableIn C (tgt := 196) d_W_law_39 (by decide) (by decide) rfl rfl (law_bundle hadm Z hZ hA C hX hbl hbA hL hc hs hi5 hn5 V Y h tail)
    | 2, _ => exact gq_tableIn C (tgt := 268) d_W_law_39 (by decide) (by decide) rfl rfl (law_publish hadm Z hZ hA C hX hbl hbA hL hc hs hi5 hn5 V Y h tail)
    | 3, _ => exact gq_tableIn C (tgt := 312) d_W_law_39 (by decide) (by decide) rfl rfl (law_activate hadm Z hZ hA C hX hbl hbA hL hc hs hi5 hn5 V Y h tail)
    | 4, _ => exact gq_tableIn C (tgt := 348) d_W_law_39 (by decide) (by decide) rfl rfl (law_active hadm Z hZ hA C hX hbl hbA hL hc hs hi5 hn5 V Y h tail)
    | 5, _ => exact gq_tableIn C (tgt := 361) d_W_law_39 (by decide) (by decide) rfl rfl (law_tick hadm Z hZ hA C hX hbl hbA hL hc hs hi5 hn5 V Y h tail)
    | 6, _ => exact gq_tableIn C (tgt := 417) d_W_law_39 (by decide) (by decide) rfl rfl (law_rate hadm Z hZ hA C hX hbl hbA hL hc hs hi5 hn5 V Y h tail)
    | 7, _ => exact gq_tableIn C (tgt := 465) d_W_law_39 (by decide) (by decide) rfl rfl (law_fetch hadm Z hZ hA C hX hbl hbA hL hc hs hi5 hn5 V Y h tail)
    | 8, _ => exact gq_tableIn C (tgt := 521) d_W_law_39 (by decide) (by decide) rfl rfl (law_ready hadm Z hZ hA C hX hbl hbA hL hc hs hi5 hn5 V Y h tail)
    | 9, _ => exact gq_tableIn C (tgt := 577) d_W_law_39 (by decide) (by decide) rfl rfl (law_ask hadm Z hZ hA C hX hbl hbA hL hc hs hi5 hn5 V Y h tail)
    | 10, _ => exact gq_tableIn C (tgt := 633) d_W_law_39 (by decide) (by decide) rfl rfl (law_giveUp hadm Z hZ hA C hX hbl hbA hL hc hs hi5 hn5 V Y h tail)
    | 11, _ => exact gq_tableIn C (tgt := 669) d_W_law_39 (by decide) (by decide) rfl rfl (law_lease hadm Z hZ hA C hX hbl hbA hL hc hs hi5 hn5 V Y h tail)
    | 12, _ => exact gq_tableIn C (tgt := 725) d_W_law_39 (by decide) (by decide) rfl rfl (law_loaded hadm Z hZ hA C hX hbl hbA hL hc hs hi5 hn5 V Y h tail)
    | 13, _ => exact gq_tableIn C (tgt := 781) d_W_law_39 (by decide) (by decide) rfl rfl (law_deliver hadm Z hZ hA C hX hbl hbA hL hc hs hi5 hn5 V Y h tail)
    | 14, _ => exact gq_tableIn C (tgt := 817) d_W_law_39 (by decide) (by decide) rfl rfl (law_lose hadm Z hZ hA C hX hbl hbA hL hc hs hi5 hn5 V Y h tail)
    | 15, _ => exact gq_tableIn C (tgt := 853) d_W_law_39 (by decide) (by decide) rfl rfl (law_twin hadm Z hZ hA C hX hbl hbA hL hc hs hi5 hn5 V Y h tail)
    | 16, _ => exact gq_tableIn C (tgt := 889) d_W_law_39 (by decide) (by decide) rfl rfl (law_letter hadm Z hZ hA C hX hbl hbA hL hc hs hi5 hn5 V Y h tail)
    | 17, _ => exact gq_tableIn C (tgt := 957) d_W_law_39 (by decide) (by decide) rfl rfl (law_letters hadm Z hZ hA C hX hbl hbA hL hc hs hi5 hn5 V Y h tail)
    | 18, _ => exact gq_tableIn C (tgt := 970) d_W_law_39 (by decide) (by decide) rfl rfl (law_open hadm Z hZ hA C hX hbl hbA hL hc hs hi5 hn5 V Y h tail)
    | 19, _ => exact gq_tableIn C (tgt := 1026) d_W_law_39 (by decide) (by decide) rfl rfl (law_scan hadm Z hZ hA C hX hbl hbA hL hc hs hi5 hn5 V Y h tail)
    | 20, _ => exact gq_tableIn C (tgt := 1106) d_W_law_39 (by decide) (by decide) rfl rfl (law_pay hadm Z hZ hA C hX hbl hbA hL hc hs hi5 hn5 V Y h tail)
    | 21, _ => exact gq_tableIn C (tgt := 1161) d_W_law_39 (by decide) (by decide) rfl rfl (law_book hadm Z hZ hA C hX hbl hbA hL hc hs hi5 hn5 V Y h tail)
    | 22, _ => exact gq_tableIn C (tgt := 1217) d_W_law_39 (by decide) (by decide) rfl rfl (law_price hadm Z hZ hA C hX hbl hbA hL hc hs hi5 hn5 V Y h tail)
    | 23, _ => exact gq_tableIn C (tgt := 1285) d_W_law_39 (by decide) (by decide) rfl rfl (law_restart hadm Z hZ hA C hX hbl hbA hL hc hs hi5 hn5 V Y h tail)
    | k + 24, hk =>
      have hk2 : k < 8 := by omega
      refine gq_tableOut C (tgt := 1321) d_W_law_39 (Or.inr ?_) rfl (G.wide (Nat.le_succ _) (Nat.le_add_right _ 6) (tail V Y _ (fun _ h => h) ?_))
      · rw [nI_toInt (by omega)]; omega
      · obtain ⟨nb, nk, nl, h⟩ := h
        exact ⟨nb, nk, nl, h.up (Nat.le_succ n)⟩
