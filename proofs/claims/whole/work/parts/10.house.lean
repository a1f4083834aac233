/-! PriceHouse: what its calls look at first, and its simple calls -/
section QS
variable {p : Program} {l : Launch} {e : Env} {R : Room} {s : State} {m : MethodId} {args : Array Value} {below : List Frame} {meth : Method} {c : Code} {Q : State → Prop} {x : qX} {nL : Nat} {A : Nat → Prop} {V : qV} {Y : qY} {cells slots pc : Nat} {lo : List (Nat × Value)} {st : List Value} {cc : ByteArray} {own : String} {Ts : List Cond}
theorem gq_tableOut (C : Cx p s m args meth c x nL A cc own Ts) {dflt l0 h0 : Int} {offs : Array Int} {len : Nat} {v : Int32} {tgt : Nat} (hd : decode cc pc = .ok (.tableswitch dflt l0 h0 offs, len)) (h : v.toInt < l0 ∨ h0 < v.toInt) (ht : (pc : Int) + dflt = (tgt : Int)) (k : G p l e R s m args below meth c Q x nL A V Y cells slots tgt lo st) : G p l e R s m args below meth c Q x nL A V Y cells slots pc lo (.int v :: st) := fun H locs ls hP hS hl => lv_tableOut C.1 C.2.1 hd h ht (k H locs ls hP hS hl)
theorem gq_tableIn (C : Cx p s m args meth c x nL A cc own Ts) {dflt l0 h0 : Int} {offs : Array Int} {len : Nat} {v : Int32} {off : Int} {tgt : Nat} (hd : decode cc pc = .ok (.tableswitch dflt l0 h0 offs, len)) (h1 : ¬ v.toInt < l0) (h2 : ¬ h0 < v.toInt) (ho : offs[(v.toInt - l0).toNat]? = some off) (ht : (pc : Int) + off = (tgt : Int)) (k : G p l e R s m args below meth c Q x nL A V Y cells slots tgt lo st) : G p l e R s m args below meth c Q x nL A V Y cells slots pc lo (.int v :: st) := fun H locs ls hP hS hl => lv_tableIn C.1 C.2.1 hd h1 h2 ho ht (k H locs ls hP hS hl)
end QS
def f_isArticle (a : Int32) : Int32 := if a < 0 then 0 else if 8 ≤ a then 0 else 1
def f_isSlot (a : Int32) : Int32 := if a < 0 then 0 else if 2 ≤ a then 0 else 1
def f_isBundleSize (a : Int32) : Int32 := if a = 0 then 1 else if a < 2 then 0 else if 12 < a then 0 else 1
def f_isAmount (a : Int32) : Int32 := if a < 0 then 0 else if 10000000 < a then 0 else 1
def f_isTD (a : Int32) : Int32 := if a < 0 then 0 else if 4 < a then 0 else 1
def f_isBook (V : qV) (b : Int32) : Int32 := if b < 1 then 0 else if V 0 0 2 < b then 0 else 1
def f_isBasket (V : qV) (k : Int32) : Int32 := if k < 0 then 0 else if V 0 0 7 ≤ k then 0 else 1
def f_sells (V : qV) (b n : Nat) : Int32 := if V 2 b n = 0 then 0 else 1
theorem f_t0 {t : Nat} (h : t < 4) : ¬ nI t < 0 := nI_pos (by omega)
theorem f_t4 {t : Nat} (h : t < 4) : nI t < 4 := nI_lt (b := 4) h (by decide)
theorem f_n4 {t : Nat} (h : t < 4) : ¬ nI t = 4 := fun q => by
  have := (nI_eq (a := t) (b := 4) (by omega) (by omega)).mp q
  omega
theorem f_i0 {i n : Nat} (hi : i < n) (hn : n ≤ 40) : ¬ nI i < 0 := nI_pos (by omega)
theorem f_i4 {V : qV} {i n : Nat} (hi : i < n) (hn : n ≤ 40) (h4 : V 12 0 4 = nI n) : nI i < V 12 0 4 := by
  rw [h4]
  exact nI_lt hi (by omega)
theorem f_beh {V : qV} {i n : Nat} (hi : i < n) (hn : n ≤ 40) (h4 : V 12 0 4 = nI n) : V 12 0 4 - nI i - 1 = nI (n - i - 1) := by
  rw [h4, pk_sub (by omega), show (1 : Int32) = nI 1 from rfl, pk_sub (by omega)]
theorem f_copy_fr (V : qV) (j g : Nat) (h : g ≠ 2 ∧ g ≠ 3 ∧ g ≠ 4) : f_copy V j g = V g := by
  funext a i
  simp [f_copy, qu, h.1, h.2.1, h.2.2]
theorem f_look_fr (V : qV) (g : Nat) (h : g ≠ 9) : f_look V g = V g := by
  funext a i
  unfold f_look
  repeat' split
  all_goals first | rfl | simp [qv_at, h]
theorem f_grant_fr (V : qV) (t : Nat) (a : Int32) (g : Nat) (h : g ≠ 11) : f_grant V t a g = V g := by
  funext b i
  unfold f_grant
  split
  · rfl
  · simp [qv_at, h]
theorem f_takeOut_fr (V : qV) (i n g : Nat) (h : g ≠ 12 ∧ g ≠ 13) : f_takeOut V i n g = V g := by
  funext a k
  simp [f_takeOut, qv, qu, h.1, h.2]
def f_begin (V : qV) (j : Nat) : qV := qv (qv (qv (qv V 7 j 3 (V 7 j 3 + 1)) 7 j 4 (V 8 j 0 / 100)) 7 j 5 0) 7 j 6 0
theorem f_begin_fr (V : qV) (j g : Nat) (h : g ≠ 7) : f_begin V j g = V g := by
  funext a k
  simp [f_begin, qv_at, h]
def f_again (V : qV) : qV := qv (f_forget (f_forget (f_forget (f_forget V 0) 1) 2) 3) 9 0 4 (V 8 4 0 / 100 + 63)
def f_takeBook (V : qV) (t : Nat) (b : Int32) : qV := if b = V 7 t 1 + 1 then qv V 7 t 1 b else V
def f_takeGrant (V : qV) (t : Nat) (a b : Int32) : qV := if a = V 7 t 3 ∧ V 7 t 5 = 0 then qv V 7 t 6 b else V
def f_pub1 (V : qV) (n : Nat) : qV := qv (f_copy V (n + 1)) 0 0 2 (V 0 0 2 + 1)
theorem f_cnt1 {V : qV} (n : Nat) (h : ∃ m, m ≤ 40 ∧ V 12 0 4 = nI m) : ∃ m, m ≤ 40 ∧ f_pub1 V n 12 0 4 = nI m := by
  unfold f_pub1
  rw [qv_at, if_neg (by decide), f_copy_fr _ _ _ (by decide)]
  exact h
def f_publish (V : qV) (n : Nat) : qV := f_put (f_put (f_put (f_put (f_pub1 V n) 0 0 (V 0 0 2 + 1) 0) 0 1 (V 0 0 2 + 1) 0) 0 2 (V 0 0 2 + 1) 0) 0 3 (V 0 0 2 + 1) 0
def f_go (V : qV) (j : Nat) (n : Int32) : qV := qv V 8 j 0 (V 8 j 0 + n * V 8 j 1)
def f_go5 (V : qV) (n : Int32) : qV := f_go (f_go (f_go (f_go (f_go V 0 n) 1 n) 2 n) 3 n) 4 n
theorem tw_IllegalArgumentException : qTw "PriceHouse" 61 "java/lang/IllegalArgumentException" ["java/lang/RuntimeException", "java/lang/Exception"] := by
  unfold qTw
  decide +kernel
theorem tw_IllegalStateException : qTw "PriceHouse" 84 "java/lang/IllegalStateException" ["java/lang/RuntimeException", "java/lang/Exception"] := by
  unfold qTw
  decide +kernel
theorem tw_IndexOutOfBoundsException : qTw "PriceHouse" 228 "java/lang/IndexOutOfBoundsException" ["java/lang/RuntimeException", "java/lang/Exception"] := by
  unfold qTw
  decide +kernel
theorem tw_NoSuchElementException : qTw "PriceHouse" 224 "java/util/NoSuchElementException" ["java/lang/RuntimeException", "java/lang/Exception"] := by
  unfold qTw
  decide +kernel

theorem d_H_isArticle_0 : decode b_H_isArticle 0 = .ok (.iload_n 0, 1) := by decide +kernel
theorem d_H_isArticle_1 : decode b_H_isArticle 1 = .ok (.ifCond .lt 13, 3) := by decide +kernel
theorem d_H_isArticle_4 : decode b_H_isArticle 4 = .ok (.iload_n 0, 1) := by decide +kernel
theorem d_H_isArticle_5 : decode b_H_isArticle 5 = .ok (.bipush 8, 2) := by decide +kernel
theorem d_H_isArticle_7 : decode b_H_isArticle 7 = .ok (.if_icmp .ge 7, 3) := by decide +kernel
theorem d_H_isArticle_10 : decode b_H_isArticle 10 = .ok (.iconst 1, 1) := by decide +kernel
theorem d_H_isArticle_11 : decode b_H_isArticle 11 = .ok (.goto 4, 3) := by decide +kernel
theorem d_H_isArticle_14 : decode b_H_isArticle 14 = .ok (.iconst 0, 1) := by decide +kernel
theorem d_H_isArticle_15 : decode b_H_isArticle 15 = .ok (.ireturn, 1) := by decide +kernel

theorem d_H_isSlot_0 : decode b_H_isSlot 0 = .ok (.iload_n 0, 1) := by decide +kernel
theorem d_H_isSlot_1 : decode b_H_isSlot 1 = .ok (.ifCond .lt 12, 3) := by decide +kernel
theorem d_H_isSlot_4 : decode b_H_isSlot 4 = .ok (.iload_n 0, 1) := by decide +kernel
theorem d_H_isSlot_5 : decode b_H_isSlot 5 = .ok (.iconst 2, 1) := by decide +kernel
theorem d_H_isSlot_6 : decode b_H_isSlot 6 = .ok (.if_icmp .ge 7, 3) := by decide +kernel
theorem d_H_isSlot_9 : decode b_H_isSlot 9 = .ok (.iconst 1, 1) := by decide +kernel
theorem d_H_isSlot_10 : decode b_H_isSlot 10 = .ok (.goto 4, 3) := by decide +kernel
theorem d_H_isSlot_13 : decode b_H_isSlot 13 = .ok (.iconst 0, 1) := by decide +kernel
theorem d_H_isSlot_14 : decode b_H_isSlot 14 = .ok (.ireturn, 1) := by decide +kernel

theorem d_H_isBundleSize_0 : decode b_H_isBundleSize 0 = .ok (.iload_n 0, 1) := by decide +kernel
theorem d_H_isBundleSize_1 : decode b_H_isBundleSize 1 = .ok (.ifCond .eq 14, 3) := by decide +kernel
theorem d_H_isBundleSize_4 : decode b_H_isBundleSize 4 = .ok (.iload_n 0, 1) := by decide +kernel
theorem d_H_isBundleSize_5 : decode b_H_isBundleSize 5 = .ok (.iconst 2, 1) := by decide +kernel
theorem d_H_isBundleSize_6 : decode b_H_isBundleSize 6 = .ok (.if_icmp .lt 13, 3) := by decide +kernel
theorem d_H_isBundleSize_9 : decode b_H_isBundleSize 9 = .ok (.iload_n 0, 1) := by decide +kernel
theorem d_H_isBundleSize_10 : decode b_H_isBundleSize 10 = .ok (.bipush 12, 2) := by decide +kernel
theorem d_H_isBundleSize_12 : decode b_H_isBundleSize 12 = .ok (.if_icmp .gt 7, 3) := by decide +kernel
theorem d_H_isBundleSize_15 : decode b_H_isBundleSize 15 = .ok (.iconst 1, 1) := by decide +kernel
theorem d_H_isBundleSize_16 : decode b_H_isBundleSize 16 = .ok (.goto 4, 3) := by decide +kernel
theorem d_H_isBundleSize_19 : decode b_H_isBundleSize 19 = .ok (.iconst 0, 1) := by decide +kernel
theorem d_H_isBundleSize_20 : decode b_H_isBundleSize 20 = .ok (.ireturn, 1) := by decide +kernel

theorem d_H_isAmount_0 : decode b_H_isAmount 0 = .ok (.iload_n 0, 1) := by decide +kernel
theorem d_H_isAmount_1 : decode b_H_isAmount 1 = .ok (.ifCond .lt 13, 3) := by decide +kernel
theorem d_H_isAmount_4 : decode b_H_isAmount 4 = .ok (.iload_n 0, 1) := by decide +kernel
theorem d_H_isAmount_5 : decode b_H_isAmount 5 = .ok (.ldc 225, 2) := by decide +kernel
theorem d_H_isAmount_7 : decode b_H_isAmount 7 = .ok (.if_icmp .gt 7, 3) := by decide +kernel
theorem d_H_isAmount_10 : decode b_H_isAmount 10 = .ok (.iconst 1, 1) := by decide +kernel
theorem d_H_isAmount_11 : decode b_H_isAmount 11 = .ok (.goto 4, 3) := by decide +kernel
theorem d_H_isAmount_14 : decode b_H_isAmount 14 = .ok (.iconst 0, 1) := by decide +kernel
theorem d_H_isAmount_15 : decode b_H_isAmount 15 = .ok (.ireturn, 1) := by decide +kernel

theorem d_H_isTillOrDesk_0 : decode b_H_isTillOrDesk 0 = .ok (.iload_n 0, 1) := by decide +kernel
theorem d_H_isTillOrDesk_1 : decode b_H_isTillOrDesk 1 = .ok (.ifCond .lt 12, 3) := by decide +kernel
theorem d_H_isTillOrDesk_4 : decode b_H_isTillOrDesk 4 = .ok (.iload_n 0, 1) := by decide +kernel
theorem d_H_isTillOrDesk_5 : decode b_H_isTillOrDesk 5 = .ok (.iconst 4, 1) := by decide +kernel
theorem d_H_isTillOrDesk_6 : decode b_H_isTillOrDesk 6 = .ok (.if_icmp .gt 7, 3) := by decide +kernel
theorem d_H_isTillOrDesk_9 : decode b_H_isTillOrDesk 9 = .ok (.iconst 1, 1) := by decide +kernel
theorem d_H_isTillOrDesk_10 : decode b_H_isTillOrDesk 10 = .ok (.goto 4, 3) := by decide +kernel
theorem d_H_isTillOrDesk_13 : decode b_H_isTillOrDesk 13 = .ok (.iconst 0, 1) := by decide +kernel
theorem d_H_isTillOrDesk_14 : decode b_H_isTillOrDesk 14 = .ok (.ireturn, 1) := by decide +kernel

theorem d_H_isBook_0 : decode b_H_isBook 0 = .ok (.iload_n 1, 1) := by decide +kernel
theorem d_H_isBook_1 : decode b_H_isBook 1 = .ok (.iconst 1, 1) := by decide +kernel
theorem d_H_isBook_2 : decode b_H_isBook 2 = .ok (.if_icmp .lt 15, 3) := by decide +kernel
theorem d_H_isBook_5 : decode b_H_isBook 5 = .ok (.iload_n 1, 1) := by decide +kernel
theorem d_H_isBook_6 : decode b_H_isBook 6 = .ok (.aload_n 0, 1) := by decide +kernel
theorem d_H_isBook_7 : decode b_H_isBook 7 = .ok (.getfield 78, 3) := by decide +kernel
theorem d_H_isBook_10 : decode b_H_isBook 10 = .ok (.if_icmp .gt 7, 3) := by decide +kernel
theorem d_H_isBook_13 : decode b_H_isBook 13 = .ok (.iconst 1, 1) := by decide +kernel
theorem d_H_isBook_14 : decode b_H_isBook 14 = .ok (.goto 4, 3) := by decide +kernel
theorem d_H_isBook_17 : decode b_H_isBook 17 = .ok (.iconst 0, 1) := by decide +kernel
theorem d_H_isBook_18 : decode b_H_isBook 18 = .ok (.ireturn, 1) := by decide +kernel

theorem d_H_isBasket_0 : decode b_H_isBasket 0 = .ok (.iload_n 1, 1) := by decide +kernel
theorem d_H_isBasket_1 : decode b_H_isBasket 1 = .ok (.ifCond .lt 15, 3) := by decide +kernel
theorem d_H_isBasket_4 : decode b_H_isBasket 4 = .ok (.iload_n 1, 1) := by decide +kernel
theorem d_H_isBasket_5 : decode b_H_isBasket 5 = .ok (.aload_n 0, 1) := by decide +kernel
theorem d_H_isBasket_6 : decode b_H_isBasket 6 = .ok (.getfield 190, 3) := by decide +kernel
theorem d_H_isBasket_9 : decode b_H_isBasket 9 = .ok (.if_icmp .ge 7, 3) := by decide +kernel
theorem d_H_isBasket_12 : decode b_H_isBasket 12 = .ok (.iconst 1, 1) := by decide +kernel
theorem d_H_isBasket_13 : decode b_H_isBasket 13 = .ok (.goto 4, 3) := by decide +kernel
theorem d_H_isBasket_16 : decode b_H_isBasket 16 = .ok (.iconst 0, 1) := by decide +kernel
theorem d_H_isBasket_17 : decode b_H_isBasket 17 = .ok (.ireturn, 1) := by decide +kernel

theorem d_H_sells_0 : decode b_H_sells 0 = .ok (.aload_n 0, 1) := by decide +kernel
theorem d_H_sells_1 : decode b_H_sells 1 = .ok (.getfield 16, 3) := by decide +kernel
theorem d_H_sells_4 : decode b_H_sells 4 = .ok (.iload_n 1, 1) := by decide +kernel
theorem d_H_sells_5 : decode b_H_sells 5 = .ok (.iconst 1, 1) := by decide +kernel
theorem d_H_sells_6 : decode b_H_sells 6 = .ok (.isub, 1) := by decide +kernel
theorem d_H_sells_7 : decode b_H_sells 7 = .ok (.aaload, 1) := by decide +kernel
theorem d_H_sells_8 : decode b_H_sells 8 = .ok (.getfield 62, 3) := by decide +kernel
theorem d_H_sells_11 : decode b_H_sells 11 = .ok (.iload_n 2, 1) := by decide +kernel
theorem d_H_sells_12 : decode b_H_sells 12 = .ok (.iaload, 1) := by decide +kernel
theorem d_H_sells_13 : decode b_H_sells 13 = .ok (.ifCond .eq 7, 3) := by decide +kernel
theorem d_H_sells_16 : decode b_H_sells 16 = .ok (.iconst 1, 1) := by decide +kernel
theorem d_H_sells_17 : decode b_H_sells 17 = .ok (.goto 4, 3) := by decide +kernel
theorem d_H_sells_20 : decode b_H_sells 20 = .ok (.iconst 0, 1) := by decide +kernel
theorem d_H_sells_21 : decode b_H_sells 21 = .ok (.ireturn, 1) := by decide +kernel

theorem d_H_checkTill_0 : decode b_H_checkTill 0 = .ok (.iload_n 0, 1) := by decide +kernel
theorem d_H_checkTill_1 : decode b_H_checkTill 1 = .ok (.ifCond .lt 8, 3) := by decide +kernel
theorem d_H_checkTill_4 : decode b_H_checkTill 4 = .ok (.iload_n 0, 1) := by decide +kernel
theorem d_H_checkTill_5 : decode b_H_checkTill 5 = .ok (.iconst 4, 1) := by decide +kernel
theorem d_H_checkTill_6 : decode b_H_checkTill 6 = .ok (.if_icmp .lt 11, 3) := by decide +kernel
theorem d_H_checkTill_9 : decode b_H_checkTill 9 = .ok (.new 59, 3) := by decide +kernel
theorem d_H_checkTill_12 : decode b_H_checkTill 12 = .ok (.dup, 1) := by decide +kernel
theorem d_H_checkTill_13 : decode b_H_checkTill 13 = .ok (.invokespecial 61, 3) := by decide +kernel
theorem d_H_checkTill_16 : decode b_H_checkTill 16 = .ok (.athrow, 1) := by decide +kernel
theorem d_H_checkTill_17 : decode b_H_checkTill 17 = .ok (.return_, 1) := by decide +kernel

theorem d_H_checkLetter_0 : decode b_H_checkLetter 0 = .ok (.iload_n 1, 1) := by decide +kernel
theorem d_H_checkLetter_1 : decode b_H_checkLetter 1 = .ok (.ifCond .lt 14, 3) := by decide +kernel
theorem d_H_checkLetter_4 : decode b_H_checkLetter 4 = .ok (.iload_n 1, 1) := by decide +kernel
theorem d_H_checkLetter_5 : decode b_H_checkLetter 5 = .ok (.aload_n 0, 1) := by decide +kernel
theorem d_H_checkLetter_6 : decode b_H_checkLetter 6 = .ok (.getfield 37, 3) := by decide +kernel
theorem d_H_checkLetter_9 : decode b_H_checkLetter 9 = .ok (.getfield 184, 3) := by decide +kernel
theorem d_H_checkLetter_12 : decode b_H_checkLetter 12 = .ok (.if_icmp .lt 11, 3) := by decide +kernel
theorem d_H_checkLetter_15 : decode b_H_checkLetter 15 = .ok (.new 226, 3) := by decide +kernel
theorem d_H_checkLetter_18 : decode b_H_checkLetter 18 = .ok (.dup, 1) := by decide +kernel
theorem d_H_checkLetter_19 : decode b_H_checkLetter 19 = .ok (.invokespecial 228, 3) := by decide +kernel
theorem d_H_checkLetter_22 : decode b_H_checkLetter 22 = .ok (.athrow, 1) := by decide +kernel
theorem d_H_checkLetter_23 : decode b_H_checkLetter 23 = .ok (.return_, 1) := by decide +kernel

theorem d_H_checkOpenBasket_0 : decode b_H_checkOpenBasket 0 = .ok (.aload_n 0, 1) := by decide +kernel
theorem d_H_checkOpenBasket_1 : decode b_H_checkOpenBasket 1 = .ok (.iload_n 1, 1) := by decide +kernel
theorem d_H_checkOpenBasket_2 : decode b_H_checkOpenBasket 2 = .ok (.invokevirtual 219, 3) := by decide +kernel
theorem d_H_checkOpenBasket_5 : decode b_H_checkOpenBasket 5 = .ok (.ifCond .eq 15, 3) := by decide +kernel
theorem d_H_checkOpenBasket_8 : decode b_H_checkOpenBasket 8 = .ok (.aload_n 0, 1) := by decide +kernel
theorem d_H_checkOpenBasket_9 : decode b_H_checkOpenBasket 9 = .ok (.getfield 43, 3) := by decide +kernel
theorem d_H_checkOpenBasket_12 : decode b_H_checkOpenBasket 12 = .ok (.iload_n 1, 1) := by decide +kernel
theorem d_H_checkOpenBasket_13 : decode b_H_checkOpenBasket 13 = .ok (.aaload, 1) := by decide +kernel
theorem d_H_checkOpenBasket_14 : decode b_H_checkOpenBasket 14 = .ok (.getfield 209, 3) := by decide +kernel
theorem d_H_checkOpenBasket_17 : decode b_H_checkOpenBasket 17 = .ok (.ifCond .ne 11, 3) := by decide +kernel
theorem d_H_checkOpenBasket_20 : decode b_H_checkOpenBasket 20 = .ok (.new 222, 3) := by decide +kernel
theorem d_H_checkOpenBasket_23 : decode b_H_checkOpenBasket 23 = .ok (.dup, 1) := by decide +kernel
theorem d_H_checkOpenBasket_24 : decode b_H_checkOpenBasket 24 = .ok (.invokespecial 224, 3) := by decide +kernel
theorem d_H_checkOpenBasket_27 : decode b_H_checkOpenBasket 27 = .ok (.athrow, 1) := by decide +kernel
theorem d_H_checkOpenBasket_28 : decode b_H_checkOpenBasket 28 = .ok (.return_, 1) := by decide +kernel

set_option maxHeartbeats 4000000 in
set_option maxRecDepth 100000 in
theorem c_H_isArticle (l : Launch) (Z : qZ) (hZ : qok (pX Z)) (V : qV) (Y : qY) (a : Int32) : CT l y_H_isArticle { frames := 1, cells := 0, slots := 0, locals := 40 } (pX Z) qN [.int a] V Y (.inl (some (.int (f_isArticle a)))) V Y := by
  refine CT.of (cc := b_H_isArticle) (maxL := 1) (ret := (some .boolean)) hZ (by decide) w_250 (Nat.le_of_ble_eq_true rfl) ?_
  intro p e s m below meth c C hr hex hlt
  refine gq_iload_n C d_H_isArticle_0 rfl ?_
  refine gq_if_lt C (tgt := 14) d_H_isArticle_1 rfl (fun hb1 => ?_) (fun hb1 => ?_)
  · skip
    refine gq_iconst C (v := 0) d_H_isArticle_14 (by decide) ?_
    exact gq_zretE C hr (by decide) (by unfold f_isArticle; simp [*]) rfl rfl (by decide) (by decide) d_H_isArticle_15
  · skip
    refine gq_iload_n C d_H_isArticle_4 rfl ?_
    refine gq_bipush C (v := 8) d_H_isArticle_5 (by decide) ?_
    refine gq_icmp_ge C (tgt := 14) d_H_isArticle_7 rfl (fun hb7 => ?_) (fun hb7 => ?_)
    · skip
      refine gq_iconst C (v := 0) d_H_isArticle_14 (by decide) ?_
      exact gq_zretE C hr (by decide) (by unfold f_isArticle; simp [*]) rfl rfl (by decide) (by decide) d_H_isArticle_15
    · skip
      refine gq_iconst C (v := 1) d_H_isArticle_10 (by decide) ?_
      refine gq_goto C (tgt := 15) d_H_isArticle_11 rfl ?_
      exact gq_zretE C hr (by decide) (by unfold f_isArticle; simp [*]) rfl rfl (by decide) (by decide) d_H_isArticle_15

set_option maxHeartbeats 4000000 in
set_option maxRecDepth 100000 in
theorem c_H_isSlot (l : Launch) (Z : qZ) (hZ : qok (pX Z)) (V : qV) (Y : qY) (a : Int32) : CT l y_H_isSlot { frames := 1, cells := 0, slots := 0, locals := 40 } (pX Z) qN [.int a] V Y (.inl (some (.int (f_isSlot a)))) V Y := by
  refine CT.of (cc := b_H_isSlot) (maxL := 1) (ret := (some .boolean)) hZ (by decide) w_328 (Nat.le_of_ble_eq_true rfl) ?_
  intro p e s m below meth c C hr hex hlt
  refine gq_iload_n C d_H_isSlot_0 rfl ?_
  refine gq_if_lt C (tgt := 13) d_H_isSlot_1 rfl (fun hb1 => ?_) (fun hb1 => ?_)
  · skip
    refine gq_iconst C (v := 0) d_H_isSlot_13 (by decide) ?_
    exact gq_zretE C hr (by decide) (by unfold f_isSlot; simp [*]) rfl rfl (by decide) (by decide) d_H_isSlot_14
  · skip
    refine gq_iload_n C d_H_isSlot_4 rfl ?_
    refine gq_iconst C (v := 2) d_H_isSlot_5 (by decide) ?_
    refine gq_icmp_ge C (tgt := 13) d_H_isSlot_6 rfl (fun hb6 => ?_) (fun hb6 => ?_)
    · skip
      refine gq_iconst C (v := 0) d_H_isSlot_13 (by decide) ?_
      exact gq_zretE C hr (by decide) (by unfold f_isSlot; simp [*]) rfl rfl (by decide) (by decide) d_H_isSlot_14
    · skip
      refine gq_iconst C (v := 1) d_H_isSlot_9 (by decide) ?_
      refine gq_goto C (tgt := 14) d_H_isSlot_10 rfl ?_
      exact gq_zretE C hr (by decide) (by unfold f_isSlot; simp [*]) rfl rfl (by decide) (by decide) d_H_isSlot_14

set_option maxHeartbeats 4000000 in
set_option maxRecDepth 100000 in
theorem c_H_isBundleSize (l : Launch) (Z : qZ) (hZ : qok (pX Z)) (V : qV) (Y : qY) (a : Int32) : CT l y_H_isBundleSize { frames := 1, cells := 0, slots := 0, locals := 40 } (pX Z) qN [.int a] V Y (.inl (some (.int (f_isBundleSize a)))) V Y := by
  refine CT.of (cc := b_H_isBundleSize) (maxL := 1) (ret := (some .boolean)) hZ (by decide) w_331 (Nat.le_of_ble_eq_true rfl) ?_
  intro p e s m below meth c C hr hex hlt
  refine gq_iload_n C d_H_isBundleSize_0 rfl ?_
  refine gq_if_eq C (tgt := 15) d_H_isBundleSize_1 rfl (fun hb1 => ?_) (fun hb1 => ?_)
  · skip
    refine gq_iconst C (v := 1) d_H_isBundleSize_15 (by decide) ?_
    refine gq_goto C (tgt := 20) d_H_isBundleSize_16 rfl ?_
    exact gq_zretE C hr (by decide) (by unfold f_isBundleSize; simp [*]) rfl rfl (by decide) (by decide) d_H_isBundleSize_20
  · skip
    refine gq_iload_n C d_H_isBundleSize_4 rfl ?_
    refine gq_iconst C (v := 2) d_H_isBundleSize_5 (by decide) ?_
    refine gq_icmp_lt C (tgt := 19) d_H_isBundleSize_6 rfl (fun hb6 => ?_) (fun hb6 => ?_)
    · skip
      refine gq_iconst C (v := 0) d_H_isBundleSize_19 (by decide) ?_
      exact gq_zretE C hr (by decide) (by unfold f_isBundleSize; simp [*]) rfl rfl (by decide) (by decide) d_H_isBundleSize_20
    · skip
      refine gq_iload_n C d_H_isBundleSize_9 rfl ?_
      refine gq_bipush C (v := 12) d_H_isBundleSize_10 (by decide) ?_
      refine gq_icmp_gt C (tgt := 19) d_H_isBundleSize_12 rfl (fun hb12 => ?_) (fun hb12 => ?_)
      · skip
        refine gq_iconst C (v := 0) d_H_isBundleSize_19 (by decide) ?_
        exact gq_zretE C hr (by decide) (by unfold f_isBundleSize; simp [*]) rfl rfl (by decide) (by decide) d_H_isBundleSize_20
      · skip
        refine gq_iconst C (v := 1) d_H_isBundleSize_15 (by decide) ?_
        refine gq_goto C (tgt := 20) d_H_isBundleSize_16 rfl ?_
        exact gq_zretE C hr (by decide) (by unfold f_isBundleSize; simp [*]) rfl rfl (by decide) (by decide) d_H_isBundleSize_20

set_option maxHeartbeats 4000000 in
set_option maxRecDepth 100000 in
theorem c_H_isAmount (l : Launch) (Z : qZ) (hZ : qok (pX Z)) (V : qV) (Y : qY) (a : Int32) : CT l y_H_isAmount { frames := 1, cells := 0, slots := 0, locals := 40 } (pX Z) qN [.int a] V Y (.inl (some (.int (f_isAmount a)))) V Y := by
  refine CT.of (cc := b_H_isAmount) (maxL := 1) (ret := (some .boolean)) hZ (by decide) w_253 (Nat.le_of_ble_eq_true rfl) ?_
  intro p e s m below meth c C hr hex hlt
  refine gq_iload_n C d_H_isAmount_0 rfl ?_
  refine gq_if_lt C (tgt := 14) d_H_isAmount_1 rfl (fun hb1 => ?_) (fun hb1 => ?_)
  · skip
    refine gq_iconst C (v := 0) d_H_isAmount_14 (by decide) ?_
    exact gq_zretE C hr (by decide) (by unfold f_isAmount; simp [*]) rfl rfl (by decide) (by decide) d_H_isAmount_15
  · skip
    refine gq_iload_n C d_H_isAmount_4 rfl ?_
    refine gq_ldc C w_254 d_H_isAmount_5 ?_
    refine gq_icmp_gt C (tgt := 14) d_H_isAmount_7 rfl (fun hb7 => ?_) (fun hb7 => ?_)
    · skip
      refine gq_iconst C (v := 0) d_H_isAmount_14 (by decide) ?_
      exact gq_zretE C hr (by decide) (by unfold f_isAmount; simp [*]) rfl rfl (by decide) (by decide) d_H_isAmount_15
    · skip
      refine gq_iconst C (v := 1) d_H_isAmount_10 (by decide) ?_
      refine gq_goto C (tgt := 15) d_H_isAmount_11 rfl ?_
      exact gq_zretE C hr (by decide) (by unfold f_isAmount; simp [*]) rfl rfl (by decide) (by decide) d_H_isAmount_15

set_option maxHeartbeats 4000000 in
set_option maxRecDepth 100000 in
theorem c_H_isTillOrDesk (l : Launch) (Z : qZ) (hZ : qok (pX Z)) (V : qV) (Y : qY) (a : Int32) : CT l y_H_isTillOrDesk { frames := 1, cells := 0, slots := 0, locals := 40 } (pX Z) qN [.int a] V Y (.inl (some (.int (f_isTD a)))) V Y := by
  refine CT.of (cc := b_H_isTillOrDesk) (maxL := 1) (ret := (some .boolean)) hZ (by decide) w_418 (Nat.le_of_ble_eq_true rfl) ?_
  intro p e s m below meth c C hr hex hlt
  refine gq_iload_n C d_H_isTillOrDesk_0 rfl ?_
  refine gq_if_lt C (tgt := 13) d_H_isTillOrDesk_1 rfl (fun hb1 => ?_) (fun hb1 => ?_)
  · skip
    refine gq_iconst C (v := 0) d_H_isTillOrDesk_13 (by decide) ?_
    exact gq_zretE C hr (by decide) (by unfold f_isTD; simp [*]) rfl rfl (by decide) (by decide) d_H_isTillOrDesk_14
  · skip
    refine gq_iload_n C d_H_isTillOrDesk_4 rfl ?_
    refine gq_iconst C (v := 4) d_H_isTillOrDesk_5 (by decide) ?_
    refine gq_icmp_gt C (tgt := 13) d_H_isTillOrDesk_6 rfl (fun hb6 => ?_) (fun hb6 => ?_)
    · skip
      refine gq_iconst C (v := 0) d_H_isTillOrDesk_13 (by decide) ?_
      exact gq_zretE C hr (by decide) (by unfold f_isTD; simp [*]) rfl rfl (by decide) (by decide) d_H_isTillOrDesk_14
    · skip
      refine gq_iconst C (v := 1) d_H_isTillOrDesk_9 (by decide) ?_
      refine gq_goto C (tgt := 14) d_H_isTillOrDesk_10 rfl ?_
      exact gq_zretE C hr (by decide) (by unfold f_isTD; simp [*]) rfl rfl (by decide) (by decide) d_H_isTillOrDesk_14

set_option maxHeartbeats 4000000 in
set_option maxRecDepth 100000 in
theorem c_H_isBook (l : Launch) (Z : qZ) (hZ : qok (pX Z)) (V : qV) (Y : qY) (b : Int32) : CT l y_H_isBook { frames := 1, cells := 0, slots := 0, locals := 40 } (pX Z) qN [.ref (al Z 0 0), .int b] V Y (.inl (some (.int (f_isBook V b)))) V Y := by
  refine CT.of (cc := b_H_isBook) (maxL := 2) (ret := (some .boolean)) hZ (by decide) w_380 (Nat.le_of_ble_eq_true rfl) ?_
  intro p e s m below meth c C hr hex hlt
  refine gq_iload_n C d_H_isBook_0 rfl ?_
  refine gq_iconst C (v := 1) d_H_isBook_1 (by decide) ?_
  refine gq_icmp_lt C (tgt := 17) d_H_isBook_2 rfl (fun hb2 => ?_) (fun hb2 => ?_)
  · skip
    refine gq_iconst C (v := 0) d_H_isBook_17 (by decide) ?_
    exact gq_zretE C hr (by decide) (by unfold f_isBook; simp [*]) rfl rfl (by decide) (by decide) d_H_isBook_18
  · skip
    refine gq_iload_n C d_H_isBook_5 rfl ?_
    refine gq_aload_n C d_H_isBook_6 rfl ?_
    refine gq_get C (g := 0) (j := 0) (ci := 7) (k := 2) (v := .int (V 0 0 2)) (qm (by decide) (by decide)) rfl rfl in_H (by decide) w_205 rfl d_H_isBook_7 ?_
    refine gq_icmp_gt C (tgt := 17) d_H_isBook_10 rfl (fun hb10 => ?_) (fun hb10 => ?_)
    · skip
      refine gq_iconst C (v := 0) d_H_isBook_17 (by decide) ?_
      exact gq_zretE C hr (by decide) (by unfold f_isBook; simp [*]) rfl rfl (by decide) (by decide) d_H_isBook_18
    · skip
      refine gq_iconst C (v := 1) d_H_isBook_13 (by decide) ?_
      refine gq_goto C (tgt := 18) d_H_isBook_14 rfl ?_
      exact gq_zretE C hr (by decide) (by unfold f_isBook; simp [*]) rfl rfl (by decide) (by decide) d_H_isBook_18

set_option maxHeartbeats 4000000 in
set_option maxRecDepth 100000 in
theorem c_H_isBasket (l : Launch) (Z : qZ) (hZ : qok (pX Z)) (V : qV) (Y : qY) (k : Int32) : CT l y_H_isBasket { frames := 1, cells := 0, slots := 0, locals := 40 } (pX Z) qN [.ref (al Z 0 0), .int k] V Y (.inl (some (.int (f_isBasket V k)))) V Y := by
  refine CT.of (cc := b_H_isBasket) (maxL := 2) (ret := (some .boolean)) hZ (by decide) w_592 (Nat.le_of_ble_eq_true rfl) ?_
  intro p e s m below meth c C hr hex hlt
  refine gq_iload_n C d_H_isBasket_0 rfl ?_
  refine gq_if_lt C (tgt := 16) d_H_isBasket_1 rfl (fun hb1 => ?_) (fun hb1 => ?_)
  · skip
    refine gq_iconst C (v := 0) d_H_isBasket_16 (by decide) ?_
    exact gq_zretE C hr (by decide) (by unfold f_isBasket; simp [*]) rfl rfl (by decide) (by decide) d_H_isBasket_17
  · skip
    refine gq_iload_n C d_H_isBasket_4 rfl ?_
    refine gq_aload_n C d_H_isBasket_5 rfl ?_
    refine gq_get C (g := 0) (j := 0) (ci := 7) (k := 7) (v := .int (V 0 0 7)) (qm (by decide) (by decide)) rfl rfl in_H (by decide) w_210 rfl d_H_isBasket_6 ?_
    refine gq_icmp_ge C (tgt := 16) d_H_isBasket_9 rfl (fun hb9 => ?_) (fun hb9 => ?_)
    · skip
      refine gq_iconst C (v := 0) d_H_isBasket_16 (by decide) ?_
      exact gq_zretE C hr (by decide) (by unfold f_isBasket; simp [*]) rfl rfl (by decide) (by decide) d_H_isBasket_17
    · skip
      refine gq_iconst C (v := 1) d_H_isBasket_12 (by decide) ?_
      refine gq_goto C (tgt := 17) d_H_isBasket_13 rfl ?_
      exact gq_zretE C hr (by decide) (by unfold f_isBasket; simp [*]) rfl rfl (by decide) (by decide) d_H_isBasket_17

set_option maxHeartbeats 4000000 in
set_option maxRecDepth 100000 in
theorem c_H_sells (l : Launch) (Z : qZ) (hZ : qok (pX Z)) (V : qV) (Y : qY) (b : Nat) (hb : b < 9) (n : Nat) (hn : n < 8) : CT l y_H_sells { frames := 1, cells := 0, slots := 0, locals := 40 } (pX Z) qN [.ref (al Z 0 0), .int (nI (b + 1)), .int (nI n)] V Y (.inl (some (.int (f_sells V (b + 1) n)))) V Y := by
  refine CT.of (cc := b_H_sells) (maxL := 3) (ret := (some .boolean)) hZ (by decide) w_611 (Nat.le_of_ble_eq_true rfl) ?_
  intro p e s m below meth c C hr hex hlt
  refine gq_aload_n C d_H_sells_0 rfl ?_
  refine gq_get C (g := 0) (j := 0) (ci := 7) (k := 1) (v := .ref (al Z 5 0)) (qm (by decide) (by decide)) rfl rfl in_H (by decide) w_204 rfl d_H_sells_1 ?_
  refine gq_iload_n C d_H_sells_4 rfl ?_
  refine gq_iconst C (v := 1) d_H_sells_5 (by decide) ?_
  refine gq_isub C d_H_sells_6 ?_
  refine G.eqS (st' := [.int (nI b), .ref (al Z 5 0)]) (by first | (rw [show (nI (b + 1)) - 1 = nI b from (nI_pred b)]; done) | (rw [show (nI (b + 1)) - 1 = nI b from (nI_pred b)]; rfl)) ?_
  refine gq_aald C (g := 5) (j := 0) (a := b) (t0 := 3) (b := al Z 1 (b + 1)) (qm (by decide) (by decide)) rfl rfl rfl hb (by decide) rfl d_H_sells_7 ?_
  refine gq_get C (g := 1) (j := (b + 1)) (ci := 5) (k := 0) (v := .ref (al Z 2 (b + 1))) (qm (by decide) (Nat.succ_lt_succ hb)) rfl rfl in_L (by decide) w_34 rfl d_H_sells_8 ?_
  refine gq_iload_n C d_H_sells_11 rfl ?_
  refine gq_iald C (g := 2) (j := (b + 1)) (a := n) (t0 := 0) (qm (by decide) (Nat.succ_lt_succ hb)) rfl rfl rfl hn (by decide) d_H_sells_12 ?_
  refine gq_if_eq C (tgt := 20) d_H_sells_13 rfl (fun hb13 => ?_) (fun hb13 => ?_)
  · skip
    refine gq_iconst C (v := 0) d_H_sells_20 (by decide) ?_
    exact gq_zretE C hr (by decide) (by unfold f_sells; simp [*]) rfl rfl (by decide) (by decide) d_H_sells_21
  · skip
    refine gq_iconst C (v := 1) d_H_sells_16 (by decide) ?_
    refine gq_goto C (tgt := 21) d_H_sells_17 rfl ?_
    exact gq_zretE C hr (by decide) (by unfold f_sells; simp [*]) rfl rfl (by decide) (by decide) d_H_sells_21

set_option maxHeartbeats 4000000 in
set_option maxRecDepth 100000 in
theorem c_H_checkTill (l : Launch) (Z : qZ) (hZ : qok (pX Z)) (V : qV) (Y : qY) (t : Int32) (h0 : ¬ t < 0) (h1 : t < 4) : CT l y_H_checkTill { frames := 6, cells := 0, slots := 0, locals := 96 } (pX Z) qN [.int t] V Y (.inl none) V Y := by
  refine CT.of (cc := b_H_checkTill) (maxL := 1) (ret := none) hZ (by decide) w_428 (Nat.le_of_ble_eq_true rfl) ?_
  intro p e s m below meth c C hr hex hlt
  refine gq_iload_n C d_H_checkTill_0 rfl ?_
  refine gq_if_lt C (tgt := 9) d_H_checkTill_1 rfl (fun hb => by first | contradiction | contradiction) (fun hb1 => ?_)
  refine gq_iload_n C d_H_checkTill_4 rfl ?_
  refine gq_iconst C (v := 4) d_H_checkTill_5 (by decide) ?_
  refine gq_icmp_lt C (tgt := 17) d_H_checkTill_6 rfl (fun hb6 => ?_) (fun hb => by first | contradiction | contradiction)
  exact gq_vret C hr (by decide) (by decide) d_H_checkTill_17

set_option maxHeartbeats 4000000 in
set_option maxRecDepth 100000 in
theorem c_H_checkTill_x (l : Launch) (hadm : ∀ e : Env, l.admits e → e.platform.stackTraces = false) (Z : qZ) (hZ : qok (pX Z)) (V : qV) (Y : qY) (t : Int32) (h : t < 0 ∨ ¬ t < 4) : CT l y_H_checkTill { frames := 6, cells := 1, slots := 6, locals := 96 } (pX Z) qN [.int t] V Y (.inr "java/lang/IllegalArgumentException") V Y := by
  refine CT.of (cc := b_H_checkTill) (maxL := 1) (ret := none) hZ (by decide) w_428 (Nat.le_of_ble_eq_true rfl) ?_
  intro p e s m below meth c C hr hex hlt
  refine gq_iload_n C d_H_checkTill_0 rfl ?_
  refine gq_if_lt C (tgt := 9) d_H_checkTill_1 rfl (fun hb1 => ?_) (fun hb1 => ?_)
  · skip
    exact gq_throw C hadm hex hlt tw_IllegalArgumentException w_255 w_256 w_13 (by decide) (by decide) (by decide) (by decide) (by decide) (Nat.le_of_ble_eq_true rfl) d_H_checkTill_9 d_H_checkTill_12 d_H_checkTill_13 d_H_checkTill_16
  · skip
    refine gq_iload_n C d_H_checkTill_4 rfl ?_
    refine gq_iconst C (v := 4) d_H_checkTill_5 (by decide) ?_
    refine gq_icmp_lt C (tgt := 17) d_H_checkTill_6 rfl (fun hb6 => ?_) (fun hb6 => ?_)
    · skip
      exfalso
      (rcases h with h | h <;> contradiction)
    · skip
      exact gq_throw C hadm hex hlt tw_IllegalArgumentException w_255 w_256 w_13 (by decide) (by decide) (by decide) (by decide) (by decide) (Nat.le_of_ble_eq_true rfl) d_H_checkTill_9 d_H_checkTill_12 d_H_checkTill_13 d_H_checkTill_16

set_option maxHeartbeats 4000000 in
set_option maxRecDepth 100000 in
theorem c_H_checkLetter (l : Launch) (Z : qZ) (hZ : qok (pX Z)) (V : qV) (Y : qY) (i : Int32) (h0 : ¬ i < 0) (h1 : i < V 12 0 4) : CT l y_H_checkLetter { frames := 6, cells := 0, slots := 0, locals := 96 } (pX Z) qN [.ref (al Z 0 0), .int i] V Y (.inl none) V Y := by
  refine CT.of (cc := b_H_checkLetter) (maxL := 2) (ret := none) hZ (by decide) w_488 (Nat.le_of_ble_eq_true rfl) ?_
  intro p e s m below meth c C hr hex hlt
  refine gq_iload_n C d_H_checkLetter_0 rfl ?_
  refine gq_if_lt C (tgt := 15) d_H_checkLetter_1 rfl (fun hb => by first | contradiction | contradiction) (fun hb1 => ?_)
  refine gq_iload_n C d_H_checkLetter_4 rfl ?_
  refine gq_aload_n C d_H_checkLetter_5 rfl ?_
  refine gq_get C (g := 0) (j := 0) (ci := 7) (k := 5) (v := .ref (al Z 12 0)) (qm (by decide) (by decide)) rfl rfl in_H (by decide) w_208 rfl d_H_checkLetter_6 ?_
  refine gq_get C (g := 12) (j := 0) (ci := 3) (k := 4) (v := .int (V 12 0 4)) (qm (by decide) (by decide)) rfl rfl in_R (by decide) w_167 rfl d_H_checkLetter_9 ?_
  refine gq_icmp_lt C (tgt := 23) d_H_checkLetter_12 rfl (fun hb12 => ?_) (fun hb => by first | contradiction | contradiction)
  exact gq_vret C hr (by decide) (by decide) d_H_checkLetter_23

set_option maxHeartbeats 4000000 in
set_option maxRecDepth 100000 in
theorem c_H_checkLetter_x (l : Launch) (hadm : ∀ e : Env, l.admits e → e.platform.stackTraces = false) (Z : qZ) (hZ : qok (pX Z)) (V : qV) (Y : qY) (i : Int32) (h : i < 0 ∨ ¬ i < V 12 0 4) : CT l y_H_checkLetter { frames := 6, cells := 1, slots := 6, locals := 96 } (pX Z) qN [.ref (al Z 0 0), .int i] V Y (.inr "java/lang/IndexOutOfBoundsException") V Y := by
  refine CT.of (cc := b_H_checkLetter) (maxL := 2) (ret := none) hZ (by decide) w_488 (Nat.le_of_ble_eq_true rfl) ?_
  intro p e s m below meth c C hr hex hlt
  refine gq_iload_n C d_H_checkLetter_0 rfl ?_
  refine gq_if_lt C (tgt := 15) d_H_checkLetter_1 rfl (fun hb1 => ?_) (fun hb1 => ?_)
  · skip
    exact gq_throw C hadm hex hlt tw_IndexOutOfBoundsException w_489 w_490 w_16 (by decide) (by decide) (by decide) (by decide) (by decide) (Nat.le_of_ble_eq_true rfl) d_H_checkLetter_15 d_H_checkLetter_18 d_H_checkLetter_19 d_H_checkLetter_22
  · skip
    refine gq_iload_n C d_H_checkLetter_4 rfl ?_
    refine gq_aload_n C d_H_checkLetter_5 rfl ?_
    refine gq_get C (g := 0) (j := 0) (ci := 7) (k := 5) (v := .ref (al Z 12 0)) (qm (by decide) (by decide)) rfl rfl in_H (by decide) w_208 rfl d_H_checkLetter_6 ?_
    refine gq_get C (g := 12) (j := 0) (ci := 3) (k := 4) (v := .int (V 12 0 4)) (qm (by decide) (by decide)) rfl rfl in_R (by decide) w_167 rfl d_H_checkLetter_9 ?_
    refine gq_icmp_lt C (tgt := 23) d_H_checkLetter_12 rfl (fun hb12 => ?_) (fun hb12 => ?_)
    · skip
      exfalso
      (rcases h with h | h <;> contradiction)
    · skip
      exact gq_throw C hadm hex hlt tw_IndexOutOfBoundsException w_489 w_490 w_16 (by decide) (by decide) (by decide) (by decide) (by decide) (Nat.le_of_ble_eq_true rfl) d_H_checkLetter_15 d_H_checkLetter_18 d_H_checkLetter_19 d_H_checkLetter_22

set_option maxHeartbeats 4000000 in
set_option maxRecDepth 100000 in
theorem c_H_checkOpenBasket (l : Launch) (Z : qZ) (hZ : qok (pX Z)) (V : qV) (Y : qY) (k : Nat) (hk : k < 40) (h1 : f_isBasket V (nI k) = 1) (h2 : ¬ V 15 k 2 = 0) : CT l y_H_checkOpenBasket { frames := 6, cells := 0, slots := 0, locals := 96 } (pX Z) qN [.ref (al Z 0 0), .int (nI k)] V Y (.inl none) V Y := by
  refine CT.of (cc := b_H_checkOpenBasket) (maxL := 2) (ret := none) hZ (by decide) w_588 (Nat.le_of_ble_eq_true rfl) ?_
  intro p e s m below meth c C hr hex hlt
  refine gq_aload_n C d_H_checkOpenBasket_0 rfl ?_
  refine gq_iload_n C d_H_checkOpenBasket_1 rfl ?_
  refine gq_callV C (st := []) (fun _ h => h) (c_H_isBasket l Z hZ _ _ (nI k)) (qm (by decide) (by decide)) rfl rfl w_589 w_591 ws_H_isBasket w_592 w_1 ⟨by decide, by decide, (by decide +kernel : (parseMethodDescriptor y_H_isBasket.desc).map (fun d => d.parameters.length) = some 1)⟩ ⟨by decide, by decide⟩ ⟨by decide, by decide⟩ rfl (Nat.le_of_ble_eq_true rfl) d_H_checkOpenBasket_2 ?_
  refine gq_if_eq C (tgt := 20) d_H_checkOpenBasket_5 rfl (fun hb => by first | contradiction | simp_all) (fun hb5 => ?_)
  refine gq_aload_n C d_H_checkOpenBasket_8 rfl ?_
  refine gq_get C (g := 0) (j := 0) (ci := 7) (k := 6) (v := .ref (al Z 14 0)) (qm (by decide) (by decide)) rfl rfl in_H (by decide) w_209 rfl d_H_checkOpenBasket_9 ?_
  refine gq_iload_n C d_H_checkOpenBasket_12 rfl ?_
  refine gq_aald C (g := 14) (j := 0) (a := k) (t0 := 6) (b := al Z 15 k) (qm (by decide) (by decide)) rfl rfl rfl hk (by decide) rfl d_H_checkOpenBasket_13 ?_
  refine gq_get C (g := 15) (j := k) (ci := 0) (k := 2) (v := .int (V 15 k 2)) (qm (by decide) hk) rfl rfl in_B (by decide) w_191 rfl d_H_checkOpenBasket_14 ?_
  refine gq_if_ne C (tgt := 28) d_H_checkOpenBasket_17 rfl (fun hb17 => ?_) (fun hb => by first | contradiction | contradiction)
  exact gq_vret C hr (by decide) (by decide) d_H_checkOpenBasket_28

set_option maxHeartbeats 4000000 in
set_option maxRecDepth 100000 in
theorem c_H_checkOpenBasket_x1 (l : Launch) (hadm : ∀ e : Env, l.admits e → e.platform.stackTraces = false) (Z : qZ) (hZ : qok (pX Z)) (V : qV) (Y : qY) (k : Int32) (h : f_isBasket V k = 0) : CT l y_H_checkOpenBasket { frames := 6, cells := 1, slots := 6, locals := 96 } (pX Z) qN [.ref (al Z 0 0), .int k] V Y (.inr "java/util/NoSuchElementException") V Y := by
  refine CT.of (cc := b_H_checkOpenBasket) (maxL := 2) (ret := none) hZ (by decide) w_588 (Nat.le_of_ble_eq_true rfl) ?_
  intro p e s m below meth c C hr hex hlt
  refine gq_aload_n C d_H_checkOpenBasket_0 rfl ?_
  refine gq_iload_n C d_H_checkOpenBasket_1 rfl ?_
  refine gq_callV C (st := []) (fun _ h => h) (c_H_isBasket l Z hZ _ _ k) (qm (by decide) (by decide)) rfl rfl w_589 w_591 ws_H_isBasket w_592 w_1 ⟨by decide, by decide, (by decide +kernel : (parseMethodDescriptor y_H_isBasket.desc).map (fun d => d.parameters.length) = some 1)⟩ ⟨by decide, by decide⟩ ⟨by decide, by decide⟩ rfl (Nat.le_of_ble_eq_true rfl) d_H_checkOpenBasket_2 ?_
  refine gq_if_eq C (tgt := 20) d_H_checkOpenBasket_5 rfl (fun hb5 => ?_) (fun hb => by first | contradiction | contradiction)
  exact gq_throw C hadm hex hlt tw_NoSuchElementException w_593 w_594 w_18 (by decide) (by decide) (by decide) (by decide) (by decide) (Nat.le_of_ble_eq_true rfl) d_H_checkOpenBasket_20 d_H_checkOpenBasket_23 d_H_checkOpenBasket_24 d_H_checkOpenBasket_27

set_option maxHeartbeats 4000000 in
set_option maxRecDepth 100000 in
theorem c_H_checkOpenBasket_x2 (l : Launch) (hadm : ∀ e : Env, l.admits e → e.platform.stackTraces = false) (Z : qZ) (hZ : qok (pX Z)) (V : qV) (Y : qY) (k : Nat) (hk : k < 40) (h1 : f_isBasket V (nI k) = 1) (h2 : V 15 k 2 = 0) : CT l y_H_checkOpenBasket { frames := 6, cells := 1, slots := 6, locals := 96 } (pX Z) qN [.ref (al Z 0 0), .int (nI k)] V Y (.inr "java/util/NoSuchElementException") V Y := by
  refine CT.of (cc := b_H_checkOpenBasket) (maxL := 2) (ret := none) hZ (by decide) w_588 (Nat.le_of_ble_eq_true rfl) ?_
  intro p e s m below meth c C hr hex hlt
  refine gq_aload_n C d_H_checkOpenBasket_0 rfl ?_
  refine gq_iload_n C d_H_checkOpenBasket_1 rfl ?_
  refine gq_callV C (st := []) (fun _ h => h) (c_H_isBasket l Z hZ _ _ (nI k)) (qm (by decide) (by decide)) rfl rfl w_589 w_591 ws_H_isBasket w_592 w_1 ⟨by decide, by decide, (by decide +kernel : (parseMethodDescriptor y_H_isBasket.desc).map (fun d => d.parameters.length) = some 1)⟩ ⟨by decide, by decide⟩ ⟨by decide, by decide⟩ rfl (Nat.le_of_ble_eq_true rfl) d_H_checkOpenBasket_2 ?_
  refine gq_if_eq C (tgt := 20) d_H_checkOpenBasket_5 rfl (fun hb => by first | contradiction | simp_all) (fun hb5 => ?_)
  refine gq_aload_n C d_H_checkOpenBasket_8 rfl ?_
  refine gq_get C (g := 0) (j := 0) (ci := 7) (k := 6) (v := .ref (al Z 14 0)) (qm (by decide) (by decide)) rfl rfl in_H (by decide) w_209 rfl d_H_checkOpenBasket_9 ?_
  refine gq_iload_n C d_H_checkOpenBasket_12 rfl ?_
  refine gq_aald C (g := 14) (j := 0) (a := k) (t0 := 6) (b := al Z 15 k) (qm (by decide) (by decide)) rfl rfl rfl hk (by decide) rfl d_H_checkOpenBasket_13 ?_
  refine gq_get C (g := 15) (j := k) (ci := 0) (k := 2) (v := .int (V 15 k 2)) (qm (by decide) hk) rfl rfl in_B (by decide) w_191 rfl d_H_checkOpenBasket_14 ?_
  refine gq_if_ne C (tgt := 28) d_H_checkOpenBasket_17 rfl (fun hb => by first | contradiction | contradiction) (fun hb17 => ?_)
  exact gq_throw C hadm hex hlt tw_NoSuchElementException w_593 w_594 w_18 (by decide) (by decide) (by decide) (by decide) (by decide) (Nat.le_of_ble_eq_true rfl) d_H_checkOpenBasket_20 d_H_checkOpenBasket_23 d_H_checkOpenBasket_24 d_H_checkOpenBasket_27

theorem d_H_article_0 : decode b_H_article 0 = .ok (.iload_n 1, 1) := by decide +kernel
theorem d_H_article_1 : decode b_H_article 1 = .ok (.invokestatic 52, 3) := by decide +kernel
theorem d_H_article_4 : decode b_H_article 4 = .ok (.ifCond .eq 10, 3) := by decide +kernel
theorem d_H_article_7 : decode b_H_article 7 = .ok (.iload_n 2, 1) := by decide +kernel
theorem d_H_article_8 : decode b_H_article 8 = .ok (.invokestatic 56, 3) := by decide +kernel
theorem d_H_article_11 : decode b_H_article 11 = .ok (.ifCond .ne 11, 3) := by decide +kernel
theorem d_H_article_14 : decode b_H_article 14 = .ok (.new 59, 3) := by decide +kernel
theorem d_H_article_17 : decode b_H_article 17 = .ok (.dup, 1) := by decide +kernel
theorem d_H_article_18 : decode b_H_article 18 = .ok (.invokespecial 61, 3) := by decide +kernel
theorem d_H_article_21 : decode b_H_article 21 = .ok (.athrow, 1) := by decide +kernel
theorem d_H_article_22 : decode b_H_article 22 = .ok (.aload_n 0, 1) := by decide +kernel
theorem d_H_article_23 : decode b_H_article 23 = .ok (.getfield 10, 3) := by decide +kernel
theorem d_H_article_26 : decode b_H_article 26 = .ok (.getfield 62, 3) := by decide +kernel
theorem d_H_article_29 : decode b_H_article 29 = .ok (.iload_n 1, 1) := by decide +kernel
theorem d_H_article_30 : decode b_H_article 30 = .ok (.iload_n 2, 1) := by decide +kernel
theorem d_H_article_31 : decode b_H_article 31 = .ok (.iastore, 1) := by decide +kernel
theorem d_H_article_32 : decode b_H_article 32 = .ok (.return_, 1) := by decide +kernel

theorem d_H_bundle_0 : decode b_H_bundle 0 = .ok (.iload_n 1, 1) := by decide +kernel
theorem d_H_bundle_1 : decode b_H_bundle 1 = .ok (.invokestatic 52, 3) := by decide +kernel
theorem d_H_bundle_4 : decode b_H_bundle 4 = .ok (.ifCond .eq 25, 3) := by decide +kernel
theorem d_H_bundle_7 : decode b_H_bundle 7 = .ok (.iload_n 2, 1) := by decide +kernel
theorem d_H_bundle_8 : decode b_H_bundle 8 = .ok (.invokestatic 66, 3) := by decide +kernel
theorem d_H_bundle_11 : decode b_H_bundle 11 = .ok (.ifCond .eq 18, 3) := by decide +kernel
theorem d_H_bundle_14 : decode b_H_bundle 14 = .ok (.iload_n 3, 1) := by decide +kernel
theorem d_H_bundle_15 : decode b_H_bundle 15 = .ok (.invokestatic 69, 3) := by decide +kernel
theorem d_H_bundle_18 : decode b_H_bundle 18 = .ok (.ifCond .eq 11, 3) := by decide +kernel
theorem d_H_bundle_21 : decode b_H_bundle 21 = .ok (.iload 4, 2) := by decide +kernel
theorem d_H_bundle_23 : decode b_H_bundle 23 = .ok (.invokestatic 56, 3) := by decide +kernel
theorem d_H_bundle_26 : decode b_H_bundle 26 = .ok (.ifCond .ne 11, 3) := by decide +kernel
theorem d_H_bundle_29 : decode b_H_bundle 29 = .ok (.new 59, 3) := by decide +kernel
theorem d_H_bundle_32 : decode b_H_bundle 32 = .ok (.dup, 1) := by decide +kernel
theorem d_H_bundle_33 : decode b_H_bundle 33 = .ok (.invokespecial 61, 3) := by decide +kernel
theorem d_H_bundle_36 : decode b_H_bundle 36 = .ok (.athrow, 1) := by decide +kernel
theorem d_H_bundle_37 : decode b_H_bundle 37 = .ok (.aload_n 0, 1) := by decide +kernel
theorem d_H_bundle_38 : decode b_H_bundle 38 = .ok (.getfield 10, 3) := by decide +kernel
theorem d_H_bundle_41 : decode b_H_bundle 41 = .ok (.getfield 72, 3) := by decide +kernel
theorem d_H_bundle_44 : decode b_H_bundle 44 = .ok (.iload_n 1, 1) := by decide +kernel
theorem d_H_bundle_45 : decode b_H_bundle 45 = .ok (.iconst 2, 1) := by decide +kernel
theorem d_H_bundle_46 : decode b_H_bundle 46 = .ok (.imul, 1) := by decide +kernel
theorem d_H_bundle_47 : decode b_H_bundle 47 = .ok (.iload_n 2, 1) := by decide +kernel
theorem d_H_bundle_48 : decode b_H_bundle 48 = .ok (.iadd, 1) := by decide +kernel
theorem d_H_bundle_49 : decode b_H_bundle 49 = .ok (.iload_n 3, 1) := by decide +kernel
theorem d_H_bundle_50 : decode b_H_bundle 50 = .ok (.iastore, 1) := by decide +kernel
theorem d_H_bundle_51 : decode b_H_bundle 51 = .ok (.aload_n 0, 1) := by decide +kernel
theorem d_H_bundle_52 : decode b_H_bundle 52 = .ok (.getfield 10, 3) := by decide +kernel
theorem d_H_bundle_55 : decode b_H_bundle 55 = .ok (.getfield 75, 3) := by decide +kernel
theorem d_H_bundle_58 : decode b_H_bundle 58 = .ok (.iload_n 1, 1) := by decide +kernel
theorem d_H_bundle_59 : decode b_H_bundle 59 = .ok (.iconst 2, 1) := by decide +kernel
theorem d_H_bundle_60 : decode b_H_bundle 60 = .ok (.imul, 1) := by decide +kernel
theorem d_H_bundle_61 : decode b_H_bundle 61 = .ok (.iload_n 2, 1) := by decide +kernel
theorem d_H_bundle_62 : decode b_H_bundle 62 = .ok (.iadd, 1) := by decide +kernel
theorem d_H_bundle_63 : decode b_H_bundle 63 = .ok (.iload 4, 2) := by decide +kernel
theorem d_H_bundle_65 : decode b_H_bundle 65 = .ok (.iastore, 1) := by decide +kernel
theorem d_H_bundle_66 : decode b_H_bundle 66 = .ok (.return_, 1) := by decide +kernel

theorem d_H_publish_0 : decode b_H_publish 0 = .ok (.aload_n 0, 1) := by decide +kernel
theorem d_H_publish_1 : decode b_H_publish 1 = .ok (.getfield 78, 3) := by decide +kernel
theorem d_H_publish_4 : decode b_H_publish 4 = .ok (.bipush 9, 2) := by decide +kernel
theorem d_H_publish_6 : decode b_H_publish 6 = .ok (.if_icmp .lt 11, 3) := by decide +kernel
theorem d_H_publish_9 : decode b_H_publish 9 = .ok (.new 82, 3) := by decide +kernel
theorem d_H_publish_12 : decode b_H_publish 12 = .ok (.dup, 1) := by decide +kernel
theorem d_H_publish_13 : decode b_H_publish 13 = .ok (.invokespecial 84, 3) := by decide +kernel
theorem d_H_publish_16 : decode b_H_publish 16 = .ok (.athrow, 1) := by decide +kernel
theorem d_H_publish_17 : decode b_H_publish 17 = .ok (.aload_n 0, 1) := by decide +kernel
theorem d_H_publish_18 : decode b_H_publish 18 = .ok (.getfield 16, 3) := by decide +kernel
theorem d_H_publish_21 : decode b_H_publish 21 = .ok (.aload_n 0, 1) := by decide +kernel
theorem d_H_publish_22 : decode b_H_publish 22 = .ok (.getfield 78, 3) := by decide +kernel
theorem d_H_publish_25 : decode b_H_publish 25 = .ok (.aaload, 1) := by decide +kernel
theorem d_H_publish_26 : decode b_H_publish 26 = .ok (.aload_n 0, 1) := by decide +kernel
theorem d_H_publish_27 : decode b_H_publish 27 = .ok (.getfield 10, 3) := by decide +kernel
theorem d_H_publish_30 : decode b_H_publish 30 = .ok (.invokevirtual 85, 3) := by decide +kernel
theorem d_H_publish_33 : decode b_H_publish 33 = .ok (.aload_n 0, 1) := by decide +kernel
theorem d_H_publish_34 : decode b_H_publish 34 = .ok (.dup, 1) := by decide +kernel
theorem d_H_publish_35 : decode b_H_publish 35 = .ok (.getfield 78, 3) := by decide +kernel
theorem d_H_publish_38 : decode b_H_publish 38 = .ok (.iconst 1, 1) := by decide +kernel
theorem d_H_publish_39 : decode b_H_publish 39 = .ok (.iadd, 1) := by decide +kernel
theorem d_H_publish_40 : decode b_H_publish 40 = .ok (.putfield 78, 3) := by decide +kernel
theorem d_H_publish_43 : decode b_H_publish 43 = .ok (.iconst 0, 1) := by decide +kernel
theorem d_H_publish_44 : decode b_H_publish 44 = .ok (.istore_n 1, 1) := by decide +kernel
theorem d_H_publish_45 : decode b_H_publish 45 = .ok (.iload_n 1, 1) := by decide +kernel
theorem d_H_publish_46 : decode b_H_publish 46 = .ok (.iconst 4, 1) := by decide +kernel
theorem d_H_publish_47 : decode b_H_publish 47 = .ok (.if_icmp .ge 23, 3) := by decide +kernel
theorem d_H_publish_50 : decode b_H_publish 50 = .ok (.aload_n 0, 1) := by decide +kernel
theorem d_H_publish_51 : decode b_H_publish 51 = .ok (.getfield 37, 3) := by decide +kernel
theorem d_H_publish_54 : decode b_H_publish 54 = .ok (.iconst 0, 1) := by decide +kernel
theorem d_H_publish_55 : decode b_H_publish 55 = .ok (.iload_n 1, 1) := by decide +kernel
theorem d_H_publish_56 : decode b_H_publish 56 = .ok (.aload_n 0, 1) := by decide +kernel
theorem d_H_publish_57 : decode b_H_publish 57 = .ok (.getfield 78, 3) := by decide +kernel
theorem d_H_publish_60 : decode b_H_publish 60 = .ok (.iconst 0, 1) := by decide +kernel
theorem d_H_publish_61 : decode b_H_publish 61 = .ok (.invokevirtual 89, 3) := by decide +kernel
theorem d_H_publish_64 : decode b_H_publish 64 = .ok (.iinc 1 1, 3) := by decide +kernel
theorem d_H_publish_67 : decode b_H_publish 67 = .ok (.goto (-22), 3) := by decide +kernel
theorem d_H_publish_70 : decode b_H_publish 70 = .ok (.aload_n 0, 1) := by decide +kernel
theorem d_H_publish_71 : decode b_H_publish 71 = .ok (.getfield 78, 3) := by decide +kernel
theorem d_H_publish_74 : decode b_H_publish 74 = .ok (.ireturn, 1) := by decide +kernel

theorem d_H_price_0 : decode b_H_price 0 = .ok (.aload_n 0, 1) := by decide +kernel
theorem d_H_price_1 : decode b_H_price 1 = .ok (.iload_n 1, 1) := by decide +kernel
theorem d_H_price_2 : decode b_H_price 2 = .ok (.invokevirtual 93, 3) := by decide +kernel
theorem d_H_price_5 : decode b_H_price 5 = .ok (.ifCond .eq 10, 3) := by decide +kernel
theorem d_H_price_8 : decode b_H_price 8 = .ok (.iload_n 2, 1) := by decide +kernel
theorem d_H_price_9 : decode b_H_price 9 = .ok (.invokestatic 52, 3) := by decide +kernel
theorem d_H_price_12 : decode b_H_price 12 = .ok (.ifCond .ne 11, 3) := by decide +kernel
theorem d_H_price_15 : decode b_H_price 15 = .ok (.new 59, 3) := by decide +kernel
theorem d_H_price_18 : decode b_H_price 18 = .ok (.dup, 1) := by decide +kernel
theorem d_H_price_19 : decode b_H_price 19 = .ok (.invokespecial 61, 3) := by decide +kernel
theorem d_H_price_22 : decode b_H_price 22 = .ok (.athrow, 1) := by decide +kernel
theorem d_H_price_23 : decode b_H_price 23 = .ok (.aload_n 0, 1) := by decide +kernel
theorem d_H_price_24 : decode b_H_price 24 = .ok (.getfield 16, 3) := by decide +kernel
theorem d_H_price_27 : decode b_H_price 27 = .ok (.iload_n 1, 1) := by decide +kernel
theorem d_H_price_28 : decode b_H_price 28 = .ok (.iconst 1, 1) := by decide +kernel
theorem d_H_price_29 : decode b_H_price 29 = .ok (.isub, 1) := by decide +kernel
theorem d_H_price_30 : decode b_H_price 30 = .ok (.aaload, 1) := by decide +kernel
theorem d_H_price_31 : decode b_H_price 31 = .ok (.getfield 62, 3) := by decide +kernel
theorem d_H_price_34 : decode b_H_price 34 = .ok (.iload_n 2, 1) := by decide +kernel
theorem d_H_price_35 : decode b_H_price 35 = .ok (.iaload, 1) := by decide +kernel
theorem d_H_price_36 : decode b_H_price 36 = .ok (.ireturn, 1) := by decide +kernel

theorem d_H_activate_0 : decode b_H_activate 0 = .ok (.aload_n 0, 1) := by decide +kernel
theorem d_H_activate_1 : decode b_H_activate 1 = .ok (.iload_n 1, 1) := by decide +kernel
theorem d_H_activate_2 : decode b_H_activate 2 = .ok (.invokevirtual 93, 3) := by decide +kernel
theorem d_H_activate_5 : decode b_H_activate 5 = .ok (.ifCond .ne 11, 3) := by decide +kernel
theorem d_H_activate_8 : decode b_H_activate 8 = .ok (.new 59, 3) := by decide +kernel
theorem d_H_activate_11 : decode b_H_activate 11 = .ok (.dup, 1) := by decide +kernel
theorem d_H_activate_12 : decode b_H_activate 12 = .ok (.invokespecial 61, 3) := by decide +kernel
theorem d_H_activate_15 : decode b_H_activate 15 = .ok (.athrow, 1) := by decide +kernel
theorem d_H_activate_16 : decode b_H_activate 16 = .ok (.iload_n 1, 1) := by decide +kernel
theorem d_H_activate_17 : decode b_H_activate 17 = .ok (.aload_n 0, 1) := by decide +kernel
theorem d_H_activate_18 : decode b_H_activate 18 = .ok (.getfield 30, 3) := by decide +kernel
theorem d_H_activate_21 : decode b_H_activate 21 = .ok (.getfield 96, 3) := by decide +kernel
theorem d_H_activate_24 : decode b_H_activate 24 = .ok (.if_icmp .le 14, 3) := by decide +kernel
theorem d_H_activate_27 : decode b_H_activate 27 = .ok (.iload_n 1, 1) := by decide +kernel
theorem d_H_activate_28 : decode b_H_activate 28 = .ok (.aload_n 0, 1) := by decide +kernel
theorem d_H_activate_29 : decode b_H_activate 29 = .ok (.getfield 30, 3) := by decide +kernel
theorem d_H_activate_32 : decode b_H_activate 32 = .ok (.getfield 99, 3) := by decide +kernel
theorem d_H_activate_35 : decode b_H_activate 35 = .ok (.if_icmp .gt 11, 3) := by decide +kernel
theorem d_H_activate_38 : decode b_H_activate 38 = .ok (.new 82, 3) := by decide +kernel
theorem d_H_activate_41 : decode b_H_activate 41 = .ok (.dup, 1) := by decide +kernel
theorem d_H_activate_42 : decode b_H_activate 42 = .ok (.invokespecial 84, 3) := by decide +kernel
theorem d_H_activate_45 : decode b_H_activate 45 = .ok (.athrow, 1) := by decide +kernel
theorem d_H_activate_46 : decode b_H_activate 46 = .ok (.aload_n 0, 1) := by decide +kernel
theorem d_H_activate_47 : decode b_H_activate 47 = .ok (.getfield 30, 3) := by decide +kernel
theorem d_H_activate_50 : decode b_H_activate 50 = .ok (.iload_n 1, 1) := by decide +kernel
theorem d_H_activate_51 : decode b_H_activate 51 = .ok (.putfield 99, 3) := by decide +kernel
theorem d_H_activate_54 : decode b_H_activate 54 = .ok (.aload_n 0, 1) := by decide +kernel
theorem d_H_activate_55 : decode b_H_activate 55 = .ok (.getfield 30, 3) := by decide +kernel
theorem d_H_activate_58 : decode b_H_activate 58 = .ok (.invokevirtual 102, 3) := by decide +kernel
theorem d_H_activate_61 : decode b_H_activate 61 = .ok (.return_, 1) := by decide +kernel

theorem d_H_active_0 : decode b_H_active 0 = .ok (.aload_n 0, 1) := by decide +kernel
theorem d_H_active_1 : decode b_H_active 1 = .ok (.getfield 30, 3) := by decide +kernel
theorem d_H_active_4 : decode b_H_active 4 = .ok (.getfield 96, 3) := by decide +kernel
theorem d_H_active_7 : decode b_H_active 7 = .ok (.ireturn, 1) := by decide +kernel

theorem d_H_tick_0 : decode b_H_tick 0 = .ok (.iload_n 1, 1) := by decide +kernel
theorem d_H_tick_1 : decode b_H_tick 1 = .ok (.iconst 1, 1) := by decide +kernel
theorem d_H_tick_2 : decode b_H_tick 2 = .ok (.if_icmp .lt 10, 3) := by decide +kernel
theorem d_H_tick_5 : decode b_H_tick 5 = .ok (.iload_n 1, 1) := by decide +kernel
theorem d_H_tick_6 : decode b_H_tick 6 = .ok (.sipush 500, 3) := by decide +kernel
theorem d_H_tick_9 : decode b_H_tick 9 = .ok (.if_icmp .le 11, 3) := by decide +kernel
theorem d_H_tick_12 : decode b_H_tick 12 = .ok (.new 59, 3) := by decide +kernel
theorem d_H_tick_15 : decode b_H_tick 15 = .ok (.dup, 1) := by decide +kernel
theorem d_H_tick_16 : decode b_H_tick 16 = .ok (.invokespecial 61, 3) := by decide +kernel
theorem d_H_tick_19 : decode b_H_tick 19 = .ok (.athrow, 1) := by decide +kernel
theorem d_H_tick_20 : decode b_H_tick 20 = .ok (.iconst 0, 1) := by decide +kernel
theorem d_H_tick_21 : decode b_H_tick 21 = .ok (.istore_n 2, 1) := by decide +kernel
theorem d_H_tick_22 : decode b_H_tick 22 = .ok (.iload_n 2, 1) := by decide +kernel
theorem d_H_tick_23 : decode b_H_tick 23 = .ok (.iconst 4, 1) := by decide +kernel
theorem d_H_tick_24 : decode b_H_tick 24 = .ok (.if_icmp .ge 22, 3) := by decide +kernel
theorem d_H_tick_27 : decode b_H_tick 27 = .ok (.aload_n 0, 1) := by decide +kernel
theorem d_H_tick_28 : decode b_H_tick 28 = .ok (.getfield 22, 3) := by decide +kernel
theorem d_H_tick_31 : decode b_H_tick 31 = .ok (.iload_n 2, 1) := by decide +kernel
theorem d_H_tick_32 : decode b_H_tick 32 = .ok (.aaload, 1) := by decide +kernel
theorem d_H_tick_33 : decode b_H_tick 33 = .ok (.getfield 105, 3) := by decide +kernel
theorem d_H_tick_36 : decode b_H_tick 36 = .ok (.iload_n 1, 1) := by decide +kernel
theorem d_H_tick_37 : decode b_H_tick 37 = .ok (.invokevirtual 109, 3) := by decide +kernel
theorem d_H_tick_40 : decode b_H_tick 40 = .ok (.iinc 2 1, 3) := by decide +kernel
theorem d_H_tick_43 : decode b_H_tick 43 = .ok (.goto (-21), 3) := by decide +kernel
theorem d_H_tick_46 : decode b_H_tick 46 = .ok (.aload_n 0, 1) := by decide +kernel
theorem d_H_tick_47 : decode b_H_tick 47 = .ok (.getfield 30, 3) := by decide +kernel
theorem d_H_tick_50 : decode b_H_tick 50 = .ok (.getfield 115, 3) := by decide +kernel
theorem d_H_tick_53 : decode b_H_tick 53 = .ok (.iload_n 1, 1) := by decide +kernel
theorem d_H_tick_54 : decode b_H_tick 54 = .ok (.invokevirtual 109, 3) := by decide +kernel
theorem d_H_tick_57 : decode b_H_tick 57 = .ok (.aload_n 0, 1) := by decide +kernel
theorem d_H_tick_58 : decode b_H_tick 58 = .ok (.getfield 30, 3) := by decide +kernel
theorem d_H_tick_61 : decode b_H_tick 61 = .ok (.invokevirtual 102, 3) := by decide +kernel
theorem d_H_tick_64 : decode b_H_tick 64 = .ok (.aload_n 0, 1) := by decide +kernel
theorem d_H_tick_65 : decode b_H_tick 65 = .ok (.getfield 30, 3) := by decide +kernel
theorem d_H_tick_68 : decode b_H_tick 68 = .ok (.getfield 115, 3) := by decide +kernel
theorem d_H_tick_71 : decode b_H_tick 71 = .ok (.invokevirtual 116, 3) := by decide +kernel
theorem d_H_tick_74 : decode b_H_tick 74 = .ok (.ireturn, 1) := by decide +kernel

theorem d_H_rate_0 : decode b_H_rate 0 = .ok (.iload_n 1, 1) := by decide +kernel
theorem d_H_rate_1 : decode b_H_rate 1 = .ok (.invokestatic 120, 3) := by decide +kernel
theorem d_H_rate_4 : decode b_H_rate 4 = .ok (.ifCond .eq 15, 3) := by decide +kernel
theorem d_H_rate_7 : decode b_H_rate 7 = .ok (.iload_n 2, 1) := by decide +kernel
theorem d_H_rate_8 : decode b_H_rate 8 = .ok (.bipush 99, 2) := by decide +kernel
theorem d_H_rate_10 : decode b_H_rate 10 = .ok (.if_icmp .lt 9, 3) := by decide +kernel
theorem d_H_rate_13 : decode b_H_rate 13 = .ok (.iload_n 2, 1) := by decide +kernel
theorem d_H_rate_14 : decode b_H_rate 14 = .ok (.bipush 101, 2) := by decide +kernel
theorem d_H_rate_16 : decode b_H_rate 16 = .ok (.if_icmp .le 11, 3) := by decide +kernel
theorem d_H_rate_19 : decode b_H_rate 19 = .ok (.new 59, 3) := by decide +kernel
theorem d_H_rate_22 : decode b_H_rate 22 = .ok (.dup, 1) := by decide +kernel
theorem d_H_rate_23 : decode b_H_rate 23 = .ok (.invokespecial 61, 3) := by decide +kernel
theorem d_H_rate_26 : decode b_H_rate 26 = .ok (.athrow, 1) := by decide +kernel
theorem d_H_rate_27 : decode b_H_rate 27 = .ok (.iload_n 1, 1) := by decide +kernel
theorem d_H_rate_28 : decode b_H_rate 28 = .ok (.iconst 4, 1) := by decide +kernel
theorem d_H_rate_29 : decode b_H_rate 29 = .ok (.if_icmp .ne 13, 3) := by decide +kernel
theorem d_H_rate_32 : decode b_H_rate 32 = .ok (.aload_n 0, 1) := by decide +kernel
theorem d_H_rate_33 : decode b_H_rate 33 = .ok (.getfield 30, 3) := by decide +kernel
theorem d_H_rate_36 : decode b_H_rate 36 = .ok (.getfield 115, 3) := by decide +kernel
theorem d_H_rate_39 : decode b_H_rate 39 = .ok (.goto 12, 3) := by decide +kernel
theorem d_H_rate_42 : decode b_H_rate 42 = .ok (.aload_n 0, 1) := by decide +kernel
theorem d_H_rate_43 : decode b_H_rate 43 = .ok (.getfield 22, 3) := by decide +kernel
theorem d_H_rate_46 : decode b_H_rate 46 = .ok (.iload_n 1, 1) := by decide +kernel
theorem d_H_rate_47 : decode b_H_rate 47 = .ok (.aaload, 1) := by decide +kernel
theorem d_H_rate_48 : decode b_H_rate 48 = .ok (.getfield 105, 3) := by decide +kernel
theorem d_H_rate_51 : decode b_H_rate 51 = .ok (.astore_n 3, 1) := by decide +kernel
theorem d_H_rate_52 : decode b_H_rate 52 = .ok (.aload_n 3, 1) := by decide +kernel
theorem d_H_rate_53 : decode b_H_rate 53 = .ok (.iload_n 2, 1) := by decide +kernel
theorem d_H_rate_54 : decode b_H_rate 54 = .ok (.putfield 123, 3) := by decide +kernel
theorem d_H_rate_57 : decode b_H_rate 57 = .ok (.return_, 1) := by decide +kernel

set_option maxHeartbeats 4000000 in
set_option maxRecDepth 100000 in
theorem c_H_article (l : Launch) (Z : qZ) (hZ : qok (pX Z)) (V : qV) (Y : qY) (n : Nat) (hn : n < 8) (w : Int32) (h1 : f_isArticle (nI n) = 1) (h2 : f_isAmount w = 1) : CT l y_H_article { frames := 6, cells := 0, slots := 0, locals := 96 } (pX Z) (qA (pX Z)) [.ref (al Z 0 0), .int (nI n), .int w] V Y (.inl none) (qv V 2 0 n w) Y := by
  refine CT.of (cc := b_H_article) (maxL := 3) (ret := none) hZ (by decide) w_247 (Nat.le_of_ble_eq_true rfl) ?_
  intro p e s m below meth c C hr hex hlt
  refine gq_iload_n C d_H_article_0 rfl ?_
  refine gq_callS C (st := []) (fun _ h => h.elim) (c_H_isArticle l Z hZ _ _ (nI n)) w_248 w_249 w_250 w_1 ⟨by decide, by decide, (by decide +kernel : (parseMethodDescriptor y_H_isArticle.desc).map (fun d => d.parameters.length) = some 1)⟩ ⟨by decide, by decide⟩ ⟨by decide, by decide⟩ rfl (Nat.le_of_ble_eq_true rfl) d_H_article_1 ?_
  refine gq_if_eq C (tgt := 14) d_H_article_4 rfl (fun hb => by first | contradiction | simp_all) (fun hb4 => ?_)
  refine gq_iload_n C d_H_article_7 rfl ?_
  refine gq_callS C (st := []) (fun _ h => h.elim) (c_H_isAmount l Z hZ _ _ w) w_251 w_252 w_253 w_1 ⟨by decide, by decide, (by decide +kernel : (parseMethodDescriptor y_H_isAmount.desc).map (fun d => d.parameters.length) = some 1)⟩ ⟨by decide, by decide⟩ ⟨by decide, by decide⟩ rfl (Nat.le_of_ble_eq_true rfl) d_H_article_8 ?_
  refine gq_if_ne C (tgt := 22) d_H_article_11 rfl (fun hb11 => ?_) (fun hb => by first | contradiction | simp_all)
  refine gq_aload_n C d_H_article_22 rfl ?_
  refine gq_get C (g := 0) (j := 0) (ci := 7) (k := 0) (v := .ref (al Z 1 0)) (qm (by decide) (by decide)) rfl rfl in_H (by decide) w_203 rfl d_H_article_23 ?_
  refine gq_get C (g := 1) (j := 0) (ci := 5) (k := 0) (v := .ref (al Z 2 0)) (qm (by decide) (by decide)) rfl rfl in_L (by decide) w_34 rfl d_H_article_26 ?_
  refine gq_iload_n C d_H_article_29 rfl ?_
  refine gq_iload_n C d_H_article_30 rfl ?_
  refine gq_iast C (fun _ h => h) (g := 2) (j := 0) (a := n) (t0 := 0) (qm (by decide) (by decide)) (fun _ => rfl) rfl rfl hn (by decide) d_H_article_31 ?_
  exact gq_vret C hr (by decide) (by decide) d_H_article_32

set_option maxHeartbeats 4000000 in
set_option maxRecDepth 100000 in
theorem c_H_article_x (l : Launch) (hadm : ∀ e : Env, l.admits e → e.platform.stackTraces = false) (Z : qZ) (hZ : qok (pX Z)) (V : qV) (Y : qY) (a w : Int32) (h : f_isArticle a = 0 ∨ f_isAmount w = 0) : CT l y_H_article { frames := 6, cells := 1, slots := 6, locals := 96 } (pX Z) qN [.ref (al Z 0 0), .int a, .int w] V Y (.inr "java/lang/IllegalArgumentException") V Y := by
  refine CT.of (cc := b_H_article) (maxL := 3) (ret := none) hZ (by decide) w_247 (Nat.le_of_ble_eq_true rfl) ?_
  intro p e s m below meth c C hr hex hlt
  refine gq_iload_n C d_H_article_0 rfl ?_
  refine gq_callS C (st := []) (fun _ h => h) (c_H_isArticle l Z hZ _ _ a) w_248 w_249 w_250 w_1 ⟨by decide, by decide, (by decide +kernel : (parseMethodDescriptor y_H_isArticle.desc).map (fun d => d.parameters.length) = some 1)⟩ ⟨by decide, by decide⟩ ⟨by decide, by decide⟩ rfl (Nat.le_of_ble_eq_true rfl) d_H_article_1 ?_
  refine gq_if_eq C (tgt := 14) d_H_article_4 rfl (fun hb4 => ?_) (fun hb4 => ?_)
  · skip
    exact gq_throw C hadm hex hlt tw_IllegalArgumentException w_255 w_256 w_13 (by decide) (by decide) (by decide) (by decide) (by decide) (Nat.le_of_ble_eq_true rfl) d_H_article_14 d_H_article_17 d_H_article_18 d_H_article_21
  · skip
    refine gq_iload_n C d_H_article_7 rfl ?_
    refine gq_callS C (st := []) (fun _ h => h) (c_H_isAmount l Z hZ _ _ w) w_251 w_252 w_253 w_1 ⟨by decide, by decide, (by decide +kernel : (parseMethodDescriptor y_H_isAmount.desc).map (fun d => d.parameters.length) = some 1)⟩ ⟨by decide, by decide⟩ ⟨by decide, by decide⟩ rfl (Nat.le_of_ble_eq_true rfl) d_H_article_8 ?_
    refine gq_if_ne C (tgt := 22) d_H_article_11 rfl (fun hb => by first | contradiction | (rcases h with h | h <;> contradiction)) (fun hb11 => ?_)
    exact gq_throw C hadm hex hlt tw_IllegalArgumentException w_255 w_256 w_13 (by decide) (by decide) (by decide) (by decide) (by decide) (Nat.le_of_ble_eq_true rfl) d_H_article_14 d_H_article_17 d_H_article_18 d_H_article_21

set_option maxHeartbeats 4000000 in
set_option maxRecDepth 100000 in
theorem c_H_bundle (l : Launch) (Z : qZ) (hZ : qok (pX Z)) (V : qV) (Y : qY) (n u : Nat) (hn : n < 8) (hu : u < 2) (z w : Int32) (h1 : f_isArticle (nI n) = 1) (h2 : f_isSlot (nI u) = 1) (h3 : f_isBundleSize z = 1) (h4 : f_isAmount w = 1) : CT l y_H_bundle { frames := 6, cells := 0, slots := 0, locals := 96 } (pX Z) (qA (pX Z)) [.ref (al Z 0 0), .int (nI n), .int (nI u), .int z, .int w] V Y (.inl none) (qv (qv V 3 0 (n * 2 + u) z) 4 0 (n * 2 + u) w) Y := by
  refine CT.of (cc := b_H_bundle) (maxL := 5) (ret := none) hZ (by decide) w_325 (Nat.le_of_ble_eq_true rfl) ?_
  intro p e s m below meth c C hr hex hlt
  refine gq_iload_n C d_H_bundle_0 rfl ?_
  refine gq_callS C (st := []) (fun _ h => h.elim) (c_H_isArticle l Z hZ _ _ (nI n)) w_248 w_249 w_250 w_1 ⟨by decide, by decide, (by decide +kernel : (parseMethodDescriptor y_H_isArticle.desc).map (fun d => d.parameters.length) = some 1)⟩ ⟨by decide, by decide⟩ ⟨by decide, by decide⟩ rfl (Nat.le_of_ble_eq_true rfl) d_H_bundle_1 ?_
  refine gq_if_eq C (tgt := 29) d_H_bundle_4 rfl (fun hb => by first | contradiction | simp_all) (fun hb4 => ?_)
  refine gq_iload_n C d_H_bundle_7 rfl ?_
  refine gq_callS C (st := []) (fun _ h => h.elim) (c_H_isSlot l Z hZ _ _ (nI u)) w_326 w_327 w_328 w_1 ⟨by decide, by decide, (by decide +kernel : (parseMethodDescriptor y_H_isSlot.desc).map (fun d => d.parameters.length) = some 1)⟩ ⟨by decide, by decide⟩ ⟨by decide, by decide⟩ rfl (Nat.le_of_ble_eq_true rfl) d_H_bundle_8 ?_
  refine gq_if_eq C (tgt := 29) d_H_bundle_11 rfl (fun hb => by first | contradiction | simp_all) (fun hb11 => ?_)
  refine gq_iload_n C d_H_bundle_14 rfl ?_
  refine gq_callS C (st := []) (fun _ h => h.elim) (c_H_isBundleSize l Z hZ _ _ z) w_329 w_330 w_331 w_1 ⟨by decide, by decide, (by decide +kernel : (parseMethodDescriptor y_H_isBundleSize.desc).map (fun d => d.parameters.length) = some 1)⟩ ⟨by decide, by decide⟩ ⟨by decide, by decide⟩ rfl (Nat.le_of_ble_eq_true rfl) d_H_bundle_15 ?_
  refine gq_if_eq C (tgt := 29) d_H_bundle_18 rfl (fun hb => by first | contradiction | simp_all) (fun hb18 => ?_)
  refine gq_iload C d_H_bundle_21 rfl ?_
  refine gq_callS C (st := []) (fun _ h => h.elim) (c_H_isAmount l Z hZ _ _ w) w_251 w_252 w_253 w_1 ⟨by decide, by decide, (by decide +kernel : (parseMethodDescriptor y_H_isAmount.desc).map (fun d => d.parameters.length) = some 1)⟩ ⟨by decide, by decide⟩ ⟨by decide, by decide⟩ rfl (Nat.le_of_ble_eq_true rfl) d_H_bundle_23 ?_
  refine gq_if_ne C (tgt := 37) d_H_bundle_26 rfl (fun hb26 => ?_) (fun hb => by first | contradiction | simp_all)
  refine gq_aload_n C d_H_bundle_37 rfl ?_
  refine gq_get C (g := 0) (j := 0) (ci := 7) (k := 0) (v := .ref (al Z 1 0)) (qm (by decide) (by decide)) rfl rfl in_H (by decide) w_203 rfl d_H_bundle_38 ?_
  refine gq_get C (g := 1) (j := 0) (ci := 5) (k := 1) (v := .ref (al Z 3 0)) (qm (by decide) (by decide)) rfl rfl in_L (by decide) w_36 rfl d_H_bundle_41 ?_
  refine gq_iload_n C d_H_bundle_44 rfl ?_
  refine gq_iconst C (v := 2) d_H_bundle_45 (by decide) ?_
  refine gq_imul C d_H_bundle_46 ?_
  refine gq_iload_n C d_H_bundle_47 rfl ?_
  refine gq_iadd C d_H_bundle_48 ?_
  refine gq_iload_n C d_H_bundle_49 rfl ?_
  refine gq_iast C (fun _ h => h) (g := 3) (j := 0) (a := (n * 2 + u)) (t0 := 0) (qm (by decide) (by decide)) (fun _ => rfl) rfl (by rw [show (2 : Int32) = nI 2 from rfl, pk_mul, nI_add]) (by omega) (by decide) d_H_bundle_50 ?_
  refine gq_aload_n C d_H_bundle_51 rfl ?_
  refine gq_get C (g := 0) (j := 0) (ci := 7) (k := 0) (v := .ref (al Z 1 0)) (qm (by decide) (by decide)) rfl rfl in_H (by decide) w_203 rfl d_H_bundle_52 ?_
  refine gq_get C (g := 1) (j := 0) (ci := 5) (k := 2) (v := .ref (al Z 4 0)) (qm (by decide) (by decide)) rfl rfl in_L (by decide) w_38 rfl d_H_bundle_55 ?_
  refine gq_iload_n C d_H_bundle_58 rfl ?_
  refine gq_iconst C (v := 2) d_H_bundle_59 (by decide) ?_
  refine gq_imul C d_H_bundle_60 ?_
  refine gq_iload_n C d_H_bundle_61 rfl ?_
  refine gq_iadd C d_H_bundle_62 ?_
  refine gq_iload C d_H_bundle_63 rfl ?_
  refine gq_iast C (fun _ h => h) (g := 4) (j := 0) (a := (n * 2 + u)) (t0 := 0) (qm (by decide) (by decide)) (fun _ => rfl) rfl (by rw [show (2 : Int32) = nI 2 from rfl, pk_mul, nI_add]) (by omega) (by decide) d_H_bundle_65 ?_
  exact gq_vret C hr (by decide) (by decide) d_H_bundle_66

set_option maxHeartbeats 4000000 in
set_option maxRecDepth 100000 in
theorem c_H_bundle_x (l : Launch) (hadm : ∀ e : Env, l.admits e → e.platform.stackTraces = false) (Z : qZ) (hZ : qok (pX Z)) (V : qV) (Y : qY) (a u z w : Int32) (h : f_isArticle a = 0 ∨ f_isSlot u = 0 ∨ f_isBundleSize z = 0 ∨ f_isAmount w = 0) : CT l y_H_bundle { frames := 6, cells := 1, slots := 6, locals := 96 } (pX Z) qN [.ref (al Z 0 0), .int a, .int u, .int z, .int w] V Y (.inr "java/lang/IllegalArgumentException") V Y := by
  refine CT.of (cc := b_H_bundle) (maxL := 5) (ret := none) hZ (by decide) w_325 (Nat.le_of_ble_eq_true rfl) ?_
  intro p e s m below meth c C hr hex hlt
  refine gq_iload_n C d_H_bundle_0 rfl ?_
  refine gq_callS C (st := []) (fun _ h => h) (c_H_isArticle l Z hZ _ _ a) w_248 w_249 w_250 w_1 ⟨by decide, by decide, (by decide +kernel : (parseMethodDescriptor y_H_isArticle.desc).map (fun d => d.parameters.length) = some 1)⟩ ⟨by decide, by decide⟩ ⟨by decide, by decide⟩ rfl (Nat.le_of_ble_eq_true rfl) d_H_bundle_1 ?_
  refine gq_if_eq C (tgt := 29) d_H_bundle_4 rfl (fun hb4 => ?_) (fun hb4 => ?_)
  · skip
    exact gq_throw C hadm hex hlt tw_IllegalArgumentException w_255 w_256 w_13 (by decide) (by decide) (by decide) (by decide) (by decide) (Nat.le_of_ble_eq_true rfl) d_H_bundle_29 d_H_bundle_32 d_H_bundle_33 d_H_bundle_36
  · skip
    refine gq_iload_n C d_H_bundle_7 rfl ?_
    refine gq_callS C (st := []) (fun _ h => h) (c_H_isSlot l Z hZ _ _ u) w_326 w_327 w_328 w_1 ⟨by decide, by decide, (by decide +kernel : (parseMethodDescriptor y_H_isSlot.desc).map (fun d => d.parameters.length) = some 1)⟩ ⟨by decide, by decide⟩ ⟨by decide, by decide⟩ rfl (Nat.le_of_ble_eq_true rfl) d_H_bundle_8 ?_
    refine gq_if_eq C (tgt := 29) d_H_bundle_11 rfl (fun hb11 => ?_) (fun hb11 => ?_)
    · skip
      exact gq_throw C hadm hex hlt tw_IllegalArgumentException w_255 w_256 w_13 (by decide) (by decide) (by decide) (by decide) (by decide) (Nat.le_of_ble_eq_true rfl) d_H_bundle_29 d_H_bundle_32 d_H_bundle_33 d_H_bundle_36
    · skip
      refine gq_iload_n C d_H_bundle_14 rfl ?_
      refine gq_callS C (st := []) (fun _ h => h) (c_H_isBundleSize l Z hZ _ _ z) w_329 w_330 w_331 w_1 ⟨by decide, by decide, (by decide +kernel : (parseMethodDescriptor y_H_isBundleSize.desc).map (fun d => d.parameters.length) = some 1)⟩ ⟨by decide, by decide⟩ ⟨by decide, by decide⟩ rfl (Nat.le_of_ble_eq_true rfl) d_H_bundle_15 ?_
      refine gq_if_eq C (tgt := 29) d_H_bundle_18 rfl (fun hb18 => ?_) (fun hb18 => ?_)
      · skip
        exact gq_throw C hadm hex hlt tw_IllegalArgumentException w_255 w_256 w_13 (by decide) (by decide) (by decide) (by decide) (by decide) (Nat.le_of_ble_eq_true rfl) d_H_bundle_29 d_H_bundle_32 d_H_bundle_33 d_H_bundle_36
      · skip
        refine gq_iload C d_H_bundle_21 rfl ?_
        refine gq_callS C (st := []) (fun _ h => h) (c_H_isAmount l Z hZ _ _ w) w_251 w_252 w_253 w_1 ⟨by decide, by decide, (by decide +kernel : (parseMethodDescriptor y_H_isAmount.desc).map (fun d => d.parameters.length) = some 1)⟩ ⟨by decide, by decide⟩ ⟨by decide, by decide⟩ rfl (Nat.le_of_ble_eq_true rfl) d_H_bundle_23 ?_
        refine gq_if_ne C (tgt := 37) d_H_bundle_26 rfl (fun hb => by first | contradiction | (rcases h with h | h | h | h <;> contradiction)) (fun hb26 => ?_)
        exact gq_throw C hadm hex hlt tw_IllegalArgumentException w_255 w_256 w_13 (by decide) (by decide) (by decide) (by decide) (by decide) (Nat.le_of_ble_eq_true rfl) d_H_bundle_29 d_H_bundle_32 d_H_bundle_33 d_H_bundle_36

set_option maxHeartbeats 4000000 in
set_option maxRecDepth 100000 in
theorem c_H_publish (l : Launch) (Z : qZ) (hZ : qok (pX Z)) (V : qV) (Y : qY) (n : Nat) (hn : n < 9) (h2 : V 0 0 2 = nI n) (hc : ∃ m, m ≤ 40 ∧ V 12 0 4 = nI m) : CT l y_H_publish { frames := 6, cells := 0, slots := 0, locals := 96 } (pX Z) (qA (pX Z)) [.ref (al Z 0 0)] V Y (.inl (some (.int (V 0 0 2 + 1)))) (f_publish V n) Y := by
  refine CT.of (cc := b_H_publish) (maxL := 2) (ret := (some .int)) hZ (by decide) w_339 (Nat.le_of_ble_eq_true rfl) ?_
  intro p e s m below meth c C hr hex hlt
  refine gq_aload_n C d_H_publish_0 rfl ?_
  refine gq_get C (g := 0) (j := 0) (ci := 7) (k := 2) (v := .int (V 0 0 2)) (qm (by decide) (by decide)) rfl rfl in_H (by decide) w_205 rfl d_H_publish_1 ?_
  refine gq_bipush C (v := 9) d_H_publish_4 (by decide) ?_
  refine gq_icmp_lt C (tgt := 17) d_H_publish_6 rfl (fun hb6 => ?_) (fun hb => by first | contradiction | exact absurd (by rw [h2]; exact nI_lt (b := 9) hn (by decide)) hb)
  refine gq_aload_n C d_H_publish_17 rfl ?_
  refine gq_get C (g := 0) (j := 0) (ci := 7) (k := 1) (v := .ref (al Z 5 0)) (qm (by decide) (by decide)) rfl rfl in_H (by decide) w_204 rfl d_H_publish_18 ?_
  refine gq_aload_n C d_H_publish_21 rfl ?_
  refine gq_get C (g := 0) (j := 0) (ci := 7) (k := 2) (v := .int (V 0 0 2)) (qm (by decide) (by decide)) rfl rfl in_H (by decide) w_205 rfl d_H_publish_22 ?_
  refine gq_aald C (g := 5) (j := 0) (a := n) (t0 := 3) (b := al Z 1 (n + 1)) (qm (by decide) (by decide)) rfl rfl h2 hn (by decide) rfl d_H_publish_25 ?_
  refine gq_aload_n C d_H_publish_26 rfl ?_
  refine gq_get C (g := 0) (j := 0) (ci := 7) (k := 0) (v := .ref (al Z 1 0)) (qm (by decide) (by decide)) rfl rfl in_H (by decide) w_203 rfl d_H_publish_27 ?_
  refine gq_callV C (st := []) (fun _ h => h) (c_L_copyFrom l Z hZ _ _ (n + 1) (Nat.succ_lt_succ hn)) (qm (by decide) (Nat.succ_lt_succ hn)) rfl rfl w_355 w_356 w_357 w_358 w_2 ⟨by decide, by decide, (by decide +kernel : (parseMethodDescriptor y_L_copyFrom.desc).map (fun d => d.parameters.length) = some 1)⟩ ⟨by decide, by decide⟩ ⟨by decide, by decide⟩ rfl (Nat.le_of_ble_eq_true rfl) d_H_publish_30 ?_
  refine gq_aload_n C d_H_publish_33 rfl ?_
  refine gq_dup C d_H_publish_34 rfl ?_
  refine gq_get C (g := 0) (j := 0) (ci := 7) (k := 2) (v := .int (V 0 0 2)) (qm (by decide) (by decide)) rfl rfl in_H (by decide) w_205 (by simp [qv_at, f_copy_fr, f_pub1]) d_H_publish_35 ?_
  refine gq_iconst C (v := 1) d_H_publish_38 (by decide) ?_
  refine gq_iadd C d_H_publish_39 ?_
  refine gq_put C (fun _ h => h) (g := 0) (j := 0) (ci := 7) (k := 2) ft_H k_H n_H (qm (by decide) (by decide)) rfl rfl in_H (by decide) w_205 rfl (k_H 2 (by decide)) rfl rfl (Nat.le_of_ble_eq_true rfl) rfl d_H_publish_40 ?_
  refine gq_iconst C (v := 0) d_H_publish_43 (by decide) ?_
  refine gq_istore_n C (lo' := [(1, .int 0), (0, .ref (al Z 0 0))]) d_H_publish_44 rfl (by decide) rfl ?_
  refine gq_iload_n C d_H_publish_45 rfl ?_
  refine gq_iconst C (v := 4) d_H_publish_46 (by decide) ?_
  refine gq_icmp_ge C (tgt := 70) d_H_publish_47 rfl (fun hb => by first | contradiction | exact absurd hb (by decide)) (fun hb47 => ?_)
  refine gq_aload_n C d_H_publish_50 rfl ?_
  refine gq_get C (g := 0) (j := 0) (ci := 7) (k := 5) (v := .ref (al Z 12 0)) (qm (by decide) (by decide)) rfl rfl in_H (by decide) w_208 rfl d_H_publish_51 ?_
  refine gq_iconst C (v := 0) d_H_publish_54 (by decide) ?_
  refine gq_iload_n C d_H_publish_55 rfl ?_
  refine gq_aload_n C d_H_publish_56 rfl ?_
  refine gq_get C (g := 0) (j := 0) (ci := 7) (k := 2) (v := .int ((V 0 0 2) + 1)) (qm (by decide) (by decide)) rfl rfl in_H (by decide) w_205 (by simp [qv_at, f_copy_fr, f_pub1]) d_H_publish_57 ?_
  refine gq_iconst C (v := 0) d_H_publish_60 (by decide) ?_
  refine gq_callV C (st := []) (fun _ h => h) (c_R_put l Z hZ _ _ (f_cnt1 n hc) 0 0 ((V 0 0 2) + 1) 0) (qm (by decide) (by decide)) rfl rfl w_362 w_363 w_364 w_365 w_7 ⟨by decide, by decide, (by decide +kernel : (parseMethodDescriptor y_R_post.desc).map (fun d => d.parameters.length) = some 4)⟩ ⟨by decide, by decide⟩ ⟨by decide, by decide⟩ rfl (Nat.le_of_ble_eq_true rfl) d_H_publish_61 ?_
  refine gq_iinc C (k := 0) (w := 1) (lo' := [(1, .int 1), (0, .ref (al Z 0 0))]) d_H_publish_64 rfl (by decide) (by decide) rfl ?_
  refine gq_goto C (tgt := 45) d_H_publish_67 rfl ?_
  refine gq_iload_n C d_H_publish_45 rfl ?_
  refine gq_iconst C (v := 4) d_H_publish_46 (by decide) ?_
  refine gq_icmp_ge C (tgt := 70) d_H_publish_47 rfl (fun hb => by first | contradiction | exact absurd hb (by decide)) (fun hb47 => ?_)
  refine gq_aload_n C d_H_publish_50 rfl ?_
  refine gq_get C (g := 0) (j := 0) (ci := 7) (k := 5) (v := .ref (al Z 12 0)) (qm (by decide) (by decide)) rfl rfl in_H (by decide) w_208 rfl d_H_publish_51 ?_
  refine gq_iconst C (v := 0) d_H_publish_54 (by decide) ?_
  refine gq_iload_n C d_H_publish_55 rfl ?_
  refine gq_aload_n C d_H_publish_56 rfl ?_
  refine gq_get C (g := 0) (j := 0) (ci := 7) (k := 2) (v := .int ((V 0 0 2) + 1)) (qm (by decide) (by decide)) rfl rfl in_H (by decide) w_205 (by simp [qv_at, f_copy_fr, f_pub1, f_put_fr]) d_H_publish_57 ?_
  refine gq_iconst C (v := 0) d_H_publish_60 (by decide) ?_
  refine gq_callV C (st := []) (fun _ h => h) (c_R_put l Z hZ _ _ (f_put_cnt _ _ _ _ (f_cnt1 n hc)) 0 1 ((V 0 0 2) + 1) 0) (qm (by decide) (by decide)) rfl rfl w_362 w_363 w_364 w_365 w_7 ⟨by decide, by decide, (by decide +kernel : (parseMethodDescriptor y_R_post.desc).map (fun d => d.parameters.length) = some 4)⟩ ⟨by decide, by decide⟩ ⟨by decide, by decide⟩ rfl (Nat.le_of_ble_eq_true rfl) d_H_publish_61 ?_
  refine gq_iinc C (k := 0) (w := 2) (lo' := [(1, .int 2), (0, .ref (al Z 0 0))]) d_H_publish_64 rfl (by decide) (by decide) rfl ?_
  refine gq_goto C (tgt := 45) d_H_publish_67 rfl ?_
  refine gq_iload_n C d_H_publish_45 rfl ?_
  refine gq_iconst C (v := 4) d_H_publish_46 (by decide) ?_
  refine gq_icmp_ge C (tgt := 70) d_H_publish_47 rfl (fun hb => by first | contradiction | exact absurd hb (by decide)) (fun hb47 => ?_)
  refine gq_aload_n C d_H_publish_50 rfl ?_
  refine gq_get C (g := 0) (j := 0) (ci := 7) (k := 5) (v := .ref (al Z 12 0)) (qm (by decide) (by decide)) rfl rfl in_H (by decide) w_208 rfl d_H_publish_51 ?_
  refine gq_iconst C (v := 0) d_H_publish_54 (by decide) ?_
  refine gq_iload_n C d_H_publish_55 rfl ?_
  refine gq_aload_n C d_H_publish_56 rfl ?_
  refine gq_get C (g := 0) (j := 0) (ci := 7) (k := 2) (v := .int ((V 0 0 2) + 1)) (qm (by decide) (by decide)) rfl rfl in_H (by decide) w_205 (by simp [qv_at, f_copy_fr, f_pub1, f_put_fr]) d_H_publish_57 ?_
  refine gq_iconst C (v := 0) d_H_publish_60 (by decide) ?_
  refine gq_callV C (st := []) (fun _ h => h) (c_R_put l Z hZ _ _ (f_put_cnt _ _ _ _ (f_put_cnt _ _ _ _ (f_cnt1 n hc))) 0 2 ((V 0 0 2) + 1) 0) (qm (by decide) (by decide)) rfl rfl w_362 w_363 w_364 w_365 w_7 ⟨by decide, by decide, (by decide +kernel : (parseMethodDescriptor y_R_post.desc).map (fun d => d.parameters.length) = some 4)⟩ ⟨by decide, by decide⟩ ⟨by decide, by decide⟩ rfl (Nat.le_of_ble_eq_true rfl) d_H_publish_61 ?_
  refine gq_iinc C (k := 0) (w := 3) (lo' := [(1, .int 3), (0, .ref (al Z 0 0))]) d_H_publish_64 rfl (by decide) (by decide) rfl ?_
  refine gq_goto C (tgt := 45) d_H_publish_67 rfl ?_
  refine gq_iload_n C d_H_publish_45 rfl ?_
  refine gq_iconst C (v := 4) d_H_publish_46 (by decide) ?_
  refine gq_icmp_ge C (tgt := 70) d_H_publish_47 rfl (fun hb => by first | contradiction | exact absurd hb (by decide)) (fun hb47 => ?_)
  refine gq_aload_n C d_H_publish_50 rfl ?_
  refine gq_get C (g := 0) (j := 0) (ci := 7) (k := 5) (v := .ref (al Z 12 0)) (qm (by decide) (by decide)) rfl rfl in_H (by decide) w_208 rfl d_H_publish_51 ?_
  refine gq_iconst C (v := 0) d_H_publish_54 (by decide) ?_
  refine gq_iload_n C d_H_publish_55 rfl ?_
  refine gq_aload_n C d_H_publish_56 rfl ?_
  refine gq_get C (g := 0) (j := 0) (ci := 7) (k := 2) (v := .int ((V 0 0 2) + 1)) (qm (by decide) (by decide)) rfl rfl in_H (by decide) w_205 (by simp [qv_at, f_copy_fr, f_pub1, f_put_fr]) d_H_publish_57 ?_
  refine gq_iconst C (v := 0) d_H_publish_60 (by decide) ?_
  refine gq_callV C (st := []) (fun _ h => h) (c_R_put l Z hZ _ _ (f_put_cnt _ _ _ _ (f_put_cnt _ _ _ _ (f_put_cnt _ _ _ _ (f_cnt1 n hc)))) 0 3 ((V 0 0 2) + 1) 0) (qm (by decide) (by decide)) rfl rfl w_362 w_363 w_364 w_365 w_7 ⟨by decide, by decide, (by decide +kernel : (parseMethodDescriptor y_R_post.desc).map (fun d => d.parameters.length) = some 4)⟩ ⟨by decide, by decide⟩ ⟨by decide, by decide⟩ rfl (Nat.le_of_ble_eq_true rfl) d_H_publish_61 ?_
  refine gq_iinc C (k := 0) (w := 4) (lo' := [(1, .int 4), (0, .ref (al Z 0 0))]) d_H_publish_64 rfl (by decide) (by decide) rfl ?_
  refine gq_goto C (tgt := 45) d_H_publish_67 rfl ?_
  refine gq_iload_n C d_H_publish_45 rfl ?_
  refine gq_iconst C (v := 4) d_H_publish_46 (by decide) ?_
  refine gq_icmp_ge C (tgt := 70) d_H_publish_47 rfl (fun hb47 => ?_) (fun hb => by first | contradiction | exact absurd hb (by decide))
  refine gq_aload_n C d_H_publish_70 rfl ?_
  refine gq_get C (g := 0) (j := 0) (ci := 7) (k := 2) (v := .int ((V 0 0 2) + 1)) (qm (by decide) (by decide)) rfl rfl in_H (by decide) w_205 (by simp [qv_at, f_copy_fr, f_pub1, f_put_fr]) d_H_publish_71 ?_
  exact gq_iretE C hr (by simp [*]) (by rfl) rfl (by decide) (by decide) d_H_publish_74

set_option maxHeartbeats 4000000 in
set_option maxRecDepth 100000 in
theorem c_H_publish_x (l : Launch) (hadm : ∀ e : Env, l.admits e → e.platform.stackTraces = false) (Z : qZ) (hZ : qok (pX Z)) (V : qV) (Y : qY) (h : ¬ V 0 0 2 < 9) : CT l y_H_publish { frames := 6, cells := 1, slots := 6, locals := 96 } (pX Z) qN [.ref (al Z 0 0)] V Y (.inr "java/lang/IllegalStateException") V Y := by
  refine CT.of (cc := b_H_publish) (maxL := 2) (ret := (some .int)) hZ (by decide) w_339 (Nat.le_of_ble_eq_true rfl) ?_
  intro p e s m below meth c C hr hex hlt
  refine gq_aload_n C d_H_publish_0 rfl ?_
  refine gq_get C (g := 0) (j := 0) (ci := 7) (k := 2) (v := .int (V 0 0 2)) (qm (by decide) (by decide)) rfl rfl in_H (by decide) w_205 rfl d_H_publish_1 ?_
  refine gq_bipush C (v := 9) d_H_publish_4 (by decide) ?_
  refine gq_icmp_lt C (tgt := 17) d_H_publish_6 rfl (fun hb => by first | contradiction | contradiction) (fun hb6 => ?_)
  exact gq_throw C hadm hex hlt tw_IllegalStateException w_340 w_341 w_14 (by decide) (by decide) (by decide) (by decide) (by decide) (Nat.le_of_ble_eq_true rfl) d_H_publish_9 d_H_publish_12 d_H_publish_13 d_H_publish_16

set_option maxHeartbeats 4000000 in
set_option maxRecDepth 100000 in
theorem c_H_price (l : Launch) (Z : qZ) (hZ : qok (pX Z)) (V : qV) (Y : qY) (b : Nat) (hb : b < 9) (n : Nat) (hn : n < 8) (h1 : f_isBook V (nI (b + 1)) = 1) (h2 : f_isArticle (nI n) = 1) : CT l y_H_price { frames := 6, cells := 0, slots := 0, locals := 96 } (pX Z) qN [.ref (al Z 0 0), .int (nI (b + 1)), .int (nI n)] V Y (.inl (some (.int (V 2 (b + 1) n)))) V Y := by
  refine CT.of (cc := b_H_price) (maxL := 3) (ret := (some .int)) hZ (by decide) w_639 (Nat.le_of_ble_eq_true rfl) ?_
  intro p e s m below meth c C hr hex hlt
  refine gq_aload_n C d_H_price_0 rfl ?_
  refine gq_iload_n C d_H_price_1 rfl ?_
  refine gq_callV C (st := []) (fun _ h => h) (c_H_isBook l Z hZ _ _ (nI (b + 1))) (qm (by decide) (by decide)) rfl rfl w_377 w_379 ws_H_isBook w_380 w_1 ⟨by decide, by decide, (by decide +kernel : (parseMethodDescriptor y_H_isBook.desc).map (fun d => d.parameters.length) = some 1)⟩ ⟨by decide, by decide⟩ ⟨by decide, by decide⟩ rfl (Nat.le_of_ble_eq_true rfl) d_H_price_2 ?_
  refine gq_if_eq C (tgt := 15) d_H_price_5 rfl (fun hb => by first | contradiction | simp_all) (fun hb5 => ?_)
  refine gq_iload_n C d_H_price_8 rfl ?_
  refine gq_callS C (st := []) (fun _ h => h) (c_H_isArticle l Z hZ _ _ (nI n)) w_248 w_249 w_250 w_1 ⟨by decide, by decide, (by decide +kernel : (parseMethodDescriptor y_H_isArticle.desc).map (fun d => d.parameters.length) = some 1)⟩ ⟨by decide, by decide⟩ ⟨by decide, by decide⟩ rfl (Nat.le_of_ble_eq_true rfl) d_H_price_9 ?_
  refine gq_if_ne C (tgt := 23) d_H_price_12 rfl (fun hb12 => ?_) (fun hb => by first | contradiction | simp_all)
  refine gq_aload_n C d_H_price_23 rfl ?_
  refine gq_get C (g := 0) (j := 0) (ci := 7) (k := 1) (v := .ref (al Z 5 0)) (qm (by decide) (by decide)) rfl rfl in_H (by decide) w_204 rfl d_H_price_24 ?_
  refine gq_iload_n C d_H_price_27 rfl ?_
  refine gq_iconst C (v := 1) d_H_price_28 (by decide) ?_
  refine gq_isub C d_H_price_29 ?_
  refine G.eqS (st' := [.int (nI b), .ref (al Z 5 0)]) (by first | (rw [show (nI (b + 1)) - 1 = nI b from (nI_pred b)]; done) | (rw [show (nI (b + 1)) - 1 = nI b from (nI_pred b)]; rfl)) ?_
  refine gq_aald C (g := 5) (j := 0) (a := b) (t0 := 3) (b := al Z 1 (b + 1)) (qm (by decide) (by decide)) rfl rfl rfl hb (by decide) rfl d_H_price_30 ?_
  refine gq_get C (g := 1) (j := (b + 1)) (ci := 5) (k := 0) (v := .ref (al Z 2 (b + 1))) (qm (by decide) (Nat.succ_lt_succ hb)) rfl rfl in_L (by decide) w_34 rfl d_H_price_31 ?_
  refine gq_iload_n C d_H_price_34 rfl ?_
  refine gq_iald C (g := 2) (j := (b + 1)) (a := n) (t0 := 0) (qm (by decide) (Nat.succ_lt_succ hb)) rfl rfl rfl hn (by decide) d_H_price_35 ?_
  exact gq_iret C hr (by decide) (by decide) d_H_price_36

set_option maxHeartbeats 4000000 in
set_option maxRecDepth 100000 in
theorem c_H_price_x (l : Launch) (hadm : ∀ e : Env, l.admits e → e.platform.stackTraces = false) (Z : qZ) (hZ : qok (pX Z)) (V : qV) (Y : qY) (b a : Int32) (h : f_isBook V b = 0 ∨ f_isArticle a = 0) : CT l y_H_price { frames := 6, cells := 1, slots := 6, locals := 96 } (pX Z) qN [.ref (al Z 0 0), .int b, .int a] V Y (.inr "java/lang/IllegalArgumentException") V Y := by
  refine CT.of (cc := b_H_price) (maxL := 3) (ret := (some .int)) hZ (by decide) w_639 (Nat.le_of_ble_eq_true rfl) ?_
  intro p e s m below meth c C hr hex hlt
  refine gq_aload_n C d_H_price_0 rfl ?_
  refine gq_iload_n C d_H_price_1 rfl ?_
  refine gq_callV C (st := []) (fun _ h => h) (c_H_isBook l Z hZ _ _ b) (qm (by decide) (by decide)) rfl rfl w_377 w_379 ws_H_isBook w_380 w_1 ⟨by decide, by decide, (by decide +kernel : (parseMethodDescriptor y_H_isBook.desc).map (fun d => d.parameters.length) = some 1)⟩ ⟨by decide, by decide⟩ ⟨by decide, by decide⟩ rfl (Nat.le_of_ble_eq_true rfl) d_H_price_2 ?_
  refine gq_if_eq C (tgt := 15) d_H_price_5 rfl (fun hb5 => ?_) (fun hb5 => ?_)
  · skip
    exact gq_throw C hadm hex hlt tw_IllegalArgumentException w_255 w_256 w_13 (by decide) (by decide) (by decide) (by decide) (by decide) (Nat.le_of_ble_eq_true rfl) d_H_price_15 d_H_price_18 d_H_price_19 d_H_price_22
  · skip
    refine gq_iload_n C d_H_price_8 rfl ?_
    refine gq_callS C (st := []) (fun _ h => h) (c_H_isArticle l Z hZ _ _ a) w_248 w_249 w_250 w_1 ⟨by decide, by decide, (by decide +kernel : (parseMethodDescriptor y_H_isArticle.desc).map (fun d => d.parameters.length) = some 1)⟩ ⟨by decide, by decide⟩ ⟨by decide, by decide⟩ rfl (Nat.le_of_ble_eq_true rfl) d_H_price_9 ?_
    refine gq_if_ne C (tgt := 23) d_H_price_12 rfl (fun hb => by first | contradiction | (rcases h with h | h <;> contradiction)) (fun hb12 => ?_)
    exact gq_throw C hadm hex hlt tw_IllegalArgumentException w_255 w_256 w_13 (by decide) (by decide) (by decide) (by decide) (by decide) (Nat.le_of_ble_eq_true rfl) d_H_price_15 d_H_price_18 d_H_price_19 d_H_price_22

set_option maxHeartbeats 4000000 in
set_option maxRecDepth 100000 in
theorem c_H_activate (l : Launch) (Z : qZ) (hZ : qok (pX Z)) (V : qV) (Y : qY) (b : Int32) (h1 : f_isBook V b = 1) (h2 : ¬ b ≤ V 9 0 2) (h3 : V 9 0 3 < b) : CT l y_H_activate { frames := 6, cells := 0, slots := 0, locals := 101 } (pX Z) (qA (pX Z)) [.ref (al Z 0 0), .int b] V Y (.inl none) (f_look (qv V 9 0 3 b)) Y := by
  refine CT.of (cc := b_H_activate) (maxL := 2) (ret := none) hZ (by decide) w_376 (Nat.le_of_ble_eq_true rfl) ?_
  intro p e s m below meth c C hr hex hlt
  refine gq_aload_n C d_H_activate_0 rfl ?_
  refine gq_iload_n C d_H_activate_1 rfl ?_
  refine gq_callV C (st := []) (fun _ h => h.elim) (c_H_isBook l Z hZ _ _ b) (qm (by decide) (by decide)) rfl rfl w_377 w_379 ws_H_isBook w_380 w_1 ⟨by decide, by decide, (by decide +kernel : (parseMethodDescriptor y_H_isBook.desc).map (fun d => d.parameters.length) = some 1)⟩ ⟨by decide, by decide⟩ ⟨by decide, by decide⟩ rfl (Nat.le_of_ble_eq_true rfl) d_H_activate_2 ?_
  refine gq_if_ne C (tgt := 16) d_H_activate_5 rfl (fun hb5 => ?_) (fun hb => by first | contradiction | simp_all)
  refine gq_iload_n C d_H_activate_16 rfl ?_
  refine gq_aload_n C d_H_activate_17 rfl ?_
  refine gq_get C (g := 0) (j := 0) (ci := 7) (k := 4) (v := .ref (al Z 9 0)) (qm (by decide) (by decide)) rfl rfl in_H (by decide) w_207 rfl d_H_activate_18 ?_
  refine gq_get C (g := 9) (j := 0) (ci := 2) (k := 2) (v := .int (V 9 0 2)) (qm (by decide) (by decide)) rfl rfl in_D (by decide) w_137 rfl d_H_activate_21 ?_
  refine gq_icmp_le C (tgt := 38) d_H_activate_24 rfl (fun hb => by first | contradiction | simp_all) (fun hb24 => ?_)
  refine gq_iload_n C d_H_activate_27 rfl ?_
  refine gq_aload_n C d_H_activate_28 rfl ?_
  refine gq_get C (g := 0) (j := 0) (ci := 7) (k := 4) (v := .ref (al Z 9 0)) (qm (by decide) (by decide)) rfl rfl in_H (by decide) w_207 rfl d_H_activate_29 ?_
  refine gq_get C (g := 9) (j := 0) (ci := 2) (k := 3) (v := .int (V 9 0 3)) (qm (by decide) (by decide)) rfl rfl in_D (by decide) w_139 rfl d_H_activate_32 ?_
  refine gq_icmp_gt C (tgt := 46) d_H_activate_35 rfl (fun hb35 => ?_) (fun hb => by first | contradiction | simp_all)
  refine gq_aload_n C d_H_activate_46 rfl ?_
  refine gq_get C (g := 0) (j := 0) (ci := 7) (k := 4) (v := .ref (al Z 9 0)) (qm (by decide) (by decide)) rfl rfl in_H (by decide) w_207 rfl d_H_activate_47 ?_
  refine gq_iload_n C d_H_activate_50 rfl ?_
  refine gq_put C (fun _ h => h) (g := 9) (j := 0) (ci := 2) (k := 3) ft_D k_D n_D (qm (by decide) (by decide)) rfl rfl in_D (by decide) w_139 rfl (k_D 3 (by decide)) rfl rfl (Nat.le_of_ble_eq_true rfl) rfl d_H_activate_51 ?_
  refine gq_aload_n C d_H_activate_54 rfl ?_
  refine gq_get C (g := 0) (j := 0) (ci := 7) (k := 4) (v := .ref (al Z 9 0)) (qm (by decide) (by decide)) rfl rfl in_H (by decide) w_207 rfl d_H_activate_55 ?_
  refine gq_callV C (st := []) (fun _ h => h) (c_D_lookAtChange l Z hZ _ _) (qm (by decide) (by decide)) rfl rfl w_381 w_382 w_383 w_384 w_5 ⟨by decide, by decide, (by decide +kernel : (parseMethodDescriptor y_D_lookAtChange.desc).map (fun d => d.parameters.length) = some 0)⟩ ⟨by decide, by decide⟩ ⟨by decide, by decide⟩ rfl (Nat.le_of_ble_eq_true rfl) d_H_activate_58 ?_
  exact gq_vret C hr (by decide) (by decide) d_H_activate_61

set_option maxHeartbeats 4000000 in
set_option maxRecDepth 100000 in
theorem c_H_activate_x1 (l : Launch) (hadm : ∀ e : Env, l.admits e → e.platform.stackTraces = false) (Z : qZ) (hZ : qok (pX Z)) (V : qV) (Y : qY) (b : Int32) (h : f_isBook V b = 0) : CT l y_H_activate { frames := 6, cells := 1, slots := 6, locals := 101 } (pX Z) qN [.ref (al Z 0 0), .int b] V Y (.inr "java/lang/IllegalArgumentException") V Y := by
  refine CT.of (cc := b_H_activate) (maxL := 2) (ret := none) hZ (by decide) w_376 (Nat.le_of_ble_eq_true rfl) ?_
  intro p e s m below meth c C hr hex hlt
  refine gq_aload_n C d_H_activate_0 rfl ?_
  refine gq_iload_n C d_H_activate_1 rfl ?_
  refine gq_callV C (st := []) (fun _ h => h) (c_H_isBook l Z hZ _ _ b) (qm (by decide) (by decide)) rfl rfl w_377 w_379 ws_H_isBook w_380 w_1 ⟨by decide, by decide, (by decide +kernel : (parseMethodDescriptor y_H_isBook.desc).map (fun d => d.parameters.length) = some 1)⟩ ⟨by decide, by decide⟩ ⟨by decide, by decide⟩ rfl (Nat.le_of_ble_eq_true rfl) d_H_activate_2 ?_
  refine gq_if_ne C (tgt := 16) d_H_activate_5 rfl (fun hb => by first | contradiction | contradiction) (fun hb5 => ?_)
  exact gq_throw C hadm hex hlt tw_IllegalArgumentException w_255 w_256 w_13 (by decide) (by decide) (by decide) (by decide) (by decide) (Nat.le_of_ble_eq_true rfl) d_H_activate_8 d_H_activate_11 d_H_activate_12 d_H_activate_15

set_option maxHeartbeats 4000000 in
set_option maxRecDepth 100000 in
theorem c_H_activate_x2 (l : Launch) (hadm : ∀ e : Env, l.admits e → e.platform.stackTraces = false) (Z : qZ) (hZ : qok (pX Z)) (V : qV) (Y : qY) (b : Int32) (h1 : f_isBook V b = 1) (h : b ≤ V 9 0 2 ∨ ¬ V 9 0 3 < b) : CT l y_H_activate { frames := 6, cells := 1, slots := 6, locals := 101 } (pX Z) qN [.ref (al Z 0 0), .int b] V Y (.inr "java/lang/IllegalStateException") V Y := by
  refine CT.of (cc := b_H_activate) (maxL := 2) (ret := none) hZ (by decide) w_376 (Nat.le_of_ble_eq_true rfl) ?_
  intro p e s m below meth c C hr hex hlt
  refine gq_aload_n C d_H_activate_0 rfl ?_
  refine gq_iload_n C d_H_activate_1 rfl ?_
  refine gq_callV C (st := []) (fun _ h => h) (c_H_isBook l Z hZ _ _ b) (qm (by decide) (by decide)) rfl rfl w_377 w_379 ws_H_isBook w_380 w_1 ⟨by decide, by decide, (by decide +kernel : (parseMethodDescriptor y_H_isBook.desc).map (fun d => d.parameters.length) = some 1)⟩ ⟨by decide, by decide⟩ ⟨by decide, by decide⟩ rfl (Nat.le_of_ble_eq_true rfl) d_H_activate_2 ?_
  refine gq_if_ne C (tgt := 16) d_H_activate_5 rfl (fun hb5 => ?_) (fun hb => by first | contradiction | simp_all)
  refine gq_iload_n C d_H_activate_16 rfl ?_
  refine gq_aload_n C d_H_activate_17 rfl ?_
  refine gq_get C (g := 0) (j := 0) (ci := 7) (k := 4) (v := .ref (al Z 9 0)) (qm (by decide) (by decide)) rfl rfl in_H (by decide) w_207 rfl d_H_activate_18 ?_
  refine gq_get C (g := 9) (j := 0) (ci := 2) (k := 2) (v := .int (V 9 0 2)) (qm (by decide) (by decide)) rfl rfl in_D (by decide) w_137 rfl d_H_activate_21 ?_
  refine gq_icmp_le C (tgt := 38) d_H_activate_24 rfl (fun hb24 => ?_) (fun hb24 => ?_)
  · skip
    exact gq_throw C hadm hex hlt tw_IllegalStateException w_340 w_341 w_14 (by decide) (by decide) (by decide) (by decide) (by decide) (Nat.le_of_ble_eq_true rfl) d_H_activate_38 d_H_activate_41 d_H_activate_42 d_H_activate_45
  · skip
    refine gq_iload_n C d_H_activate_27 rfl ?_
    refine gq_aload_n C d_H_activate_28 rfl ?_
    refine gq_get C (g := 0) (j := 0) (ci := 7) (k := 4) (v := .ref (al Z 9 0)) (qm (by decide) (by decide)) rfl rfl in_H (by decide) w_207 rfl d_H_activate_29 ?_
    refine gq_get C (g := 9) (j := 0) (ci := 2) (k := 3) (v := .int (V 9 0 3)) (qm (by decide) (by decide)) rfl rfl in_D (by decide) w_139 rfl d_H_activate_32 ?_
    refine gq_icmp_gt C (tgt := 46) d_H_activate_35 rfl (fun hb => by first | contradiction | (rcases h with h | h <;> contradiction)) (fun hb35 => ?_)
    exact gq_throw C hadm hex hlt tw_IllegalStateException w_340 w_341 w_14 (by decide) (by decide) (by decide) (by decide) (by decide) (Nat.le_of_ble_eq_true rfl) d_H_activate_38 d_H_activate_41 d_H_activate_42 d_H_activate_45

set_option maxHeartbeats 4000000 in
set_option maxRecDepth 100000 in
theorem c_H_active (l : Launch) (Z : qZ) (hZ : qok (pX Z)) (V : qV) (Y : qY)  : CT l y_H_active { frames := 1, cells := 0, slots := 0, locals := 40 } (pX Z) qN [.ref (al Z 0 0)] V Y (.inl (some (.int (V 9 0 2)))) V Y := by
  refine CT.of (cc := b_H_active) (maxL := 1) (ret := (some .int)) hZ (by decide) w_235 (Nat.le_of_ble_eq_true rfl) ?_
  intro p e s m below meth c C hr hex hlt
  refine gq_aload_n C d_H_active_0 rfl ?_
  refine gq_get C (g := 0) (j := 0) (ci := 7) (k := 4) (v := .ref (al Z 9 0)) (qm (by decide) (by decide)) rfl rfl in_H (by decide) w_207 rfl d_H_active_1 ?_
  refine gq_get C (g := 9) (j := 0) (ci := 2) (k := 2) (v := .int (V 9 0 2)) (qm (by decide) (by decide)) rfl rfl in_D (by decide) w_137 rfl d_H_active_4 ?_
  exact gq_iret C hr (by decide) (by decide) d_H_active_7

set_option maxHeartbeats 4000000 in
set_option maxRecDepth 100000 in
theorem c_H_tick (l : Launch) (Z : qZ) (hZ : qok (pX Z)) (V : qV) (Y : qY) (n : Int32) (h1 : ¬ n < 1) (h2 : n ≤ 500) : CT l y_H_tick { frames := 6, cells := 0, slots := 0, locals := 101 } (pX Z) (qA (pX Z)) [.ref (al Z 0 0), .int n] V Y (.inl (some (.int ((V 8 4 0 + n * V 8 4 1) / 100)))) (f_look (f_go5 V n)) Y := by
  refine CT.of (cc := b_H_tick) (maxL := 3) (ret := (some .int)) hZ (by decide) w_403 (Nat.le_of_ble_eq_true rfl) ?_
  intro p e s m below meth c C hr hex hlt
  refine gq_iload_n C d_H_tick_0 rfl ?_
  refine gq_iconst C (v := 1) d_H_tick_1 (by decide) ?_
  refine gq_icmp_lt C (tgt := 12) d_H_tick_2 rfl (fun hb => by first | contradiction | contradiction) (fun hb2 => ?_)
  refine gq_iload_n C d_H_tick_5 rfl ?_
  refine gq_sipush C (v := 500) d_H_tick_6 (by decide) ?_
  refine gq_icmp_le C (tgt := 20) d_H_tick_9 rfl (fun hb9 => ?_) (fun hb => by first | contradiction | contradiction)
  refine gq_iconst C (v := 0) d_H_tick_20 (by decide) ?_
  refine gq_istore_n C (lo' := [(2, .int 0), (0, .ref (al Z 0 0)), (1, .int n)]) d_H_tick_21 rfl (by decide) rfl ?_
  refine gq_iload_n C d_H_tick_22 rfl ?_
  refine gq_iconst C (v := 4) d_H_tick_23 (by decide) ?_
  refine gq_icmp_ge C (tgt := 46) d_H_tick_24 rfl (fun hb => by first | contradiction | exact absurd hb (by decide)) (fun hb24 => ?_)
  refine gq_aload_n C d_H_tick_27 rfl ?_
  refine gq_get C (g := 0) (j := 0) (ci := 7) (k := 3) (v := .ref (al Z 6 0)) (qm (by decide) (by decide)) rfl rfl in_H (by decide) w_206 rfl d_H_tick_28 ?_
  refine gq_iload_n C d_H_tick_31 rfl ?_
  refine gq_aald C (g := 6) (j := 0) (a := 0) (t0 := 4) (b := al Z 7 0) (qm (by decide) (by decide)) rfl rfl rfl (by decide) (by decide) rfl d_H_tick_32 ?_
  refine gq_get C (g := 7) (j := 0) (ci := 6) (k := 0) (v := .ref (al Z 8 0)) (qm (by decide) (by decide)) rfl rfl in_T (by decide) w_70 rfl d_H_tick_33 ?_
  refine gq_iload_n C d_H_tick_36 rfl ?_
  refine gq_callV C (st := []) (fun _ h => h) (c_C_go l Z hZ _ _ 0 (by decide) n) (qm (by decide) (by decide)) rfl rfl w_404 w_405 w_406 w_407 w_4 ⟨by decide, by decide, (by decide +kernel : (parseMethodDescriptor y_C_go.desc).map (fun d => d.parameters.length) = some 1)⟩ ⟨by decide, by decide⟩ ⟨by decide, by decide⟩ rfl (Nat.le_of_ble_eq_true rfl) d_H_tick_37 ?_
  refine gq_iinc C (k := 0) (w := 1) (lo' := [(2, .int 1), (0, .ref (al Z 0 0)), (1, .int n)]) d_H_tick_40 rfl (by decide) (by decide) rfl ?_
  refine gq_goto C (tgt := 22) d_H_tick_43 rfl ?_
  refine gq_iload_n C d_H_tick_22 rfl ?_
  refine gq_iconst C (v := 4) d_H_tick_23 (by decide) ?_
  refine gq_icmp_ge C (tgt := 46) d_H_tick_24 rfl (fun hb => by first | contradiction | exact absurd hb (by decide)) (fun hb24 => ?_)
  refine gq_aload_n C d_H_tick_27 rfl ?_
  refine gq_get C (g := 0) (j := 0) (ci := 7) (k := 3) (v := .ref (al Z 6 0)) (qm (by decide) (by decide)) rfl rfl in_H (by decide) w_206 rfl d_H_tick_28 ?_
  refine gq_iload_n C d_H_tick_31 rfl ?_
  refine gq_aald C (g := 6) (j := 0) (a := 1) (t0 := 4) (b := al Z 7 1) (qm (by decide) (by decide)) rfl rfl rfl (by decide) (by decide) rfl d_H_tick_32 ?_
  refine gq_get C (g := 7) (j := 1) (ci := 6) (k := 0) (v := .ref (al Z 8 1)) (qm (by decide) (by decide)) rfl rfl in_T (by decide) w_70 rfl d_H_tick_33 ?_
  refine gq_iload_n C d_H_tick_36 rfl ?_
  refine gq_callV C (st := []) (fun _ h => h) (c_C_go l Z hZ _ _ 1 (by decide) n) (qm (by decide) (by decide)) rfl rfl w_404 w_405 w_406 w_407 w_4 ⟨by decide, by decide, (by decide +kernel : (parseMethodDescriptor y_C_go.desc).map (fun d => d.parameters.length) = some 1)⟩ ⟨by decide, by decide⟩ ⟨by decide, by decide⟩ rfl (Nat.le_of_ble_eq_true rfl) d_H_tick_37 ?_
  refine gq_iinc C (k := 0) (w := 2) (lo' := [(2, .int 2), (0, .ref (al Z 0 0)), (1, .int n)]) d_H_tick_40 rfl (by decide) (by decide) rfl ?_
  refine gq_goto C (tgt := 22) d_H_tick_43 rfl ?_
  refine gq_iload_n C d_H_tick_22 rfl ?_
  refine gq_iconst C (v := 4) d_H_tick_23 (by decide) ?_
  refine gq_icmp_ge C (tgt := 46) d_H_tick_24 rfl (fun hb => by first | contradiction | exact absurd hb (by decide)) (fun hb24 => ?_)
  refine gq_aload_n C d_H_tick_27 rfl ?_
  refine gq_get C (g := 0) (j := 0) (ci := 7) (k := 3) (v := .ref (al Z 6 0)) (qm (by decide) (by decide)) rfl rfl in_H (by decide) w_206 rfl d_H_tick_28 ?_
  refine gq_iload_n C d_H_tick_31 rfl ?_
  refine gq_aald C (g := 6) (j := 0) (a := 2) (t0 := 4) (b := al Z 7 2) (qm (by decide) (by decide)) rfl rfl rfl (by decide) (by decide) rfl d_H_tick_32 ?_
  refine gq_get C (g := 7) (j := 2) (ci := 6) (k := 0) (v := .ref (al Z 8 2)) (qm (by decide) (by decide)) rfl rfl in_T (by decide) w_70 rfl d_H_tick_33 ?_
  refine gq_iload_n C d_H_tick_36 rfl ?_
  refine gq_callV C (st := []) (fun _ h => h) (c_C_go l Z hZ _ _ 2 (by decide) n) (qm (by decide) (by decide)) rfl rfl w_404 w_405 w_406 w_407 w_4 ⟨by decide, by decide, (by decide +kernel : (parseMethodDescriptor y_C_go.desc).map (fun d => d.parameters.length) = some 1)⟩ ⟨by decide, by decide⟩ ⟨by decide, by decide⟩ rfl (Nat.le_of_ble_eq_true rfl) d_H_tick_37 ?_
  refine gq_iinc C (k := 0) (w := 3) (lo' := [(2, .int 3), (0, .ref (al Z 0 0)), (1, .int n)]) d_H_tick_40 rfl (by decide) (by decide) rfl ?_
  refine gq_goto C (tgt := 22) d_H_tick_43 rfl ?_
  refine gq_iload_n C d_H_tick_22 rfl ?_
  refine gq_iconst C (v := 4) d_H_tick_23 (by decide) ?_
  refine gq_icmp_ge C (tgt := 46) d_H_tick_24 rfl (fun hb => by first | contradiction | exact absurd hb (by decide)) (fun hb24 => ?_)
  refine gq_aload_n C d_H_tick_27 rfl ?_
  refine gq_get C (g := 0) (j := 0) (ci := 7) (k := 3) (v := .ref (al Z 6 0)) (qm (by decide) (by decide)) rfl rfl in_H (by decide) w_206 rfl d_H_tick_28 ?_
  refine gq_iload_n C d_H_tick_31 rfl ?_
  refine gq_aald C (g := 6) (j := 0) (a := 3) (t0 := 4) (b := al Z 7 3) (qm (by decide) (by decide)) rfl rfl rfl (by decide) (by decide) rfl d_H_tick_32 ?_
  refine gq_get C (g := 7) (j := 3) (ci := 6) (k := 0) (v := .ref (al Z 8 3)) (qm (by decide) (by decide)) rfl rfl in_T (by decide) w_70 rfl d_H_tick_33 ?_
  refine gq_iload_n C d_H_tick_36 rfl ?_
  refine gq_callV C (st := []) (fun _ h => h) (c_C_go l Z hZ _ _ 3 (by decide) n) (qm (by decide) (by decide)) rfl rfl w_404 w_405 w_406 w_407 w_4 ⟨by decide, by decide, (by decide +kernel : (parseMethodDescriptor y_C_go.desc).map (fun d => d.parameters.length) = some 1)⟩ ⟨by decide, by decide⟩ ⟨by decide, by decide⟩ rfl (Nat.le_of_ble_eq_true rfl) d_H_tick_37 ?_
  refine gq_iinc C (k := 0) (w := 4) (lo' := [(2, .int 4), (0, .ref (al Z 0 0)), (1, .int n)]) d_H_tick_40 rfl (by decide) (by decide) rfl ?_
  refine gq_goto C (tgt := 22) d_H_tick_43 rfl ?_
  refine gq_iload_n C d_H_tick_22 rfl ?_
  refine gq_iconst C (v := 4) d_H_tick_23 (by decide) ?_
  refine gq_icmp_ge C (tgt := 46) d_H_tick_24 rfl (fun hb24 => ?_) (fun hb => by first | contradiction | exact absurd hb (by decide))
  refine gq_aload_n C d_H_tick_46 rfl ?_
  refine gq_get C (g := 0) (j := 0) (ci := 7) (k := 4) (v := .ref (al Z 9 0)) (qm (by decide) (by decide)) rfl rfl in_H (by decide) w_207 rfl d_H_tick_47 ?_
  refine gq_get C (g := 9) (j := 0) (ci := 2) (k := 0) (v := .ref (al Z 8 4)) (qm (by decide) (by decide)) rfl rfl in_D (by decide) w_133 rfl d_H_tick_50 ?_
  refine gq_iload_n C d_H_tick_53 rfl ?_
  refine gq_callV C (st := []) (fun _ h => h) (c_C_go l Z hZ _ _ 4 (by decide) n) (qm (by decide) (by decide)) rfl rfl w_404 w_405 w_406 w_407 w_4 ⟨by decide, by decide, (by decide +kernel : (parseMethodDescriptor y_C_go.desc).map (fun d => d.parameters.length) = some 1)⟩ ⟨by decide, by decide⟩ ⟨by decide, by decide⟩ rfl (Nat.le_of_ble_eq_true rfl) d_H_tick_54 ?_
  refine gq_aload_n C d_H_tick_57 rfl ?_
  refine gq_get C (g := 0) (j := 0) (ci := 7) (k := 4) (v := .ref (al Z 9 0)) (qm (by decide) (by decide)) rfl rfl in_H (by decide) w_207 rfl d_H_tick_58 ?_
  refine gq_callV C (st := []) (fun _ h => h) (c_D_lookAtChange l Z hZ _ _) (qm (by decide) (by decide)) rfl rfl w_381 w_382 w_383 w_384 w_5 ⟨by decide, by decide, (by decide +kernel : (parseMethodDescriptor y_D_lookAtChange.desc).map (fun d => d.parameters.length) = some 0)⟩ ⟨by decide, by decide⟩ ⟨by decide, by decide⟩ rfl (Nat.le_of_ble_eq_true rfl) d_H_tick_61 ?_
  refine gq_aload_n C d_H_tick_64 rfl ?_
  refine gq_get C (g := 0) (j := 0) (ci := 7) (k := 4) (v := .ref (al Z 9 0)) (qm (by decide) (by decide)) rfl rfl in_H (by decide) w_207 rfl d_H_tick_65 ?_
  refine gq_get C (g := 9) (j := 0) (ci := 2) (k := 0) (v := .ref (al Z 8 4)) (qm (by decide) (by decide)) rfl rfl in_D (by decide) w_133 rfl d_H_tick_68 ?_
  refine gq_callV C (st := []) (fun _ h => h.elim) (c_C_shown l Z hZ _ _ 4 (by decide)) (qm (by decide) (by decide)) rfl rfl w_408 w_390 w_391 w_392 w_4 ⟨by decide, by decide, (by decide +kernel : (parseMethodDescriptor y_C_shown.desc).map (fun d => d.parameters.length) = some 0)⟩ ⟨by decide, by decide⟩ ⟨by decide, by decide⟩ rfl (Nat.le_of_ble_eq_true rfl) d_H_tick_71 ?_
  refine G.eqS (st' := [.int (((V 8 4 0) + n * (V 8 4 1)) / 100)]) (by simp [qv_at, f_look_fr]) ?_
  exact gq_iretE C hr (by rfl) (by rfl) rfl (by decide) (by decide) d_H_tick_74

set_option maxHeartbeats 4000000 in
set_option maxRecDepth 100000 in
theorem c_H_tick_x (l : Launch) (hadm : ∀ e : Env, l.admits e → e.platform.stackTraces = false) (Z : qZ) (hZ : qok (pX Z)) (V : qV) (Y : qY) (n : Int32) (h : n < 1 ∨ ¬ n ≤ 500) : CT l y_H_tick { frames := 6, cells := 1, slots := 6, locals := 101 } (pX Z) qN [.ref (al Z 0 0), .int n] V Y (.inr "java/lang/IllegalArgumentException") V Y := by
  refine CT.of (cc := b_H_tick) (maxL := 3) (ret := (some .int)) hZ (by decide) w_403 (Nat.le_of_ble_eq_true rfl) ?_
  intro p e s m below meth c C hr hex hlt
  refine gq_iload_n C d_H_tick_0 rfl ?_
  refine gq_iconst C (v := 1) d_H_tick_1 (by decide) ?_
  refine gq_icmp_lt C (tgt := 12) d_H_tick_2 rfl (fun hb2 => ?_) (fun hb2 => ?_)
  · skip
    exact gq_throw C hadm hex hlt tw_IllegalArgumentException w_255 w_256 w_13 (by decide) (by decide) (by decide) (by decide) (by decide) (Nat.le_of_ble_eq_true rfl) d_H_tick_12 d_H_tick_15 d_H_tick_16 d_H_tick_19
  · skip
    refine gq_iload_n C d_H_tick_5 rfl ?_
    refine gq_sipush C (v := 500) d_H_tick_6 (by decide) ?_
    refine gq_icmp_le C (tgt := 20) d_H_tick_9 rfl (fun hb => by first | contradiction | (rcases h with h | h <;> contradiction)) (fun hb9 => ?_)
    exact gq_throw C hadm hex hlt tw_IllegalArgumentException w_255 w_256 w_13 (by decide) (by decide) (by decide) (by decide) (by decide) (Nat.le_of_ble_eq_true rfl) d_H_tick_12 d_H_tick_15 d_H_tick_16 d_H_tick_19

set_option maxHeartbeats 4000000 in
set_option maxRecDepth 100000 in
theorem c_H_rate_desk (l : Launch) (Z : qZ) (hZ : qok (pX Z)) (V : qV) (Y : qY) (q : Int32) (h1 : f_isTD 4 = 1) (h2 : ¬ q < 99) (h3 : q ≤ 101) : CT l y_H_rate { frames := 6, cells := 0, slots := 0, locals := 96 } (pX Z) (qA (pX Z)) [.ref (al Z 0 0), .int 4, .int q] V Y (.inl none) (qv V 8 4 1 q) Y := by
  refine CT.of (cc := b_H_rate) (maxL := 4) (ret := none) hZ (by decide) w_415 (Nat.le_of_ble_eq_true rfl) ?_
  intro p e s m below meth c C hr hex hlt
  refine gq_iload_n C d_H_rate_0 rfl ?_
  refine gq_callS C (st := []) (fun _ h => h.elim) (c_H_isTillOrDesk l Z hZ _ _ 4) w_416 w_417 w_418 w_1 ⟨by decide, by decide, (by decide +kernel : (parseMethodDescriptor y_H_isTillOrDesk.desc).map (fun d => d.parameters.length) = some 1)⟩ ⟨by decide, by decide⟩ ⟨by decide, by decide⟩ rfl (Nat.le_of_ble_eq_true rfl) d_H_rate_1 ?_
  refine gq_if_eq C (tgt := 19) d_H_rate_4 rfl (fun hb => by first | contradiction | simp_all) (fun hb4 => ?_)
  refine gq_iload_n C d_H_rate_7 rfl ?_
  refine gq_bipush C (v := 99) d_H_rate_8 (by decide) ?_
  refine gq_icmp_lt C (tgt := 19) d_H_rate_10 rfl (fun hb => by first | contradiction | simp_all) (fun hb10 => ?_)
  refine gq_iload_n C d_H_rate_13 rfl ?_
  refine gq_bipush C (v := 101) d_H_rate_14 (by decide) ?_
  refine gq_icmp_le C (tgt := 27) d_H_rate_16 rfl (fun hb16 => ?_) (fun hb => by first | contradiction | simp_all)
  refine gq_iload_n C d_H_rate_27 rfl ?_
  refine gq_iconst C (v := 4) d_H_rate_28 (by decide) ?_
  refine gq_icmp_ne C (tgt := 42) d_H_rate_29 rfl (fun hb => by first | contradiction | exact absurd hb (by decide)) (fun hb29 => ?_)
  refine gq_aload_n C d_H_rate_32 rfl ?_
  refine gq_get C (g := 0) (j := 0) (ci := 7) (k := 4) (v := .ref (al Z 9 0)) (qm (by decide) (by decide)) rfl rfl in_H (by decide) w_207 rfl d_H_rate_33 ?_
  refine gq_get C (g := 9) (j := 0) (ci := 2) (k := 0) (v := .ref (al Z 8 4)) (qm (by decide) (by decide)) rfl rfl in_D (by decide) w_133 rfl d_H_rate_36 ?_
  refine gq_goto C (tgt := 51) d_H_rate_39 rfl ?_
  refine gq_astore_n C (lo' := [(3, .ref (al Z 8 4)), (0, .ref (al Z 0 0)), (1, .int 4), (2, .int q)]) d_H_rate_51 rfl (by decide) rfl ?_
  refine gq_aload_n C d_H_rate_52 rfl ?_
  refine gq_iload_n C d_H_rate_53 rfl ?_
  refine gq_put C (fun _ h => h) (g := 8) (j := 4) (ci := 1) (k := 1) ft_C k_C n_C (qm (by decide) (by decide)) rfl rfl in_C (by decide) w_63 rfl (k_C 1 (by decide)) rfl rfl (Nat.le_of_ble_eq_true rfl) rfl d_H_rate_54 ?_
  exact gq_vret C hr (by decide) (by decide) d_H_rate_57

set_option maxHeartbeats 4000000 in
set_option maxRecDepth 100000 in
theorem c_H_rate (l : Launch) (Z : qZ) (hZ : qok (pX Z)) (V : qV) (Y : qY) (t : Nat) (ht : t < 4) (q : Int32) (h1 : f_isTD (nI t) = 1) (h2 : ¬ q < 99) (h3 : q ≤ 101) : CT l y_H_rate { frames := 6, cells := 0, slots := 0, locals := 96 } (pX Z) (qA (pX Z)) [.ref (al Z 0 0), .int (nI t), .int q] V Y (.inl none) (qv V 8 t 1 q) Y := by
  refine CT.of (cc := b_H_rate) (maxL := 4) (ret := none) hZ (by decide) w_415 (Nat.le_of_ble_eq_true rfl) ?_
  intro p e s m below meth c C hr hex hlt
  refine gq_iload_n C d_H_rate_0 rfl ?_
  refine gq_callS C (st := []) (fun _ h => h.elim) (c_H_isTillOrDesk l Z hZ _ _ (nI t)) w_416 w_417 w_418 w_1 ⟨by decide, by decide, (by decide +kernel : (parseMethodDescriptor y_H_isTillOrDesk.desc).map (fun d => d.parameters.length) = some 1)⟩ ⟨by decide, by decide⟩ ⟨by decide, by decide⟩ rfl (Nat.le_of_ble_eq_true rfl) d_H_rate_1 ?_
  refine gq_if_eq C (tgt := 19) d_H_rate_4 rfl (fun hb => by first | contradiction | simp_all) (fun hb4 => ?_)
  refine gq_iload_n C d_H_rate_7 rfl ?_
  refine gq_bipush C (v := 99) d_H_rate_8 (by decide) ?_
  refine gq_icmp_lt C (tgt := 19) d_H_rate_10 rfl (fun hb => by first | contradiction | simp_all) (fun hb10 => ?_)
  refine gq_iload_n C d_H_rate_13 rfl ?_
  refine gq_bipush C (v := 101) d_H_rate_14 (by decide) ?_
  refine gq_icmp_le C (tgt := 27) d_H_rate_16 rfl (fun hb16 => ?_) (fun hb => by first | contradiction | simp_all)
  refine gq_iload_n C d_H_rate_27 rfl ?_
  refine gq_iconst C (v := 4) d_H_rate_28 (by decide) ?_
  refine gq_icmp_ne C (tgt := 42) d_H_rate_29 rfl (fun hb29 => ?_) (fun hb => by first | contradiction | exact absurd hb (f_n4 ht))
  refine gq_aload_n C d_H_rate_42 rfl ?_
  refine gq_get C (g := 0) (j := 0) (ci := 7) (k := 3) (v := .ref (al Z 6 0)) (qm (by decide) (by decide)) rfl rfl in_H (by decide) w_206 rfl d_H_rate_43 ?_
  refine gq_iload_n C d_H_rate_46 rfl ?_
  refine gq_aald C (g := 6) (j := 0) (a := t) (t0 := 4) (b := al Z 7 t) (qm (by decide) (by decide)) rfl rfl rfl ht (by decide) rfl d_H_rate_47 ?_
  refine gq_get C (g := 7) (j := t) (ci := 6) (k := 0) (v := .ref (al Z 8 t)) (qm (by decide) ht) rfl rfl in_T (by decide) w_70 rfl d_H_rate_48 ?_
  refine gq_astore_n C (lo' := [(3, .ref (al Z 8 t)), (0, .ref (al Z 0 0)), (1, .int (nI t)), (2, .int q)]) d_H_rate_51 rfl (by decide) rfl ?_
  refine gq_aload_n C d_H_rate_52 rfl ?_
  refine gq_iload_n C d_H_rate_53 rfl ?_
  refine gq_put C (fun _ h => h) (g := 8) (j := t) (ci := 1) (k := 1) ft_C k_C n_C (qm (by decide) (Nat.lt_trans ht (by decide))) rfl rfl in_C (by decide) w_63 rfl (k_C 1 (by decide)) rfl rfl (Nat.le_of_ble_eq_true rfl) rfl d_H_rate_54 ?_
  exact gq_vret C hr (by decide) (by decide) d_H_rate_57

set_option maxHeartbeats 4000000 in
set_option maxRecDepth 100000 in
theorem c_H_rate_x (l : Launch) (hadm : ∀ e : Env, l.admits e → e.platform.stackTraces = false) (Z : qZ) (hZ : qok (pX Z)) (V : qV) (Y : qY) (w q : Int32) (h : f_isTD w = 0 ∨ q < 99 ∨ ¬ q ≤ 101) : CT l y_H_rate { frames := 6, cells := 1, slots := 6, locals := 96 } (pX Z) qN [.ref (al Z 0 0), .int w, .int q] V Y (.inr "java/lang/IllegalArgumentException") V Y := by
  refine CT.of (cc := b_H_rate) (maxL := 4) (ret := none) hZ (by decide) w_415 (Nat.le_of_ble_eq_true rfl) ?_
  intro p e s m below meth c C hr hex hlt
  refine gq_iload_n C d_H_rate_0 rfl ?_
  refine gq_callS C (st := []) (fun _ h => h) (c_H_isTillOrDesk l Z hZ _ _ w) w_416 w_417 w_418 w_1 ⟨by decide, by decide, (by decide +kernel : (parseMethodDescriptor y_H_isTillOrDesk.desc).map (fun d => d.parameters.length) = some 1)⟩ ⟨by decide, by decide⟩ ⟨by decide, by decide⟩ rfl (Nat.le_of_ble_eq_true rfl) d_H_rate_1 ?_
  refine gq_if_eq C (tgt := 19) d_H_rate_4 rfl (fun hb4 => ?_) (fun hb4 => ?_)
  · skip
    exact gq_throw C hadm hex hlt tw_IllegalArgumentException w_255 w_256 w_13 (by decide) (by decide) (by decide) (by decide) (by decide) (Nat.le_of_ble_eq_true rfl) d_H_rate_19 d_H_rate_22 d_H_rate_23 d_H_rate_26
  · skip
    refine gq_iload_n C d_H_rate_7 rfl ?_
    refine gq_bipush C (v := 99) d_H_rate_8 (by decide) ?_
    refine gq_icmp_lt C (tgt := 19) d_H_rate_10 rfl (fun hb10 => ?_) (fun hb10 => ?_)
    · skip
      exact gq_throw C hadm hex hlt tw_IllegalArgumentException w_255 w_256 w_13 (by decide) (by decide) (by decide) (by decide) (by decide) (Nat.le_of_ble_eq_true rfl) d_H_rate_19 d_H_rate_22 d_H_rate_23 d_H_rate_26
    · skip
      refine gq_iload_n C d_H_rate_13 rfl ?_
      refine gq_bipush C (v := 101) d_H_rate_14 (by decide) ?_
      refine gq_icmp_le C (tgt := 27) d_H_rate_16 rfl (fun hb => by first | contradiction | (rcases h with h | h | h <;> contradiction)) (fun hb16 => ?_)
      exact gq_throw C hadm hex hlt tw_IllegalArgumentException w_255 w_256 w_13 (by decide) (by decide) (by decide) (by decide) (by decide) (Nat.le_of_ble_eq_true rfl) d_H_rate_19 d_H_rate_22 d_H_rate_23 d_H_rate_26
