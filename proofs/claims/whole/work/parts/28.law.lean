/-! The law's cases: the script's ints are read, one call of the class, one of the reference, their answers compared -/
section QLW
variable {p : Program} {l : Launch} {e : Env} {R : Room} {s : State} {m : MethodId} {args : Array Value} {below : List Frame} {meth : Method} {c : Code} {Q : State → Prop} {x : qX} {nL : Nat} {A : Nat → Prop} {V V' : qV} {Y Y' : qY} {cells slots pc : Nat} {lo lo' : List (Nat × Value)} {st : List Value} {cc : ByteArray} {own : String} {Ts : List Cond}
theorem gq_sld (C : Cx p s m args meth c x nL A cc own Ts) {b L a : Nat} {xs : Nat → Int32} {i : Int32} (hX : va_X b L xs s s.heap) (hbl : b < s.heap.size) (hbA : ¬ A b) (hL : L ≤ 2560) (hi : i = nI a) (ha : a < L) (hd : decode cc pc = .ok (.iaload, 1)) (kk : G p l e R s m args below meth c Q x nL A V Y cells slots (pc + 1) lo (.int (xs a) :: st)) : G p l e R s m args below meth c Q x nL A V Y cells slots pc lo (.int i :: .ref b :: st) := by
  intro H locs ls hP hS hl
  subst hi
  refine va_sld C.1 C.2.1 hX hbl hbA hS (vp_in_nI ha (by omega)) hd ?_
  rw [nI_clamp (by omega)]
  exact kk H locs ls hP hS hl
theorem gq_slen (C : Cx p s m args meth c x nL A cc own Ts) {b L : Nat} {xs : Nat → Int32} (hX : va_X b L xs s s.heap) (hbl : b < s.heap.size) (hbA : ¬ A b) (hd : decode cc pc = .ok (.arraylength, 1)) (kk : G p l e R s m args below meth c Q x nL A V Y cells slots (pc + 1) lo (.int (nI L) :: st)) : G p l e R s m args below meth c Q x nL A V Y cells slots pc lo (.ref b :: st) := by
  intro H locs ls hP hS hl
  exact va_slen C.1 C.2.1 hX hbl hbA hS hd (kk H locs ls hP hS hl)
theorem lc0 {a b : Int64} (h : a = b) : lg_cmp a b = 0 := by
  subst h
  unfold lg_cmp
  rw [if_neg (by intro q; exact absurd q (Int64.lt_irrefl)), if_pos rfl]
end QLW

set_option maxHeartbeats 4000000 in
set_option maxRecDepth 100000 in
theorem law_article {p : Program} {l : Launch} {e : Env} {s : State} {m : MethodId} {below : List Frame} {meth : Method} {c : Code} {Q : State → Prop} {A : Nat → Prop} (hadm : ∀ e : Env, l.admits e → e.platform.stackTraces = false) (Z : qZ) (hZ : qok (pX Z)) (hA : ∀ q, qA (pX Z) q → A q) {b L : Nat} {xs : Nat → Int32} (C : Cx p s m #[Value.ref b] meth c (pX Z) 8 A b_W_law "PriceHouseLaw" QT) (hX : va_X b L xs s s.heap) (hbl : b < s.heap.size) (hbA : ¬ A b) (hL : L ≤ 2560) {cells slots n i : Nat} (hc : cells + 1 ≤ room_1.cells) (hs : slots + 6 ≤ room_1.slots) (hi : i + 5 ≤ L) (hn : n ≤ 512) (V : qV) (Y : qY) (h : Rel n V) (kk : ∀ (V' : qV) (Y' : qY) (lo' : List (Nat × Value)), (∀ q ∈ [(4, .int (nI i)), (3, .ref (al Z 45 0)), (2, .ref (al Z 20 0)), (1, .ref (al Z 0 0)), (0, .ref b)], q ∈ lo') → Rel (n + 1) V' → G p l e room_1 s m #[Value.ref b] below meth c Q (pX Z) 8 A V' Y' (cells + 1) (slots + 6) 1321 lo' []) : G p l e room_1 s m #[Value.ref b] below meth c Q (pX Z) 8 A V Y cells slots 148 [(4, .int (nI i)), (3, .ref (al Z 45 0)), (2, .ref (al Z 20 0)), (1, .ref (al Z 0 0)), (0, .ref b)] [] := by
  obtain ⟨k, V1, V2, Y1, hW, hM, hk, hR⟩ := op_article l hadm Z hZ V Y h (xs (i + 1)) (xs (i + 2))
  refine gq_aload_n C d_W_law_148 rfl ?_
  refine gq_aload_n C d_W_law_149 rfl ?_
  refine gq_iload C d_W_law_150 rfl ?_
  refine gq_iconst C (v := 1) d_W_law_152 (by decide) ?_
  refine gq_iadd C d_W_law_153 ?_
  refine gq_sld C (a := i + 1) hX hbl hbA hL (nI_add i 1) (by omega) d_W_law_154 ?_
  refine gq_aload_n C d_W_law_155 rfl ?_
  refine gq_iload C d_W_law_156 rfl ?_
  refine gq_iconst C (v := 2) d_W_law_158 (by decide) ?_
  refine gq_iadd C d_W_law_159 ?_
  refine gq_sld C (a := i + 2) hX hbl hbA hL (nI_add i 2) (by omega) d_W_law_160 ?_
  refine gq_callSW C (st := []) hA hW w_240 w_241 w_242 w_0 ⟨by decide, by decide, (by decide +kernel : (parseMethodDescriptor y_W_article.desc).map (fun d => d.parameters.length) = some 3)⟩ ⟨by decide, by decide⟩ ⟨hc, hs⟩ rfl (Nat.le_of_ble_eq_true rfl) d_W_law_161 ?_
  refine gq_istore C (lo' := [(5, .int k), (4, .int (nI i)), (3, .ref (al Z 45 0)), (2, .ref (al Z 20 0)), (1, .ref (al Z 0 0)), (0, .ref b)]) d_W_law_164 (by decide) rfl ?_
  refine gq_aload_n C d_W_law_166 rfl ?_
  refine gq_aload_n C d_W_law_167 rfl ?_
  refine gq_iload C d_W_law_168 rfl ?_
  refine gq_iconst C (v := 1) d_W_law_170 (by decide) ?_
  refine gq_iadd C d_W_law_171 ?_
  refine gq_sld C (a := i + 1) hX hbl hbA hL (nI_add i 1) (by omega) d_W_law_172 ?_
  refine gq_aload_n C d_W_law_173 rfl ?_
  refine gq_iload C d_W_law_174 rfl ?_
  refine gq_iconst C (v := 2) d_W_law_176 (by decide) ?_
  refine gq_iadd C d_W_law_177 ?_
  refine gq_sld C (a := i + 2) hX hbl hbA hL (nI_add i 2) (by omega) d_W_law_178 ?_
  refine gq_callV C (st := []) hA hM (qm (by decide) (by decide)) rfl rfl w_757 w_758 w_759 w_760 w_9 ⟨by decide, by decide, (by decide +kernel : (parseMethodDescriptor y_M_article.desc).map (fun d => d.parameters.length) = some 2)⟩ ⟨by decide, by decide⟩ ⟨hc, hs⟩ rfl (Nat.le_of_ble_eq_true rfl) d_W_law_179 ?_
  refine gq_aload_n C d_W_law_182 rfl ?_
  refine gq_callV C (st := []) (fun _ h => h.elim) (c_M_thrown l Z hZ V2 Y1) (qm (by decide) (by decide)) rfl rfl w_753 w_754 w_755 w_756 w_9 ⟨by decide, by decide, (by decide +kernel : (parseMethodDescriptor y_M_thrown.desc).map (fun d => d.parameters.length) = some 0)⟩ ⟨by decide, by decide⟩ ⟨hc, hs⟩ rfl (Nat.le_of_ble_eq_true rfl) d_W_law_183 ?_
  refine G.eqS (st' := [.int k]) (by first | (rw [show V2 20 0 0 = k from hk]; done) | (rw [show V2 20 0 0 = k from hk]; rfl)) ?_
  refine gq_iload C d_W_law_186 rfl ?_
  refine gq_icmp_eq C (tgt := 193) d_W_law_188 rfl (fun hb188 => ?_) (fun hb => by exact absurd rfl hb)
  refine gq_goto C (tgt := 1321) d_W_law_193 rfl ?_
  exact kk V2 Y1 _ (fun q hq => by simp only [List.mem_cons, List.not_mem_nil, or_false] at hq ⊢; rcases hq with q | q | q | q | q <;> simp [q]) hR

set_option maxHeartbeats 4000000 in
set_option maxRecDepth 100000 in
theorem law_bundle {p : Program} {l : Launch} {e : Env} {s : State} {m : MethodId} {below : List Frame} {meth : Method} {c : Code} {Q : State → Prop} {A : Nat → Prop} (hadm : ∀ e : Env, l.admits e → e.platform.stackTraces = false) (Z : qZ) (hZ : qok (pX Z)) (hA : ∀ q, qA (pX Z) q → A q) {b L : Nat} {xs : Nat → Int32} (C : Cx p s m #[Value.ref b] meth c (pX Z) 8 A b_W_law "PriceHouseLaw" QT) (hX : va_X b L xs s s.heap) (hbl : b < s.heap.size) (hbA : ¬ A b) (hL : L ≤ 2560) {cells slots n i : Nat} (hc : cells + 1 ≤ room_1.cells) (hs : slots + 6 ≤ room_1.slots) (hi : i + 5 ≤ L) (hn : n ≤ 512) (V : qV) (Y : qY) (h : Rel n V) (kk : ∀ (V' : qV) (Y' : qY) (lo' : List (Nat × Value)), (∀ q ∈ [(4, .int (nI i)), (3, .ref (al Z 45 0)), (2, .ref (al Z 20 0)), (1, .ref (al Z 0 0)), (0, .ref b)], q ∈ lo') → Rel (n + 1) V' → G p l e room_1 s m #[Value.ref b] below meth c Q (pX Z) 8 A V' Y' (cells + 1) (slots + 6) 1321 lo' []) : G p l e room_1 s m #[Value.ref b] below meth c Q (pX Z) 8 A V Y cells slots 196 [(4, .int (nI i)), (3, .ref (al Z 45 0)), (2, .ref (al Z 20 0)), (1, .ref (al Z 0 0)), (0, .ref b)] [] := by
  obtain ⟨k, V1, V2, Y1, hW, hM, hk, hR⟩ := op_bundle l hadm Z hZ V Y h (xs (i + 1)) (xs (i + 2)) (xs (i + 3)) (xs (i + 4))
  refine gq_aload_n C d_W_law_196 rfl ?_
  refine gq_aload_n C d_W_law_197 rfl ?_
  refine gq_iload C d_W_law_198 rfl ?_
  refine gq_iconst C (v := 1) d_W_law_200 (by decide) ?_
  refine gq_iadd C d_W_law_201 ?_
  refine gq_sld C (a := i + 1) hX hbl hbA hL (nI_add i 1) (by omega) d_W_law_202 ?_
  refine gq_aload_n C d_W_law_203 rfl ?_
  refine gq_iload C d_W_law_204 rfl ?_
  refine gq_iconst C (v := 2) d_W_law_206 (by decide) ?_
  refine gq_iadd C d_W_law_207 ?_
  refine gq_sld C (a := i + 2) hX hbl hbA hL (nI_add i 2) (by omega) d_W_law_208 ?_
  refine gq_aload_n C d_W_law_209 rfl ?_
  refine gq_iload C d_W_law_210 rfl ?_
  refine gq_iconst C (v := 3) d_W_law_212 (by decide) ?_
  refine gq_iadd C d_W_law_213 ?_
  refine gq_sld C (a := i + 3) hX hbl hbA hL (nI_add i 3) (by omega) d_W_law_214 ?_
  refine gq_aload_n C d_W_law_215 rfl ?_
  refine gq_iload C d_W_law_216 rfl ?_
  refine gq_iconst C (v := 4) d_W_law_218 (by decide) ?_
  refine gq_iadd C d_W_law_219 ?_
  refine gq_sld C (a := i + 4) hX hbl hbA hL (nI_add i 4) (by omega) d_W_law_220 ?_
  refine gq_callSW C (st := []) hA hW w_319 w_320 w_321 w_0 ⟨by decide, by decide, (by decide +kernel : (parseMethodDescriptor y_W_bundle.desc).map (fun d => d.parameters.length) = some 5)⟩ ⟨by decide, by decide⟩ ⟨hc, hs⟩ rfl (Nat.le_of_ble_eq_true rfl) d_W_law_221 ?_
  refine gq_istore C (lo' := [(5, .int k), (4, .int (nI i)), (3, .ref (al Z 45 0)), (2, .ref (al Z 20 0)), (1, .ref (al Z 0 0)), (0, .ref b)]) d_W_law_224 (by decide) rfl ?_
  refine gq_aload_n C d_W_law_226 rfl ?_
  refine gq_aload_n C d_W_law_227 rfl ?_
  refine gq_iload C d_W_law_228 rfl ?_
  refine gq_iconst C (v := 1) d_W_law_230 (by decide) ?_
  refine gq_iadd C d_W_law_231 ?_
  refine gq_sld C (a := i + 1) hX hbl hbA hL (nI_add i 1) (by omega) d_W_law_232 ?_
  refine gq_aload_n C d_W_law_233 rfl ?_
  refine gq_iload C d_W_law_234 rfl ?_
  refine gq_iconst C (v := 2) d_W_law_236 (by decide) ?_
  refine gq_iadd C d_W_law_237 ?_
  refine gq_sld C (a := i + 2) hX hbl hbA hL (nI_add i 2) (by omega) d_W_law_238 ?_
  refine gq_aload_n C d_W_law_239 rfl ?_
  refine gq_iload C d_W_law_240 rfl ?_
  refine gq_iconst C (v := 3) d_W_law_242 (by decide) ?_
  refine gq_iadd C d_W_law_243 ?_
  refine gq_sld C (a := i + 3) hX hbl hbA hL (nI_add i 3) (by omega) d_W_law_244 ?_
  refine gq_aload_n C d_W_law_245 rfl ?_
  refine gq_iload C d_W_law_246 rfl ?_
  refine gq_iconst C (v := 4) d_W_law_248 (by decide) ?_
  refine gq_iadd C d_W_law_249 ?_
  refine gq_sld C (a := i + 4) hX hbl hbA hL (nI_add i 4) (by omega) d_W_law_250 ?_
  refine gq_callV C (st := []) hA hM (qm (by decide) (by decide)) rfl rfl w_765 w_766 w_767 w_768 w_9 ⟨by decide, by decide, (by decide +kernel : (parseMethodDescriptor y_M_bundle.desc).map (fun d => d.parameters.length) = some 4)⟩ ⟨by decide, by decide⟩ ⟨hc, hs⟩ rfl (Nat.le_of_ble_eq_true rfl) d_W_law_251 ?_
  refine gq_aload_n C d_W_law_254 rfl ?_
  refine gq_callV C (st := []) (fun _ h => h.elim) (c_M_thrown l Z hZ V2 Y1) (qm (by decide) (by decide)) rfl rfl w_753 w_754 w_755 w_756 w_9 ⟨by decide, by decide, (by decide +kernel : (parseMethodDescriptor y_M_thrown.desc).map (fun d => d.parameters.length) = some 0)⟩ ⟨by decide, by decide⟩ ⟨hc, hs⟩ rfl (Nat.le_of_ble_eq_true rfl) d_W_law_255 ?_
  refine G.eqS (st' := [.int k]) (by first | (rw [show V2 20 0 0 = k from hk]; done) | (rw [show V2 20 0 0 = k from hk]; rfl)) ?_
  refine gq_iload C d_W_law_258 rfl ?_
  refine gq_icmp_eq C (tgt := 265) d_W_law_260 rfl (fun hb260 => ?_) (fun hb => by exact absurd rfl hb)
  refine gq_goto C (tgt := 1321) d_W_law_265 rfl ?_
  exact kk V2 Y1 _ (fun q hq => by simp only [List.mem_cons, List.not_mem_nil, or_false] at hq ⊢; rcases hq with q | q | q | q | q <;> simp [q]) hR

set_option maxHeartbeats 4000000 in
set_option maxRecDepth 100000 in
theorem law_publish {p : Program} {l : Launch} {e : Env} {s : State} {m : MethodId} {below : List Frame} {meth : Method} {c : Code} {Q : State → Prop} {A : Nat → Prop} (hadm : ∀ e : Env, l.admits e → e.platform.stackTraces = false) (Z : qZ) (hZ : qok (pX Z)) (hA : ∀ q, qA (pX Z) q → A q) {b L : Nat} {xs : Nat → Int32} (C : Cx p s m #[Value.ref b] meth c (pX Z) 8 A b_W_law "PriceHouseLaw" QT) (hX : va_X b L xs s s.heap) (hbl : b < s.heap.size) (hbA : ¬ A b) (hL : L ≤ 2560) {cells slots n i : Nat} (hc : cells + 1 ≤ room_1.cells) (hs : slots + 6 ≤ room_1.slots) (hi : i + 5 ≤ L) (hn : n ≤ 512) (V : qV) (Y : qY) (h : Rel n V) (kk : ∀ (V' : qV) (Y' : qY) (lo' : List (Nat × Value)), (∀ q ∈ [(4, .int (nI i)), (3, .ref (al Z 45 0)), (2, .ref (al Z 20 0)), (1, .ref (al Z 0 0)), (0, .ref b)], q ∈ lo') → Rel (n + 1) V' → G p l e room_1 s m #[Value.ref b] below meth c Q (pX Z) 8 A V' Y' (cells + 1) (slots + 6) 1321 lo' []) : G p l e room_1 s m #[Value.ref b] below meth c Q (pX Z) 8 A V Y cells slots 268 [(4, .int (nI i)), (3, .ref (al Z 45 0)), (2, .ref (al Z 20 0)), (1, .ref (al Z 0 0)), (0, .ref b)] [] := by
  obtain ⟨k, r, V1, V2, Y1, hW, hM, hk, hy, hR⟩ := op_publish l hadm Z hZ V Y h 
  refine gq_aload_n C d_W_law_268 rfl ?_
  refine gq_aload_n C d_W_law_269 rfl ?_
  refine gq_callSW C (st := []) hA hW w_332 w_333 w_334 w_0 ⟨by decide, by decide, (by decide +kernel : (parseMethodDescriptor y_W_publish.desc).map (fun d => d.parameters.length) = some 2)⟩ ⟨by decide, by decide⟩ ⟨hc, hs⟩ rfl (Nat.le_of_ble_eq_true rfl) d_W_law_270 ?_
  refine gq_istore C (lo' := [(5, .int k), (4, .int (nI i)), (3, .ref (al Z 45 0)), (2, .ref (al Z 20 0)), (1, .ref (al Z 0 0)), (0, .ref b)]) d_W_law_273 (by decide) rfl ?_
  refine gq_aload_n C d_W_law_275 rfl ?_
  refine gq_callV C (st := []) hA hM (qm (by decide) (by decide)) rfl rfl w_769 w_770 w_771 w_772 w_9 ⟨by decide, by decide, (by decide +kernel : (parseMethodDescriptor y_M_publish.desc).map (fun d => d.parameters.length) = some 0)⟩ ⟨by decide, by decide⟩ ⟨hc, hs⟩ rfl (Nat.le_of_ble_eq_true rfl) d_W_law_276 ?_
  refine gq_istore C (lo' := [(6, .int r), (5, .int k), (4, .int (nI i)), (3, .ref (al Z 45 0)), (2, .ref (al Z 20 0)), (1, .ref (al Z 0 0)), (0, .ref b)]) d_W_law_279 (by decide) rfl ?_
  refine gq_aload_n C d_W_law_281 rfl ?_
  refine gq_callV C (st := []) (fun _ h => h.elim) (c_M_thrown l Z hZ V2 Y1) (qm (by decide) (by decide)) rfl rfl w_753 w_754 w_755 w_756 w_9 ⟨by decide, by decide, (by decide +kernel : (parseMethodDescriptor y_M_thrown.desc).map (fun d => d.parameters.length) = some 0)⟩ ⟨by decide, by decide⟩ ⟨hc, hs⟩ rfl (Nat.le_of_ble_eq_true rfl) d_W_law_282 ?_
  refine G.eqS (st' := [.int k]) (by first | (rw [show V2 20 0 0 = k from hk]; done) | (rw [show V2 20 0 0 = k from hk]; rfl)) ?_
  refine gq_iload C d_W_law_285 rfl ?_
  refine gq_icmp_eq C (tgt := 292) d_W_law_287 rfl (fun hb287 => ?_) (fun hb => by exact absurd rfl hb)
  refine gq_iload C d_W_law_292 rfl ?_
  refine gq_if_ne C (tgt := 309) d_W_law_294 rfl (fun hb294 => ?_) (fun hb294 => ?_)
  · skip
    refine gq_goto C (tgt := 1321) d_W_law_309 rfl ?_
    exact kk V2 Y1 _ (fun q hq => by simp only [List.mem_cons, List.not_mem_nil, or_false] at hq ⊢; rcases hq with q | q | q | q | q <;> simp [q]) hR
  · skip
    refine gq_aload_n C d_W_law_297 rfl ?_
    refine gq_iconst C (v := 0) d_W_law_298 (by decide) ?_
    refine gq_lald C (g := 45) (j := 0) (a := 0) (t0 := 1) (qm (by decide) (by decide)) rfl rfl rfl (by decide) (by decide) d_W_law_299 ?_
    refine gq_iload C d_W_law_300 rfl ?_
    refine gq_i2l C d_W_law_302 ?_
    refine gq_lcmp C d_W_law_303 ?_
    refine gq_if_eq C (tgt := 309) d_W_law_304 rfl (fun hb304 => ?_) (fun hb => by exact absurd (lc0 (hy hb294)) hb)
    refine gq_goto C (tgt := 1321) d_W_law_309 rfl ?_
    exact kk V2 Y1 _ (fun q hq => by simp only [List.mem_cons, List.not_mem_nil, or_false] at hq ⊢; rcases hq with q | q | q | q | q <;> simp [q]) hR

set_option maxHeartbeats 4000000 in
set_option maxRecDepth 100000 in
theorem law_activate {p : Program} {l : Launch} {e : Env} {s : State} {m : MethodId} {below : List Frame} {meth : Method} {c : Code} {Q : State → Prop} {A : Nat → Prop} (hadm : ∀ e : Env, l.admits e → e.platform.stackTraces = false) (Z : qZ) (hZ : qok (pX Z)) (hA : ∀ q, qA (pX Z) q → A q) {b L : Nat} {xs : Nat → Int32} (C : Cx p s m #[Value.ref b] meth c (pX Z) 8 A b_W_law "PriceHouseLaw" QT) (hX : va_X b L xs s s.heap) (hbl : b < s.heap.size) (hbA : ¬ A b) (hL : L ≤ 2560) {cells slots n i : Nat} (hc : cells + 1 ≤ room_1.cells) (hs : slots + 6 ≤ room_1.slots) (hi : i + 5 ≤ L) (hn : n ≤ 512) (V : qV) (Y : qY) (h : Rel n V) (kk : ∀ (V' : qV) (Y' : qY) (lo' : List (Nat × Value)), (∀ q ∈ [(4, .int (nI i)), (3, .ref (al Z 45 0)), (2, .ref (al Z 20 0)), (1, .ref (al Z 0 0)), (0, .ref b)], q ∈ lo') → Rel (n + 1) V' → G p l e room_1 s m #[Value.ref b] below meth c Q (pX Z) 8 A V' Y' (cells + 1) (slots + 6) 1321 lo' []) : G p l e room_1 s m #[Value.ref b] below meth c Q (pX Z) 8 A V Y cells slots 312 [(4, .int (nI i)), (3, .ref (al Z 45 0)), (2, .ref (al Z 20 0)), (1, .ref (al Z 0 0)), (0, .ref b)] [] := by
  obtain ⟨k, V1, V2, Y1, hW, hM, hk, hR⟩ := op_activate l hadm Z hZ V Y hn h (xs (i + 1))
  refine gq_aload_n C d_W_law_312 rfl ?_
  refine gq_aload_n C d_W_law_313 rfl ?_
  refine gq_iload C d_W_law_314 rfl ?_
  refine gq_iconst C (v := 1) d_W_law_316 (by decide) ?_
  refine gq_iadd C d_W_law_317 ?_
  refine gq_sld C (a := i + 1) hX hbl hbA hL (nI_add i 1) (by omega) d_W_law_318 ?_
  refine gq_callSW C (st := []) hA hW w_370 w_371 w_372 w_0 ⟨by decide, by decide, (by decide +kernel : (parseMethodDescriptor y_W_activate.desc).map (fun d => d.parameters.length) = some 2)⟩ ⟨by decide, by decide⟩ ⟨hc, hs⟩ rfl (Nat.le_of_ble_eq_true rfl) d_W_law_319 ?_
  refine gq_istore C (lo' := [(5, .int k), (4, .int (nI i)), (3, .ref (al Z 45 0)), (2, .ref (al Z 20 0)), (1, .ref (al Z 0 0)), (0, .ref b)]) d_W_law_322 (by decide) rfl ?_
  refine gq_aload_n C d_W_law_324 rfl ?_
  refine gq_aload_n C d_W_law_325 rfl ?_
  refine gq_iload C d_W_law_326 rfl ?_
  refine gq_iconst C (v := 1) d_W_law_328 (by decide) ?_
  refine gq_iadd C d_W_law_329 ?_
  refine gq_sld C (a := i + 1) hX hbl hbA hL (nI_add i 1) (by omega) d_W_law_330 ?_
  refine gq_callV C (st := []) hA hM (qm (by decide) (by decide)) rfl rfl w_777 w_778 w_779 w_780 w_9 ⟨by decide, by decide, (by decide +kernel : (parseMethodDescriptor y_M_activate.desc).map (fun d => d.parameters.length) = some 1)⟩ ⟨by decide, by decide⟩ ⟨hc, hs⟩ rfl (Nat.le_of_ble_eq_true rfl) d_W_law_331 ?_
  refine gq_aload_n C d_W_law_334 rfl ?_
  refine gq_callV C (st := []) (fun _ h => h.elim) (c_M_thrown l Z hZ V2 Y1) (qm (by decide) (by decide)) rfl rfl w_753 w_754 w_755 w_756 w_9 ⟨by decide, by decide, (by decide +kernel : (parseMethodDescriptor y_M_thrown.desc).map (fun d => d.parameters.length) = some 0)⟩ ⟨by decide, by decide⟩ ⟨hc, hs⟩ rfl (Nat.le_of_ble_eq_true rfl) d_W_law_335 ?_
  refine G.eqS (st' := [.int k]) (by first | (rw [show V2 20 0 0 = k from hk]; done) | (rw [show V2 20 0 0 = k from hk]; rfl)) ?_
  refine gq_iload C d_W_law_338 rfl ?_
  refine gq_icmp_eq C (tgt := 345) d_W_law_340 rfl (fun hb340 => ?_) (fun hb => by exact absurd rfl hb)
  refine gq_goto C (tgt := 1321) d_W_law_345 rfl ?_
  exact kk V2 Y1 _ (fun q hq => by simp only [List.mem_cons, List.not_mem_nil, or_false] at hq ⊢; rcases hq with q | q | q | q | q <;> simp [q]) hR

set_option maxHeartbeats 4000000 in
set_option maxRecDepth 100000 in
theorem law_active {p : Program} {l : Launch} {e : Env} {s : State} {m : MethodId} {below : List Frame} {meth : Method} {c : Code} {Q : State → Prop} {A : Nat → Prop} (hadm : ∀ e : Env, l.admits e → e.platform.stackTraces = false) (Z : qZ) (hZ : qok (pX Z)) (hA : ∀ q, qA (pX Z) q → A q) {b L : Nat} {xs : Nat → Int32} (C : Cx p s m #[Value.ref b] meth c (pX Z) 8 A b_W_law "PriceHouseLaw" QT) (hX : va_X b L xs s s.heap) (hbl : b < s.heap.size) (hbA : ¬ A b) (hL : L ≤ 2560) {cells slots n i : Nat} (hc : cells + 1 ≤ room_1.cells) (hs : slots + 6 ≤ room_1.slots) (hi : i + 5 ≤ L) (hn : n ≤ 512) (V : qV) (Y : qY) (h : Rel n V) (kk : ∀ (V' : qV) (Y' : qY) (lo' : List (Nat × Value)), (∀ q ∈ [(4, .int (nI i)), (3, .ref (al Z 45 0)), (2, .ref (al Z 20 0)), (1, .ref (al Z 0 0)), (0, .ref b)], q ∈ lo') → Rel (n + 1) V' → G p l e room_1 s m #[Value.ref b] below meth c Q (pX Z) 8 A V' Y' (cells + 1) (slots + 6) 1321 lo' []) : G p l e room_1 s m #[Value.ref b] below meth c Q (pX Z) 8 A V Y cells slots 348 [(4, .int (nI i)), (3, .ref (al Z 45 0)), (2, .ref (al Z 20 0)), (1, .ref (al Z 0 0)), (0, .ref b)] [] := by
  obtain ⟨nb, nk, nl, h⟩ := h
  have e1 : V 9 0 2 = V 20 0 13 := h.2.2.2.2.2.1.1
  refine gq_aload_n C d_W_law_348 rfl ?_
  refine gq_callV C (st := []) (fun _ h => h.elim) (c_H_active l Z hZ V Y) (qm (by decide) (by decide)) rfl rfl w_232 w_233 w_234 w_235 w_1 ⟨by decide, by decide, (by decide +kernel : (parseMethodDescriptor y_H_active.desc).map (fun d => d.parameters.length) = some 0)⟩ ⟨by decide, by decide⟩ ⟨Nat.le_trans (Nat.le_succ _) hc, Nat.le_trans (Nat.le_add_right _ 6) hs⟩ rfl (Nat.le_of_ble_eq_true rfl) d_W_law_349 ?_
  refine gq_aload_n C d_W_law_352 rfl ?_
  refine gq_callV C (st := [.int (V 9 0 2)]) hA (c_M_active l Z hZ V Y) (qm (by decide) (by decide)) rfl rfl w_793 w_794 w_795 w_796 w_9 ⟨by decide, by decide, (by decide +kernel : (parseMethodDescriptor y_M_active.desc).map (fun d => d.parameters.length) = some 0)⟩ ⟨by decide, by decide⟩ ⟨Nat.le_trans (Nat.le_succ _) hc, Nat.le_trans (Nat.le_add_right _ 6) hs⟩ rfl (Nat.le_of_ble_eq_true rfl) d_W_law_353 ?_
  refine gq_icmp_eq C (tgt := 1321) d_W_law_356 rfl (fun hb356 => ?_) (fun hb => by exact absurd e1 hb)
  refine G.wide (k := cells + 1) (n := slots + 6) (Nat.le_succ _) (Nat.le_add_right _ _) ?_
  exact kk _ _ _ (fun q hq => hq) (Rel.thrown h 0)

set_option maxHeartbeats 4000000 in
set_option maxRecDepth 100000 in
theorem law_tick {p : Program} {l : Launch} {e : Env} {s : State} {m : MethodId} {below : List Frame} {meth : Method} {c : Code} {Q : State → Prop} {A : Nat → Prop} (hadm : ∀ e : Env, l.admits e → e.platform.stackTraces = false) (Z : qZ) (hZ : qok (pX Z)) (hA : ∀ q, qA (pX Z) q → A q) {b L : Nat} {xs : Nat → Int32} (C : Cx p s m #[Value.ref b] meth c (pX Z) 8 A b_W_law "PriceHouseLaw" QT) (hX : va_X b L xs s s.heap) (hbl : b < s.heap.size) (hbA : ¬ A b) (hL : L ≤ 2560) {cells slots n i : Nat} (hc : cells + 1 ≤ room_1.cells) (hs : slots + 6 ≤ room_1.slots) (hi : i + 5 ≤ L) (hn : n ≤ 512) (V : qV) (Y : qY) (h : Rel n V) (kk : ∀ (V' : qV) (Y' : qY) (lo' : List (Nat × Value)), (∀ q ∈ [(4, .int (nI i)), (3, .ref (al Z 45 0)), (2, .ref (al Z 20 0)), (1, .ref (al Z 0 0)), (0, .ref b)], q ∈ lo') → Rel (n + 1) V' → G p l e room_1 s m #[Value.ref b] below meth c Q (pX Z) 8 A V' Y' (cells + 1) (slots + 6) 1321 lo' []) : G p l e room_1 s m #[Value.ref b] below meth c Q (pX Z) 8 A V Y cells slots 361 [(4, .int (nI i)), (3, .ref (al Z 45 0)), (2, .ref (al Z 20 0)), (1, .ref (al Z 0 0)), (0, .ref b)] [] := by
  obtain ⟨k, r, V1, V2, Y1, hW, hM, hk, hy, hR⟩ := op_tick l hadm Z hZ V Y hn h (xs (i + 1))
  refine gq_aload_n C d_W_law_361 rfl ?_
  refine gq_aload_n C d_W_law_362 rfl ?_
  refine gq_iload C d_W_law_363 rfl ?_
  refine gq_iconst C (v := 1) d_W_law_365 (by decide) ?_
  refine gq_iadd C d_W_law_366 ?_
  refine gq_sld C (a := i + 1) hX hbl hbA hL (nI_add i 1) (by omega) d_W_law_367 ?_
  refine gq_aload_n C d_W_law_368 rfl ?_
  refine gq_callSW C (st := []) hA hW w_397 w_398 w_399 w_0 ⟨by decide, by decide, (by decide +kernel : (parseMethodDescriptor y_W_tick.desc).map (fun d => d.parameters.length) = some 3)⟩ ⟨by decide, by decide⟩ ⟨hc, hs⟩ rfl (Nat.le_of_ble_eq_true rfl) d_W_law_369 ?_
  refine gq_istore C (lo' := [(5, .int k), (4, .int (nI i)), (3, .ref (al Z 45 0)), (2, .ref (al Z 20 0)), (1, .ref (al Z 0 0)), (0, .ref b)]) d_W_law_372 (by decide) rfl ?_
  refine gq_aload_n C d_W_law_374 rfl ?_
  refine gq_aload_n C d_W_law_375 rfl ?_
  refine gq_iload C d_W_law_376 rfl ?_
  refine gq_iconst C (v := 1) d_W_law_378 (by decide) ?_
  refine gq_iadd C d_W_law_379 ?_
  refine gq_sld C (a := i + 1) hX hbl hbA hL (nI_add i 1) (by omega) d_W_law_380 ?_
  refine gq_callV C (st := []) hA hM (qm (by decide) (by decide)) rfl rfl w_797 w_798 w_799 w_800 w_9 ⟨by decide, by decide, (by decide +kernel : (parseMethodDescriptor y_M_tick.desc).map (fun d => d.parameters.length) = some 1)⟩ ⟨by decide, by decide⟩ ⟨hc, hs⟩ rfl (Nat.le_of_ble_eq_true rfl) d_W_law_381 ?_
  refine gq_istore C (lo' := [(6, .int r), (5, .int k), (4, .int (nI i)), (3, .ref (al Z 45 0)), (2, .ref (al Z 20 0)), (1, .ref (al Z 0 0)), (0, .ref b)]) d_W_law_384 (by decide) rfl ?_
  refine gq_aload_n C d_W_law_386 rfl ?_
  refine gq_callV C (st := []) (fun _ h => h.elim) (c_M_thrown l Z hZ V2 Y1) (qm (by decide) (by decide)) rfl rfl w_753 w_754 w_755 w_756 w_9 ⟨by decide, by decide, (by decide +kernel : (parseMethodDescriptor y_M_thrown.desc).map (fun d => d.parameters.length) = some 0)⟩ ⟨by decide, by decide⟩ ⟨hc, hs⟩ rfl (Nat.le_of_ble_eq_true rfl) d_W_law_387 ?_
  refine G.eqS (st' := [.int k]) (by first | (rw [show V2 20 0 0 = k from hk]; done) | (rw [show V2 20 0 0 = k from hk]; rfl)) ?_
  refine gq_iload C d_W_law_390 rfl ?_
  refine gq_icmp_eq C (tgt := 397) d_W_law_392 rfl (fun hb392 => ?_) (fun hb => by exact absurd rfl hb)
  refine gq_iload C d_W_law_397 rfl ?_
  refine gq_if_ne C (tgt := 414) d_W_law_399 rfl (fun hb399 => ?_) (fun hb399 => ?_)
  · skip
    refine gq_goto C (tgt := 1321) d_W_law_414 rfl ?_
    exact kk V2 Y1 _ (fun q hq => by simp only [List.mem_cons, List.not_mem_nil, or_false] at hq ⊢; rcases hq with q | q | q | q | q <;> simp [q]) hR
  · skip
    refine gq_aload_n C d_W_law_402 rfl ?_
    refine gq_iconst C (v := 0) d_W_law_403 (by decide) ?_
    refine gq_lald C (g := 45) (j := 0) (a := 0) (t0 := 1) (qm (by decide) (by decide)) rfl rfl rfl (by decide) (by decide) d_W_law_404 ?_
    refine gq_iload C d_W_law_405 rfl ?_
    refine gq_i2l C d_W_law_407 ?_
    refine gq_lcmp C d_W_law_408 ?_
    refine gq_if_eq C (tgt := 414) d_W_law_409 rfl (fun hb409 => ?_) (fun hb => by exact absurd (lc0 (hy hb399)) hb)
    refine gq_goto C (tgt := 1321) d_W_law_414 rfl ?_
    exact kk V2 Y1 _ (fun q hq => by simp only [List.mem_cons, List.not_mem_nil, or_false] at hq ⊢; rcases hq with q | q | q | q | q <;> simp [q]) hR

set_option maxHeartbeats 4000000 in
set_option maxRecDepth 100000 in
theorem law_rate {p : Program} {l : Launch} {e : Env} {s : State} {m : MethodId} {below : List Frame} {meth : Method} {c : Code} {Q : State → Prop} {A : Nat → Prop} (hadm : ∀ e : Env, l.admits e → e.platform.stackTraces = false) (Z : qZ) (hZ : qok (pX Z)) (hA : ∀ q, qA (pX Z) q → A q) {b L : Nat} {xs : Nat → Int32} (C : Cx p s m #[Value.ref b] meth c (pX Z) 8 A b_W_law "PriceHouseLaw" QT) (hX : va_X b L xs s s.heap) (hbl : b < s.heap.size) (hbA : ¬ A b) (hL : L ≤ 2560) {cells slots n i : Nat} (hc : cells + 1 ≤ room_1.cells) (hs : slots + 6 ≤ room_1.slots) (hi : i + 5 ≤ L) (hn : n ≤ 512) (V : qV) (Y : qY) (h : Rel n V) (kk : ∀ (V' : qV) (Y' : qY) (lo' : List (Nat × Value)), (∀ q ∈ [(4, .int (nI i)), (3, .ref (al Z 45 0)), (2, .ref (al Z 20 0)), (1, .ref (al Z 0 0)), (0, .ref b)], q ∈ lo') → Rel (n + 1) V' → G p l e room_1 s m #[Value.ref b] below meth c Q (pX Z) 8 A V' Y' (cells + 1) (slots + 6) 1321 lo' []) : G p l e room_1 s m #[Value.ref b] below meth c Q (pX Z) 8 A V Y cells slots 417 [(4, .int (nI i)), (3, .ref (al Z 45 0)), (2, .ref (al Z 20 0)), (1, .ref (al Z 0 0)), (0, .ref b)] [] := by
  obtain ⟨k, V1, V2, Y1, hW, hM, hk, hR⟩ := op_rate l hadm Z hZ V Y h (xs (i + 1)) (xs (i + 2))
  refine gq_aload_n C d_W_law_417 rfl ?_
  refine gq_aload_n C d_W_law_418 rfl ?_
  refine gq_iload C d_W_law_419 rfl ?_
  refine gq_iconst C (v := 1) d_W_law_421 (by decide) ?_
  refine gq_iadd C d_W_law_422 ?_
  refine gq_sld C (a := i + 1) hX hbl hbA hL (nI_add i 1) (by omega) d_W_law_423 ?_
  refine gq_aload_n C d_W_law_424 rfl ?_
  refine gq_iload C d_W_law_425 rfl ?_
  refine gq_iconst C (v := 2) d_W_law_427 (by decide) ?_
  refine gq_iadd C d_W_law_428 ?_
  refine gq_sld C (a := i + 2) hX hbl hbA hL (nI_add i 2) (by omega) d_W_law_429 ?_
  refine gq_callSW C (st := []) hA hW w_409 w_410 w_411 w_0 ⟨by decide, by decide, (by decide +kernel : (parseMethodDescriptor y_W_rate.desc).map (fun d => d.parameters.length) = some 3)⟩ ⟨by decide, by decide⟩ ⟨hc, hs⟩ rfl (Nat.le_of_ble_eq_true rfl) d_W_law_430 ?_
  refine gq_istore C (lo' := [(5, .int k), (4, .int (nI i)), (3, .ref (al Z 45 0)), (2, .ref (al Z 20 0)), (1, .ref (al Z 0 0)), (0, .ref b)]) d_W_law_433 (by decide) rfl ?_
  refine gq_aload_n C d_W_law_435 rfl ?_
  refine gq_aload_n C d_W_law_436 rfl ?_
  refine gq_iload C d_W_law_437 rfl ?_
  refine gq_iconst C (v := 1) d_W_law_439 (by decide) ?_
  refine gq_iadd C d_W_law_440 ?_
  refine gq_sld C (a := i + 1) hX hbl hbA hL (nI_add i 1) (by omega) d_W_law_441 ?_
  refine gq_aload_n C d_W_law_442 rfl ?_
  refine gq_iload C d_W_law_443 rfl ?_
  refine gq_iconst C (v := 2) d_W_law_445 (by decide) ?_
  refine gq_iadd C d_W_law_446 ?_
  refine gq_sld C (a := i + 2) hX hbl hbA hL (nI_add i 2) (by omega) d_W_law_447 ?_
  refine gq_callV C (st := []) hA hM (qm (by decide) (by decide)) rfl rfl w_801 w_802 w_803 w_804 w_9 ⟨by decide, by decide, (by decide +kernel : (parseMethodDescriptor y_M_rate.desc).map (fun d => d.parameters.length) = some 2)⟩ ⟨by decide, by decide⟩ ⟨hc, hs⟩ rfl (Nat.le_of_ble_eq_true rfl) d_W_law_448 ?_
  refine gq_aload_n C d_W_law_451 rfl ?_
  refine gq_callV C (st := []) (fun _ h => h.elim) (c_M_thrown l Z hZ V2 Y1) (qm (by decide) (by decide)) rfl rfl w_753 w_754 w_755 w_756 w_9 ⟨by decide, by decide, (by decide +kernel : (parseMethodDescriptor y_M_thrown.desc).map (fun d => d.parameters.length) = some 0)⟩ ⟨by decide, by decide⟩ ⟨hc, hs⟩ rfl (Nat.le_of_ble_eq_true rfl) d_W_law_452 ?_
  refine G.eqS (st' := [.int k]) (by first | (rw [show V2 20 0 0 = k from hk]; done) | (rw [show V2 20 0 0 = k from hk]; rfl)) ?_
  refine gq_iload C d_W_law_455 rfl ?_
  refine gq_icmp_eq C (tgt := 462) d_W_law_457 rfl (fun hb457 => ?_) (fun hb => by exact absurd rfl hb)
  refine gq_goto C (tgt := 1321) d_W_law_462 rfl ?_
  exact kk V2 Y1 _ (fun q hq => by simp only [List.mem_cons, List.not_mem_nil, or_false] at hq ⊢; rcases hq with q | q | q | q | q <;> simp [q]) hR

set_option maxHeartbeats 4000000 in
set_option maxRecDepth 100000 in
theorem law_fetch {p : Program} {l : Launch} {e : Env} {s : State} {m : MethodId} {below : List Frame} {meth : Method} {c : Code} {Q : State → Prop} {A : Nat → Prop} (hadm : ∀ e : Env, l.admits e → e.platform.stackTraces = false) (Z : qZ) (hZ : qok (pX Z)) (hA : ∀ q, qA (pX Z) q → A q) {b L : Nat} {xs : Nat → Int32} (C : Cx p s m #[Value.ref b] meth c (pX Z) 8 A b_W_law "PriceHouseLaw" QT) (hX : va_X b L xs s s.heap) (hbl : b < s.heap.size) (hbA : ¬ A b) (hL : L ≤ 2560) {cells slots n i : Nat} (hc : cells + 1 ≤ room_1.cells) (hs : slots + 6 ≤ room_1.slots) (hi : i + 5 ≤ L) (hn : n ≤ 512) (V : qV) (Y : qY) (h : Rel n V) (kk : ∀ (V' : qV) (Y' : qY) (lo' : List (Nat × Value)), (∀ q ∈ [(4, .int (nI i)), (3, .ref (al Z 45 0)), (2, .ref (al Z 20 0)), (1, .ref (al Z 0 0)), (0, .ref b)], q ∈ lo') → Rel (n + 1) V' → G p l e room_1 s m #[Value.ref b] below meth c Q (pX Z) 8 A V' Y' (cells + 1) (slots + 6) 1321 lo' []) : G p l e room_1 s m #[Value.ref b] below meth c Q (pX Z) 8 A V Y cells slots 465 [(4, .int (nI i)), (3, .ref (al Z 45 0)), (2, .ref (al Z 20 0)), (1, .ref (al Z 0 0)), (0, .ref b)] [] := by
  obtain ⟨k, r, V1, V2, Y1, hW, hM, hk, hy, hR⟩ := op_fetch l hadm Z hZ V Y h (xs (i + 1))
  refine gq_aload_n C d_W_law_465 rfl ?_
  refine gq_aload_n C d_W_law_466 rfl ?_
  refine gq_iload C d_W_law_467 rfl ?_
  refine gq_iconst C (v := 1) d_W_law_469 (by decide) ?_
  refine gq_iadd C d_W_law_470 ?_
  refine gq_sld C (a := i + 1) hX hbl hbA hL (nI_add i 1) (by omega) d_W_law_471 ?_
  refine gq_aload_n C d_W_law_472 rfl ?_
  refine gq_callSW C (st := []) hA hW w_419 w_420 w_421 w_0 ⟨by decide, by decide, (by decide +kernel : (parseMethodDescriptor y_W_fetch.desc).map (fun d => d.parameters.length) = some 3)⟩ ⟨by decide, by decide⟩ ⟨hc, hs⟩ rfl (Nat.le_of_ble_eq_true rfl) d_W_law_473 ?_
  refine gq_istore C (lo' := [(5, .int k), (4, .int (nI i)), (3, .ref (al Z 45 0)), (2, .ref (al Z 20 0)), (1, .ref (al Z 0 0)), (0, .ref b)]) d_W_law_476 (by decide) rfl ?_
  refine gq_aload_n C d_W_law_478 rfl ?_
  refine gq_aload_n C d_W_law_479 rfl ?_
  refine gq_iload C d_W_law_480 rfl ?_
  refine gq_iconst C (v := 1) d_W_law_482 (by decide) ?_
  refine gq_iadd C d_W_law_483 ?_
  refine gq_sld C (a := i + 1) hX hbl hbA hL (nI_add i 1) (by omega) d_W_law_484 ?_
  refine gq_callV C (st := []) hA hM (qm (by decide) (by decide)) rfl rfl w_805 w_806 w_807 w_808 w_9 ⟨by decide, by decide, (by decide +kernel : (parseMethodDescriptor y_M_fetch.desc).map (fun d => d.parameters.length) = some 1)⟩ ⟨by decide, by decide⟩ ⟨hc, hs⟩ rfl (Nat.le_of_ble_eq_true rfl) d_W_law_485 ?_
  refine gq_istore C (lo' := [(6, .int r), (5, .int k), (4, .int (nI i)), (3, .ref (al Z 45 0)), (2, .ref (al Z 20 0)), (1, .ref (al Z 0 0)), (0, .ref b)]) d_W_law_488 (by decide) rfl ?_
  refine gq_aload_n C d_W_law_490 rfl ?_
  refine gq_callV C (st := []) (fun _ h => h.elim) (c_M_thrown l Z hZ V2 Y1) (qm (by decide) (by decide)) rfl rfl w_753 w_754 w_755 w_756 w_9 ⟨by decide, by decide, (by decide +kernel : (parseMethodDescriptor y_M_thrown.desc).map (fun d => d.parameters.length) = some 0)⟩ ⟨by decide, by decide⟩ ⟨hc, hs⟩ rfl (Nat.le_of_ble_eq_true rfl) d_W_law_491 ?_
  refine G.eqS (st' := [.int k]) (by first | (rw [show V2 20 0 0 = k from hk]; done) | (rw [show V2 20 0 0 = k from hk]; rfl)) ?_
  refine gq_iload C d_W_law_494 rfl ?_
  refine gq_icmp_eq C (tgt := 501) d_W_law_496 rfl (fun hb496 => ?_) (fun hb => by exact absurd rfl hb)
  refine gq_iload C d_W_law_501 rfl ?_
  refine gq_if_ne C (tgt := 518) d_W_law_503 rfl (fun hb503 => ?_) (fun hb503 => ?_)
  · skip
    refine gq_goto C (tgt := 1321) d_W_law_518 rfl ?_
    exact kk V2 Y1 _ (fun q hq => by simp only [List.mem_cons, List.not_mem_nil, or_false] at hq ⊢; rcases hq with q | q | q | q | q <;> simp [q]) hR
  · skip
    refine gq_aload_n C d_W_law_506 rfl ?_
    refine gq_iconst C (v := 0) d_W_law_507 (by decide) ?_
    refine gq_lald C (g := 45) (j := 0) (a := 0) (t0 := 1) (qm (by decide) (by decide)) rfl rfl rfl (by decide) (by decide) d_W_law_508 ?_
    refine gq_iload C d_W_law_509 rfl ?_
    refine gq_i2l C d_W_law_511 ?_
    refine gq_lcmp C d_W_law_512 ?_
    refine gq_if_eq C (tgt := 518) d_W_law_513 rfl (fun hb513 => ?_) (fun hb => by exact absurd (lc0 (hy hb503)) hb)
    refine gq_goto C (tgt := 1321) d_W_law_518 rfl ?_
    exact kk V2 Y1 _ (fun q hq => by simp only [List.mem_cons, List.not_mem_nil, or_false] at hq ⊢; rcases hq with q | q | q | q | q <;> simp [q]) hR

set_option maxHeartbeats 4000000 in
set_option maxRecDepth 100000 in
theorem law_ready {p : Program} {l : Launch} {e : Env} {s : State} {m : MethodId} {below : List Frame} {meth : Method} {c : Code} {Q : State → Prop} {A : Nat → Prop} (hadm : ∀ e : Env, l.admits e → e.platform.stackTraces = false) (Z : qZ) (hZ : qok (pX Z)) (hA : ∀ q, qA (pX Z) q → A q) {b L : Nat} {xs : Nat → Int32} (C : Cx p s m #[Value.ref b] meth c (pX Z) 8 A b_W_law "PriceHouseLaw" QT) (hX : va_X b L xs s s.heap) (hbl : b < s.heap.size) (hbA : ¬ A b) (hL : L ≤ 2560) {cells slots n i : Nat} (hc : cells + 1 ≤ room_1.cells) (hs : slots + 6 ≤ room_1.slots) (hi : i + 5 ≤ L) (hn : n ≤ 512) (V : qV) (Y : qY) (h : Rel n V) (kk : ∀ (V' : qV) (Y' : qY) (lo' : List (Nat × Value)), (∀ q ∈ [(4, .int (nI i)), (3, .ref (al Z 45 0)), (2, .ref (al Z 20 0)), (1, .ref (al Z 0 0)), (0, .ref b)], q ∈ lo') → Rel (n + 1) V' → G p l e room_1 s m #[Value.ref b] below meth c Q (pX Z) 8 A V' Y' (cells + 1) (slots + 6) 1321 lo' []) : G p l e room_1 s m #[Value.ref b] below meth c Q (pX Z) 8 A V Y cells slots 521 [(4, .int (nI i)), (3, .ref (al Z 45 0)), (2, .ref (al Z 20 0)), (1, .ref (al Z 0 0)), (0, .ref b)] [] := by
  obtain ⟨k, r, V1, V2, Y1, hW, hM, hk, hy, hR⟩ := op_ready l hadm Z hZ V Y h (xs (i + 1))
  refine gq_aload_n C d_W_law_521 rfl ?_
  refine gq_aload_n C d_W_law_522 rfl ?_
  refine gq_iload C d_W_law_523 rfl ?_
  refine gq_iconst C (v := 1) d_W_law_525 (by decide) ?_
  refine gq_iadd C d_W_law_526 ?_
  refine gq_sld C (a := i + 1) hX hbl hbA hL (nI_add i 1) (by omega) d_W_law_527 ?_
  refine gq_aload_n C d_W_law_528 rfl ?_
  refine gq_callSW C (st := []) hA hW w_429 w_430 w_431 w_0 ⟨by decide, by decide, (by decide +kernel : (parseMethodDescriptor y_W_ready.desc).map (fun d => d.parameters.length) = some 3)⟩ ⟨by decide, by decide⟩ ⟨hc, hs⟩ rfl (Nat.le_of_ble_eq_true rfl) d_W_law_529 ?_
  refine gq_istore C (lo' := [(5, .int k), (4, .int (nI i)), (3, .ref (al Z 45 0)), (2, .ref (al Z 20 0)), (1, .ref (al Z 0 0)), (0, .ref b)]) d_W_law_532 (by decide) rfl ?_
  refine gq_aload_n C d_W_law_534 rfl ?_
  refine gq_aload_n C d_W_law_535 rfl ?_
  refine gq_iload C d_W_law_536 rfl ?_
  refine gq_iconst C (v := 1) d_W_law_538 (by decide) ?_
  refine gq_iadd C d_W_law_539 ?_
  refine gq_sld C (a := i + 1) hX hbl hbA hL (nI_add i 1) (by omega) d_W_law_540 ?_
  refine gq_callV C (st := []) hA hM (qm (by decide) (by decide)) rfl rfl w_809 w_810 w_811 w_812 w_9 ⟨by decide, by decide, (by decide +kernel : (parseMethodDescriptor y_M_ready.desc).map (fun d => d.parameters.length) = some 1)⟩ ⟨by decide, by decide⟩ ⟨hc, hs⟩ rfl (Nat.le_of_ble_eq_true rfl) d_W_law_541 ?_
  refine gq_istore C (lo' := [(6, .int r), (5, .int k), (4, .int (nI i)), (3, .ref (al Z 45 0)), (2, .ref (al Z 20 0)), (1, .ref (al Z 0 0)), (0, .ref b)]) d_W_law_544 (by decide) rfl ?_
  refine gq_aload_n C d_W_law_546 rfl ?_
  refine gq_callV C (st := []) (fun _ h => h.elim) (c_M_thrown l Z hZ V2 Y1) (qm (by decide) (by decide)) rfl rfl w_753 w_754 w_755 w_756 w_9 ⟨by decide, by decide, (by decide +kernel : (parseMethodDescriptor y_M_thrown.desc).map (fun d => d.parameters.length) = some 0)⟩ ⟨by decide, by decide⟩ ⟨hc, hs⟩ rfl (Nat.le_of_ble_eq_true rfl) d_W_law_547 ?_
  refine G.eqS (st' := [.int k]) (by first | (rw [show V2 20 0 0 = k from hk]; done) | (rw [show V2 20 0 0 = k from hk]; rfl)) ?_
  refine gq_iload C d_W_law_550 rfl ?_
  refine gq_icmp_eq C (tgt := 557) d_W_law_552 rfl (fun hb552 => ?_) (fun hb => by exact absurd rfl hb)
  refine gq_iload C d_W_law_557 rfl ?_
  refine gq_if_ne C (tgt := 574) d_W_law_559 rfl (fun hb559 => ?_) (fun hb559 => ?_)
  · skip
    refine gq_goto C (tgt := 1321) d_W_law_574 rfl ?_
    exact kk V2 Y1 _ (fun q hq => by simp only [List.mem_cons, List.not_mem_nil, or_false] at hq ⊢; rcases hq with q | q | q | q | q <;> simp [q]) hR
  · skip
    refine gq_aload_n C d_W_law_562 rfl ?_
    refine gq_iconst C (v := 0) d_W_law_563 (by decide) ?_
    refine gq_lald C (g := 45) (j := 0) (a := 0) (t0 := 1) (qm (by decide) (by decide)) rfl rfl rfl (by decide) (by decide) d_W_law_564 ?_
    refine gq_iload C d_W_law_565 rfl ?_
    refine gq_i2l C d_W_law_567 ?_
    refine gq_lcmp C d_W_law_568 ?_
    refine gq_if_eq C (tgt := 574) d_W_law_569 rfl (fun hb569 => ?_) (fun hb => by exact absurd (lc0 (hy hb559)) hb)
    refine gq_goto C (tgt := 1321) d_W_law_574 rfl ?_
    exact kk V2 Y1 _ (fun q hq => by simp only [List.mem_cons, List.not_mem_nil, or_false] at hq ⊢; rcases hq with q | q | q | q | q <;> simp [q]) hR

set_option maxHeartbeats 4000000 in
set_option maxRecDepth 100000 in
theorem law_ask {p : Program} {l : Launch} {e : Env} {s : State} {m : MethodId} {below : List Frame} {meth : Method} {c : Code} {Q : State → Prop} {A : Nat → Prop} (hadm : ∀ e : Env, l.admits e → e.platform.stackTraces = false) (Z : qZ) (hZ : qok (pX Z)) (hA : ∀ q, qA (pX Z) q → A q) {b L : Nat} {xs : Nat → Int32} (C : Cx p s m #[Value.ref b] meth c (pX Z) 8 A b_W_law "PriceHouseLaw" QT) (hX : va_X b L xs s s.heap) (hbl : b < s.heap.size) (hbA : ¬ A b) (hL : L ≤ 2560) {cells slots n i : Nat} (hc : cells + 1 ≤ room_1.cells) (hs : slots + 6 ≤ room_1.slots) (hi : i + 5 ≤ L) (hn : n ≤ 512) (V : qV) (Y : qY) (h : Rel n V) (kk : ∀ (V' : qV) (Y' : qY) (lo' : List (Nat × Value)), (∀ q ∈ [(4, .int (nI i)), (3, .ref (al Z 45 0)), (2, .ref (al Z 20 0)), (1, .ref (al Z 0 0)), (0, .ref b)], q ∈ lo') → Rel (n + 1) V' → G p l e room_1 s m #[Value.ref b] below meth c Q (pX Z) 8 A V' Y' (cells + 1) (slots + 6) 1321 lo' []) : G p l e room_1 s m #[Value.ref b] below meth c Q (pX Z) 8 A V Y cells slots 577 [(4, .int (nI i)), (3, .ref (al Z 45 0)), (2, .ref (al Z 20 0)), (1, .ref (al Z 0 0)), (0, .ref b)] [] := by
  obtain ⟨k, r, V1, V2, Y1, hW, hM, hk, hy, hR⟩ := op_ask l hadm Z hZ V Y hn h (xs (i + 1))
  refine gq_aload_n C d_W_law_577 rfl ?_
  refine gq_aload_n C d_W_law_578 rfl ?_
  refine gq_iload C d_W_law_579 rfl ?_
  refine gq_iconst C (v := 1) d_W_law_581 (by decide) ?_
  refine gq_iadd C d_W_law_582 ?_
  refine gq_sld C (a := i + 1) hX hbl hbA hL (nI_add i 1) (by omega) d_W_law_583 ?_
  refine gq_aload_n C d_W_law_584 rfl ?_
  refine gq_callSW C (st := []) hA hW w_436 w_437 w_438 w_0 ⟨by decide, by decide, (by decide +kernel : (parseMethodDescriptor y_W_ask.desc).map (fun d => d.parameters.length) = some 3)⟩ ⟨by decide, by decide⟩ ⟨hc, hs⟩ rfl (Nat.le_of_ble_eq_true rfl) d_W_law_585 ?_
  refine gq_istore C (lo' := [(5, .int k), (4, .int (nI i)), (3, .ref (al Z 45 0)), (2, .ref (al Z 20 0)), (1, .ref (al Z 0 0)), (0, .ref b)]) d_W_law_588 (by decide) rfl ?_
  refine gq_aload_n C d_W_law_590 rfl ?_
  refine gq_aload_n C d_W_law_591 rfl ?_
  refine gq_iload C d_W_law_592 rfl ?_
  refine gq_iconst C (v := 1) d_W_law_594 (by decide) ?_
  refine gq_iadd C d_W_law_595 ?_
  refine gq_sld C (a := i + 1) hX hbl hbA hL (nI_add i 1) (by omega) d_W_law_596 ?_
  refine gq_callV C (st := []) hA hM (qm (by decide) (by decide)) rfl rfl w_813 w_814 w_815 w_816 w_9 ⟨by decide, by decide, (by decide +kernel : (parseMethodDescriptor y_M_ask.desc).map (fun d => d.parameters.length) = some 1)⟩ ⟨by decide, by decide⟩ ⟨hc, hs⟩ rfl (Nat.le_of_ble_eq_true rfl) d_W_law_597 ?_
  refine gq_istore C (lo' := [(6, .int r), (5, .int k), (4, .int (nI i)), (3, .ref (al Z 45 0)), (2, .ref (al Z 20 0)), (1, .ref (al Z 0 0)), (0, .ref b)]) d_W_law_600 (by decide) rfl ?_
  refine gq_aload_n C d_W_law_602 rfl ?_
  refine gq_callV C (st := []) (fun _ h => h.elim) (c_M_thrown l Z hZ V2 Y1) (qm (by decide) (by decide)) rfl rfl w_753 w_754 w_755 w_756 w_9 ⟨by decide, by decide, (by decide +kernel : (parseMethodDescriptor y_M_thrown.desc).map (fun d => d.parameters.length) = some 0)⟩ ⟨by decide, by decide⟩ ⟨hc, hs⟩ rfl (Nat.le_of_ble_eq_true rfl) d_W_law_603 ?_
  refine G.eqS (st' := [.int k]) (by first | (rw [show V2 20 0 0 = k from hk]; done) | (rw [show V2 20 0 0 = k from hk]; rfl)) ?_
  refine gq_iload C d_W_law_606 rfl ?_
  refine gq_icmp_eq C (tgt := 613) d_W_law_608 rfl (fun hb608 => ?_) (fun hb => by exact absurd rfl hb)
  refine gq_iload C d_W_law_613 rfl ?_
  refine gq_if_ne C (tgt := 630) d_W_law_615 rfl (fun hb615 => ?_) (fun hb615 => ?_)
  · skip
    refine gq_goto C (tgt := 1321) d_W_law_630 rfl ?_
    exact kk V2 Y1 _ (fun q hq => by simp only [List.mem_cons, List.not_mem_nil, or_false] at hq ⊢; rcases hq with q | q | q | q | q <;> simp [q]) hR
  · skip
    refine gq_aload_n C d_W_law_618 rfl ?_
    refine gq_iconst C (v := 0) d_W_law_619 (by decide) ?_
    refine gq_lald C (g := 45) (j := 0) (a := 0) (t0 := 1) (qm (by decide) (by decide)) rfl rfl rfl (by decide) (by decide) d_W_law_620 ?_
    refine gq_iload C d_W_law_621 rfl ?_
    refine gq_i2l C d_W_law_623 ?_
    refine gq_lcmp C d_W_law_624 ?_
    refine gq_if_eq C (tgt := 630) d_W_law_625 rfl (fun hb625 => ?_) (fun hb => by exact absurd (lc0 (hy hb615)) hb)
    refine gq_goto C (tgt := 1321) d_W_law_630 rfl ?_
    exact kk V2 Y1 _ (fun q hq => by simp only [List.mem_cons, List.not_mem_nil, or_false] at hq ⊢; rcases hq with q | q | q | q | q <;> simp [q]) hR

set_option maxHeartbeats 4000000 in
set_option maxRecDepth 100000 in
theorem law_giveUp {p : Program} {l : Launch} {e : Env} {s : State} {m : MethodId} {below : List Frame} {meth : Method} {c : Code} {Q : State → Prop} {A : Nat → Prop} (hadm : ∀ e : Env, l.admits e → e.platform.stackTraces = false) (Z : qZ) (hZ : qok (pX Z)) (hA : ∀ q, qA (pX Z) q → A q) {b L : Nat} {xs : Nat → Int32} (C : Cx p s m #[Value.ref b] meth c (pX Z) 8 A b_W_law "PriceHouseLaw" QT) (hX : va_X b L xs s s.heap) (hbl : b < s.heap.size) (hbA : ¬ A b) (hL : L ≤ 2560) {cells slots n i : Nat} (hc : cells + 1 ≤ room_1.cells) (hs : slots + 6 ≤ room_1.slots) (hi : i + 5 ≤ L) (hn : n ≤ 512) (V : qV) (Y : qY) (h : Rel n V) (kk : ∀ (V' : qV) (Y' : qY) (lo' : List (Nat × Value)), (∀ q ∈ [(4, .int (nI i)), (3, .ref (al Z 45 0)), (2, .ref (al Z 20 0)), (1, .ref (al Z 0 0)), (0, .ref b)], q ∈ lo') → Rel (n + 1) V' → G p l e room_1 s m #[Value.ref b] below meth c Q (pX Z) 8 A V' Y' (cells + 1) (slots + 6) 1321 lo' []) : G p l e room_1 s m #[Value.ref b] below meth c Q (pX Z) 8 A V Y cells slots 633 [(4, .int (nI i)), (3, .ref (al Z 45 0)), (2, .ref (al Z 20 0)), (1, .ref (al Z 0 0)), (0, .ref b)] [] := by
  obtain ⟨k, V1, V2, Y1, hW, hM, hk, hR⟩ := op_giveUp l hadm Z hZ V Y h (xs (i + 1))
  refine gq_aload_n C d_W_law_633 rfl ?_
  refine gq_aload_n C d_W_law_634 rfl ?_
  refine gq_iload C d_W_law_635 rfl ?_
  refine gq_iconst C (v := 1) d_W_law_637 (by decide) ?_
  refine gq_iadd C d_W_law_638 ?_
  refine gq_sld C (a := i + 1) hX hbl hbA hL (nI_add i 1) (by omega) d_W_law_639 ?_
  refine gq_callSW C (st := []) hA hW w_448 w_449 w_450 w_0 ⟨by decide, by decide, (by decide +kernel : (parseMethodDescriptor y_W_giveUp.desc).map (fun d => d.parameters.length) = some 2)⟩ ⟨by decide, by decide⟩ ⟨hc, hs⟩ rfl (Nat.le_of_ble_eq_true rfl) d_W_law_640 ?_
  refine gq_istore C (lo' := [(5, .int k), (4, .int (nI i)), (3, .ref (al Z 45 0)), (2, .ref (al Z 20 0)), (1, .ref (al Z 0 0)), (0, .ref b)]) d_W_law_643 (by decide) rfl ?_
  refine gq_aload_n C d_W_law_645 rfl ?_
  refine gq_aload_n C d_W_law_646 rfl ?_
  refine gq_iload C d_W_law_647 rfl ?_
  refine gq_iconst C (v := 1) d_W_law_649 (by decide) ?_
  refine gq_iadd C d_W_law_650 ?_
  refine gq_sld C (a := i + 1) hX hbl hbA hL (nI_add i 1) (by omega) d_W_law_651 ?_
  refine gq_callV C (st := []) hA hM (qm (by decide) (by decide)) rfl rfl w_817 w_818 w_819 w_820 w_9 ⟨by decide, by decide, (by decide +kernel : (parseMethodDescriptor y_M_giveUp.desc).map (fun d => d.parameters.length) = some 1)⟩ ⟨by decide, by decide⟩ ⟨hc, hs⟩ rfl (Nat.le_of_ble_eq_true rfl) d_W_law_652 ?_
  refine gq_aload_n C d_W_law_655 rfl ?_
  refine gq_callV C (st := []) (fun _ h => h.elim) (c_M_thrown l Z hZ V2 Y1) (qm (by decide) (by decide)) rfl rfl w_753 w_754 w_755 w_756 w_9 ⟨by decide, by decide, (by decide +kernel : (parseMethodDescriptor y_M_thrown.desc).map (fun d => d.parameters.length) = some 0)⟩ ⟨by decide, by decide⟩ ⟨hc, hs⟩ rfl (Nat.le_of_ble_eq_true rfl) d_W_law_656 ?_
  refine G.eqS (st' := [.int k]) (by first | (rw [show V2 20 0 0 = k from hk]; done) | (rw [show V2 20 0 0 = k from hk]; rfl)) ?_
  refine gq_iload C d_W_law_659 rfl ?_
  refine gq_icmp_eq C (tgt := 666) d_W_law_661 rfl (fun hb661 => ?_) (fun hb => by exact absurd rfl hb)
  refine gq_goto C (tgt := 1321) d_W_law_666 rfl ?_
  exact kk V2 Y1 _ (fun q hq => by simp only [List.mem_cons, List.not_mem_nil, or_false] at hq ⊢; rcases hq with q | q | q | q | q <;> simp [q]) hR

set_option maxHeartbeats 4000000 in
set_option maxRecDepth 100000 in
theorem law_lease {p : Program} {l : Launch} {e : Env} {s : State} {m : MethodId} {below : List Frame} {meth : Method} {c : Code} {Q : State → Prop} {A : Nat → Prop} (hadm : ∀ e : Env, l.admits e → e.platform.stackTraces = false) (Z : qZ) (hZ : qok (pX Z)) (hA : ∀ q, qA (pX Z) q → A q) {b L : Nat} {xs : Nat → Int32} (C : Cx p s m #[Value.ref b] meth c (pX Z) 8 A b_W_law "PriceHouseLaw" QT) (hX : va_X b L xs s s.heap) (hbl : b < s.heap.size) (hbA : ¬ A b) (hL : L ≤ 2560) {cells slots n i : Nat} (hc : cells + 1 ≤ room_1.cells) (hs : slots + 6 ≤ room_1.slots) (hi : i + 5 ≤ L) (hn : n ≤ 512) (V : qV) (Y : qY) (h : Rel n V) (kk : ∀ (V' : qV) (Y' : qY) (lo' : List (Nat × Value)), (∀ q ∈ [(4, .int (nI i)), (3, .ref (al Z 45 0)), (2, .ref (al Z 20 0)), (1, .ref (al Z 0 0)), (0, .ref b)], q ∈ lo') → Rel (n + 1) V' → G p l e room_1 s m #[Value.ref b] below meth c Q (pX Z) 8 A V' Y' (cells + 1) (slots + 6) 1321 lo' []) : G p l e room_1 s m #[Value.ref b] below meth c Q (pX Z) 8 A V Y cells slots 669 [(4, .int (nI i)), (3, .ref (al Z 45 0)), (2, .ref (al Z 20 0)), (1, .ref (al Z 0 0)), (0, .ref b)] [] := by
  obtain ⟨k, r, V1, V2, Y1, hW, hM, hk, hy, hR⟩ := op_lease l hadm Z hZ V Y hn h (xs (i + 1))
  refine gq_aload_n C d_W_law_669 rfl ?_
  refine gq_aload_n C d_W_law_670 rfl ?_
  refine gq_iload C d_W_law_671 rfl ?_
  refine gq_iconst C (v := 1) d_W_law_673 (by decide) ?_
  refine gq_iadd C d_W_law_674 ?_
  refine gq_sld C (a := i + 1) hX hbl hbA hL (nI_add i 1) (by omega) d_W_law_675 ?_
  refine gq_aload_n C d_W_law_676 rfl ?_
  refine gq_callSW C (st := []) hA hW w_459 w_460 w_461 w_0 ⟨by decide, by decide, (by decide +kernel : (parseMethodDescriptor y_W_lease.desc).map (fun d => d.parameters.length) = some 3)⟩ ⟨by decide, by decide⟩ ⟨hc, hs⟩ rfl (Nat.le_of_ble_eq_true rfl) d_W_law_677 ?_
  refine gq_istore C (lo' := [(5, .int k), (4, .int (nI i)), (3, .ref (al Z 45 0)), (2, .ref (al Z 20 0)), (1, .ref (al Z 0 0)), (0, .ref b)]) d_W_law_680 (by decide) rfl ?_
  refine gq_aload_n C d_W_law_682 rfl ?_
  refine gq_aload_n C d_W_law_683 rfl ?_
  refine gq_iload C d_W_law_684 rfl ?_
  refine gq_iconst C (v := 1) d_W_law_686 (by decide) ?_
  refine gq_iadd C d_W_law_687 ?_
  refine gq_sld C (a := i + 1) hX hbl hbA hL (nI_add i 1) (by omega) d_W_law_688 ?_
  refine gq_callV C (st := []) hA hM (qm (by decide) (by decide)) rfl rfl w_821 w_822 w_823 w_824 w_9 ⟨by decide, by decide, (by decide +kernel : (parseMethodDescriptor y_M_lease.desc).map (fun d => d.parameters.length) = some 1)⟩ ⟨by decide, by decide⟩ ⟨hc, hs⟩ rfl (Nat.le_of_ble_eq_true rfl) d_W_law_689 ?_
  refine gq_istore C (lo' := [(6, .int r), (5, .int k), (4, .int (nI i)), (3, .ref (al Z 45 0)), (2, .ref (al Z 20 0)), (1, .ref (al Z 0 0)), (0, .ref b)]) d_W_law_692 (by decide) rfl ?_
  refine gq_aload_n C d_W_law_694 rfl ?_
  refine gq_callV C (st := []) (fun _ h => h.elim) (c_M_thrown l Z hZ V2 Y1) (qm (by decide) (by decide)) rfl rfl w_753 w_754 w_755 w_756 w_9 ⟨by decide, by decide, (by decide +kernel : (parseMethodDescriptor y_M_thrown.desc).map (fun d => d.parameters.length) = some 0)⟩ ⟨by decide, by decide⟩ ⟨hc, hs⟩ rfl (Nat.le_of_ble_eq_true rfl) d_W_law_695 ?_
  refine G.eqS (st' := [.int k]) (by first | (rw [show V2 20 0 0 = k from hk]; done) | (rw [show V2 20 0 0 = k from hk]; rfl)) ?_
  refine gq_iload C d_W_law_698 rfl ?_
  refine gq_icmp_eq C (tgt := 705) d_W_law_700 rfl (fun hb700 => ?_) (fun hb => by exact absurd rfl hb)
  refine gq_iload C d_W_law_705 rfl ?_
  refine gq_if_ne C (tgt := 722) d_W_law_707 rfl (fun hb707 => ?_) (fun hb707 => ?_)
  · skip
    refine gq_goto C (tgt := 1321) d_W_law_722 rfl ?_
    exact kk V2 Y1 _ (fun q hq => by simp only [List.mem_cons, List.not_mem_nil, or_false] at hq ⊢; rcases hq with q | q | q | q | q <;> simp [q]) hR
  · skip
    refine gq_aload_n C d_W_law_710 rfl ?_
    refine gq_iconst C (v := 0) d_W_law_711 (by decide) ?_
    refine gq_lald C (g := 45) (j := 0) (a := 0) (t0 := 1) (qm (by decide) (by decide)) rfl rfl rfl (by decide) (by decide) d_W_law_712 ?_
    refine gq_iload C d_W_law_713 rfl ?_
    refine gq_i2l C d_W_law_715 ?_
    refine gq_lcmp C d_W_law_716 ?_
    refine gq_if_eq C (tgt := 722) d_W_law_717 rfl (fun hb717 => ?_) (fun hb => by exact absurd (lc0 (hy hb707)) hb)
    refine gq_goto C (tgt := 1321) d_W_law_722 rfl ?_
    exact kk V2 Y1 _ (fun q hq => by simp only [List.mem_cons, List.not_mem_nil, or_false] at hq ⊢; rcases hq with q | q | q | q | q <;> simp [q]) hR

set_option maxHeartbeats 4000000 in
set_option maxRecDepth 100000 in
theorem law_loaded {p : Program} {l : Launch} {e : Env} {s : State} {m : MethodId} {below : List Frame} {meth : Method} {c : Code} {Q : State → Prop} {A : Nat → Prop} (hadm : ∀ e : Env, l.admits e → e.platform.stackTraces = false) (Z : qZ) (hZ : qok (pX Z)) (hA : ∀ q, qA (pX Z) q → A q) {b L : Nat} {xs : Nat → Int32} (C : Cx p s m #[Value.ref b] meth c (pX Z) 8 A b_W_law "PriceHouseLaw" QT) (hX : va_X b L xs s s.heap) (hbl : b < s.heap.size) (hbA : ¬ A b) (hL : L ≤ 2560) {cells slots n i : Nat} (hc : cells + 1 ≤ room_1.cells) (hs : slots + 6 ≤ room_1.slots) (hi : i + 5 ≤ L) (hn : n ≤ 512) (V : qV) (Y : qY) (h : Rel n V) (kk : ∀ (V' : qV) (Y' : qY) (lo' : List (Nat × Value)), (∀ q ∈ [(4, .int (nI i)), (3, .ref (al Z 45 0)), (2, .ref (al Z 20 0)), (1, .ref (al Z 0 0)), (0, .ref b)], q ∈ lo') → Rel (n + 1) V' → G p l e room_1 s m #[Value.ref b] below meth c Q (pX Z) 8 A V' Y' (cells + 1) (slots + 6) 1321 lo' []) : G p l e room_1 s m #[Value.ref b] below meth c Q (pX Z) 8 A V Y cells slots 725 [(4, .int (nI i)), (3, .ref (al Z 45 0)), (2, .ref (al Z 20 0)), (1, .ref (al Z 0 0)), (0, .ref b)] [] := by
  obtain ⟨k, r, V1, V2, Y1, hW, hM, hk, hy, hR⟩ := op_loaded l hadm Z hZ V Y h (xs (i + 1))
  refine gq_aload_n C d_W_law_725 rfl ?_
  refine gq_aload_n C d_W_law_726 rfl ?_
  refine gq_iload C d_W_law_727 rfl ?_
  refine gq_iconst C (v := 1) d_W_law_729 (by decide) ?_
  refine gq_iadd C d_W_law_730 ?_
  refine gq_sld C (a := i + 1) hX hbl hbA hL (nI_add i 1) (by omega) d_W_law_731 ?_
  refine gq_aload_n C d_W_law_732 rfl ?_
  refine gq_callSW C (st := []) hA hW w_470 w_471 w_472 w_0 ⟨by decide, by decide, (by decide +kernel : (parseMethodDescriptor y_W_loaded.desc).map (fun d => d.parameters.length) = some 3)⟩ ⟨by decide, by decide⟩ ⟨hc, hs⟩ rfl (Nat.le_of_ble_eq_true rfl) d_W_law_733 ?_
  refine gq_istore C (lo' := [(5, .int k), (4, .int (nI i)), (3, .ref (al Z 45 0)), (2, .ref (al Z 20 0)), (1, .ref (al Z 0 0)), (0, .ref b)]) d_W_law_736 (by decide) rfl ?_
  refine gq_aload_n C d_W_law_738 rfl ?_
  refine gq_aload_n C d_W_law_739 rfl ?_
  refine gq_iload C d_W_law_740 rfl ?_
  refine gq_iconst C (v := 1) d_W_law_742 (by decide) ?_
  refine gq_iadd C d_W_law_743 ?_
  refine gq_sld C (a := i + 1) hX hbl hbA hL (nI_add i 1) (by omega) d_W_law_744 ?_
  refine gq_callV C (st := []) hA hM (qm (by decide) (by decide)) rfl rfl w_829 w_830 w_831 w_832 w_9 ⟨by decide, by decide, (by decide +kernel : (parseMethodDescriptor y_M_loaded.desc).map (fun d => d.parameters.length) = some 1)⟩ ⟨by decide, by decide⟩ ⟨hc, hs⟩ rfl (Nat.le_of_ble_eq_true rfl) d_W_law_745 ?_
  refine gq_istore C (lo' := [(6, .int r), (5, .int k), (4, .int (nI i)), (3, .ref (al Z 45 0)), (2, .ref (al Z 20 0)), (1, .ref (al Z 0 0)), (0, .ref b)]) d_W_law_748 (by decide) rfl ?_
  refine gq_aload_n C d_W_law_750 rfl ?_
  refine gq_callV C (st := []) (fun _ h => h.elim) (c_M_thrown l Z hZ V2 Y1) (qm (by decide) (by decide)) rfl rfl w_753 w_754 w_755 w_756 w_9 ⟨by decide, by decide, (by decide +kernel : (parseMethodDescriptor y_M_thrown.desc).map (fun d => d.parameters.length) = some 0)⟩ ⟨by decide, by decide⟩ ⟨hc, hs⟩ rfl (Nat.le_of_ble_eq_true rfl) d_W_law_751 ?_
  refine G.eqS (st' := [.int k]) (by first | (rw [show V2 20 0 0 = k from hk]; done) | (rw [show V2 20 0 0 = k from hk]; rfl)) ?_
  refine gq_iload C d_W_law_754 rfl ?_
  refine gq_icmp_eq C (tgt := 761) d_W_law_756 rfl (fun hb756 => ?_) (fun hb => by exact absurd rfl hb)
  refine gq_iload C d_W_law_761 rfl ?_
  refine gq_if_ne C (tgt := 778) d_W_law_763 rfl (fun hb763 => ?_) (fun hb763 => ?_)
  · skip
    refine gq_goto C (tgt := 1321) d_W_law_778 rfl ?_
    exact kk V2 Y1 _ (fun q hq => by simp only [List.mem_cons, List.not_mem_nil, or_false] at hq ⊢; rcases hq with q | q | q | q | q <;> simp [q]) hR
  · skip
    refine gq_aload_n C d_W_law_766 rfl ?_
    refine gq_iconst C (v := 0) d_W_law_767 (by decide) ?_
    refine gq_lald C (g := 45) (j := 0) (a := 0) (t0 := 1) (qm (by decide) (by decide)) rfl rfl rfl (by decide) (by decide) d_W_law_768 ?_
    refine gq_iload C d_W_law_769 rfl ?_
    refine gq_i2l C d_W_law_771 ?_
    refine gq_lcmp C d_W_law_772 ?_
    refine gq_if_eq C (tgt := 778) d_W_law_773 rfl (fun hb773 => ?_) (fun hb => by exact absurd (lc0 (hy hb763)) hb)
    refine gq_goto C (tgt := 1321) d_W_law_778 rfl ?_
    exact kk V2 Y1 _ (fun q hq => by simp only [List.mem_cons, List.not_mem_nil, or_false] at hq ⊢; rcases hq with q | q | q | q | q <;> simp [q]) hR

set_option maxHeartbeats 4000000 in
set_option maxRecDepth 100000 in
theorem law_deliver {p : Program} {l : Launch} {e : Env} {s : State} {m : MethodId} {below : List Frame} {meth : Method} {c : Code} {Q : State → Prop} {A : Nat → Prop} (hadm : ∀ e : Env, l.admits e → e.platform.stackTraces = false) (Z : qZ) (hZ : qok (pX Z)) (hA : ∀ q, qA (pX Z) q → A q) {b L : Nat} {xs : Nat → Int32} (C : Cx p s m #[Value.ref b] meth c (pX Z) 8 A b_W_law "PriceHouseLaw" QT) (hX : va_X b L xs s s.heap) (hbl : b < s.heap.size) (hbA : ¬ A b) (hL : L ≤ 2560) {cells slots n i : Nat} (hc : cells + 1 ≤ room_1.cells) (hs : slots + 6 ≤ room_1.slots) (hi : i + 5 ≤ L) (hn : n ≤ 512) (V : qV) (Y : qY) (h : Rel n V) (kk : ∀ (V' : qV) (Y' : qY) (lo' : List (Nat × Value)), (∀ q ∈ [(4, .int (nI i)), (3, .ref (al Z 45 0)), (2, .ref (al Z 20 0)), (1, .ref (al Z 0 0)), (0, .ref b)], q ∈ lo') → Rel (n + 1) V' → G p l e room_1 s m #[Value.ref b] below meth c Q (pX Z) 8 A V' Y' (cells + 1) (slots + 6) 1321 lo' []) : G p l e room_1 s m #[Value.ref b] below meth c Q (pX Z) 8 A V Y cells slots 781 [(4, .int (nI i)), (3, .ref (al Z 45 0)), (2, .ref (al Z 20 0)), (1, .ref (al Z 0 0)), (0, .ref b)] [] := by
  obtain ⟨k, V1, V2, Y1, hW, hM, hk, hR⟩ := op_deliver l hadm Z hZ V Y hn h (xs (i + 1))
  refine gq_aload_n C d_W_law_781 rfl ?_
  refine gq_aload_n C d_W_law_782 rfl ?_
  refine gq_iload C d_W_law_783 rfl ?_
  refine gq_iconst C (v := 1) d_W_law_785 (by decide) ?_
  refine gq_iadd C d_W_law_786 ?_
  refine gq_sld C (a := i + 1) hX hbl hbA hL (nI_add i 1) (by omega) d_W_law_787 ?_
  refine gq_callSW C (st := []) hA hW w_477 w_478 w_479 w_0 ⟨by decide, by decide, (by decide +kernel : (parseMethodDescriptor y_W_deliver.desc).map (fun d => d.parameters.length) = some 2)⟩ ⟨by decide, by decide⟩ ⟨hc, hs⟩ rfl (Nat.le_of_ble_eq_true rfl) d_W_law_788 ?_
  refine gq_istore C (lo' := [(5, .int k), (4, .int (nI i)), (3, .ref (al Z 45 0)), (2, .ref (al Z 20 0)), (1, .ref (al Z 0 0)), (0, .ref b)]) d_W_law_791 (by decide) rfl ?_
  refine gq_aload_n C d_W_law_793 rfl ?_
  refine gq_aload_n C d_W_law_794 rfl ?_
  refine gq_iload C d_W_law_795 rfl ?_
  refine gq_iconst C (v := 1) d_W_law_797 (by decide) ?_
  refine gq_iadd C d_W_law_798 ?_
  refine gq_sld C (a := i + 1) hX hbl hbA hL (nI_add i 1) (by omega) d_W_law_799 ?_
  refine gq_callV C (st := []) hA hM (qm (by decide) (by decide)) rfl rfl w_833 w_834 w_835 w_836 w_9 ⟨by decide, by decide, (by decide +kernel : (parseMethodDescriptor y_M_deliver.desc).map (fun d => d.parameters.length) = some 1)⟩ ⟨by decide, by decide⟩ ⟨hc, hs⟩ rfl (Nat.le_of_ble_eq_true rfl) d_W_law_800 ?_
  refine gq_aload_n C d_W_law_803 rfl ?_
  refine gq_callV C (st := []) (fun _ h => h.elim) (c_M_thrown l Z hZ V2 Y1) (qm (by decide) (by decide)) rfl rfl w_753 w_754 w_755 w_756 w_9 ⟨by decide, by decide, (by decide +kernel : (parseMethodDescriptor y_M_thrown.desc).map (fun d => d.parameters.length) = some 0)⟩ ⟨by decide, by decide⟩ ⟨hc, hs⟩ rfl (Nat.le_of_ble_eq_true rfl) d_W_law_804 ?_
  refine G.eqS (st' := [.int k]) (by first | (rw [show V2 20 0 0 = k from hk]; done) | (rw [show V2 20 0 0 = k from hk]; rfl)) ?_
  refine gq_iload C d_W_law_807 rfl ?_
  refine gq_icmp_eq C (tgt := 814) d_W_law_809 rfl (fun hb809 => ?_) (fun hb => by exact absurd rfl hb)
  refine gq_goto C (tgt := 1321) d_W_law_814 rfl ?_
  exact kk V2 Y1 _ (fun q hq => by simp only [List.mem_cons, List.not_mem_nil, or_false] at hq ⊢; rcases hq with q | q | q | q | q <;> simp [q]) hR

set_option maxHeartbeats 4000000 in
set_option maxRecDepth 100000 in
theorem law_lose {p : Program} {l : Launch} {e : Env} {s : State} {m : MethodId} {below : List Frame} {meth : Method} {c : Code} {Q : State → Prop} {A : Nat → Prop} (hadm : ∀ e : Env, l.admits e → e.platform.stackTraces = false) (Z : qZ) (hZ : qok (pX Z)) (hA : ∀ q, qA (pX Z) q → A q) {b L : Nat} {xs : Nat → Int32} (C : Cx p s m #[Value.ref b] meth c (pX Z) 8 A b_W_law "PriceHouseLaw" QT) (hX : va_X b L xs s s.heap) (hbl : b < s.heap.size) (hbA : ¬ A b) (hL : L ≤ 2560) {cells slots n i : Nat} (hc : cells + 1 ≤ room_1.cells) (hs : slots + 6 ≤ room_1.slots) (hi : i + 5 ≤ L) (hn : n ≤ 512) (V : qV) (Y : qY) (h : Rel n V) (kk : ∀ (V' : qV) (Y' : qY) (lo' : List (Nat × Value)), (∀ q ∈ [(4, .int (nI i)), (3, .ref (al Z 45 0)), (2, .ref (al Z 20 0)), (1, .ref (al Z 0 0)), (0, .ref b)], q ∈ lo') → Rel (n + 1) V' → G p l e room_1 s m #[Value.ref b] below meth c Q (pX Z) 8 A V' Y' (cells + 1) (slots + 6) 1321 lo' []) : G p l e room_1 s m #[Value.ref b] below meth c Q (pX Z) 8 A V Y cells slots 817 [(4, .int (nI i)), (3, .ref (al Z 45 0)), (2, .ref (al Z 20 0)), (1, .ref (al Z 0 0)), (0, .ref b)] [] := by
  obtain ⟨k, V1, V2, Y1, hW, hM, hk, hR⟩ := op_lose l hadm Z hZ V Y h (xs (i + 1))
  refine gq_aload_n C d_W_law_817 rfl ?_
  refine gq_aload_n C d_W_law_818 rfl ?_
  refine gq_iload C d_W_law_819 rfl ?_
  refine gq_iconst C (v := 1) d_W_law_821 (by decide) ?_
  refine gq_iadd C d_W_law_822 ?_
  refine gq_sld C (a := i + 1) hX hbl hbA hL (nI_add i 1) (by omega) d_W_law_823 ?_
  refine gq_callSW C (st := []) hA hW w_544 w_545 w_546 w_0 ⟨by decide, by decide, (by decide +kernel : (parseMethodDescriptor y_W_lose.desc).map (fun d => d.parameters.length) = some 2)⟩ ⟨by decide, by decide⟩ ⟨hc, hs⟩ rfl (Nat.le_of_ble_eq_true rfl) d_W_law_824 ?_
  refine gq_istore C (lo' := [(5, .int k), (4, .int (nI i)), (3, .ref (al Z 45 0)), (2, .ref (al Z 20 0)), (1, .ref (al Z 0 0)), (0, .ref b)]) d_W_law_827 (by decide) rfl ?_
  refine gq_aload_n C d_W_law_829 rfl ?_
  refine gq_aload_n C d_W_law_830 rfl ?_
  refine gq_iload C d_W_law_831 rfl ?_
  refine gq_iconst C (v := 1) d_W_law_833 (by decide) ?_
  refine gq_iadd C d_W_law_834 ?_
  refine gq_sld C (a := i + 1) hX hbl hbA hL (nI_add i 1) (by omega) d_W_law_835 ?_
  refine gq_callV C (st := []) hA hM (qm (by decide) (by decide)) rfl rfl w_849 w_850 w_851 w_852 w_9 ⟨by decide, by decide, (by decide +kernel : (parseMethodDescriptor y_M_lose.desc).map (fun d => d.parameters.length) = some 1)⟩ ⟨by decide, by decide⟩ ⟨hc, hs⟩ rfl (Nat.le_of_ble_eq_true rfl) d_W_law_836 ?_
  refine gq_aload_n C d_W_law_839 rfl ?_
  refine gq_callV C (st := []) (fun _ h => h.elim) (c_M_thrown l Z hZ V2 Y1) (qm (by decide) (by decide)) rfl rfl w_753 w_754 w_755 w_756 w_9 ⟨by decide, by decide, (by decide +kernel : (parseMethodDescriptor y_M_thrown.desc).map (fun d => d.parameters.length) = some 0)⟩ ⟨by decide, by decide⟩ ⟨hc, hs⟩ rfl (Nat.le_of_ble_eq_true rfl) d_W_law_840 ?_
  refine G.eqS (st' := [.int k]) (by first | (rw [show V2 20 0 0 = k from hk]; done) | (rw [show V2 20 0 0 = k from hk]; rfl)) ?_
  refine gq_iload C d_W_law_843 rfl ?_
  refine gq_icmp_eq C (tgt := 850) d_W_law_845 rfl (fun hb845 => ?_) (fun hb => by exact absurd rfl hb)
  refine gq_goto C (tgt := 1321) d_W_law_850 rfl ?_
  exact kk V2 Y1 _ (fun q hq => by simp only [List.mem_cons, List.not_mem_nil, or_false] at hq ⊢; rcases hq with q | q | q | q | q <;> simp [q]) hR

set_option maxHeartbeats 4000000 in
set_option maxRecDepth 100000 in
theorem law_twin {p : Program} {l : Launch} {e : Env} {s : State} {m : MethodId} {below : List Frame} {meth : Method} {c : Code} {Q : State → Prop} {A : Nat → Prop} (hadm : ∀ e : Env, l.admits e → e.platform.stackTraces = false) (Z : qZ) (hZ : qok (pX Z)) (hA : ∀ q, qA (pX Z) q → A q) {b L : Nat} {xs : Nat → Int32} (C : Cx p s m #[Value.ref b] meth c (pX Z) 8 A b_W_law "PriceHouseLaw" QT) (hX : va_X b L xs s s.heap) (hbl : b < s.heap.size) (hbA : ¬ A b) (hL : L ≤ 2560) {cells slots n i : Nat} (hc : cells + 1 ≤ room_1.cells) (hs : slots + 6 ≤ room_1.slots) (hi : i + 5 ≤ L) (hn : n ≤ 512) (V : qV) (Y : qY) (h : Rel n V) (kk : ∀ (V' : qV) (Y' : qY) (lo' : List (Nat × Value)), (∀ q ∈ [(4, .int (nI i)), (3, .ref (al Z 45 0)), (2, .ref (al Z 20 0)), (1, .ref (al Z 0 0)), (0, .ref b)], q ∈ lo') → Rel (n + 1) V' → G p l e room_1 s m #[Value.ref b] below meth c Q (pX Z) 8 A V' Y' (cells + 1) (slots + 6) 1321 lo' []) : G p l e room_1 s m #[Value.ref b] below meth c Q (pX Z) 8 A V Y cells slots 853 [(4, .int (nI i)), (3, .ref (al Z 45 0)), (2, .ref (al Z 20 0)), (1, .ref (al Z 0 0)), (0, .ref b)] [] := by
  obtain ⟨k, V1, V2, Y1, hW, hM, hk, hR⟩ := op_twin l hadm Z hZ V Y h (xs (i + 1))
  refine gq_aload_n C d_W_law_853 rfl ?_
  refine gq_aload_n C d_W_law_854 rfl ?_
  refine gq_iload C d_W_law_855 rfl ?_
  refine gq_iconst C (v := 1) d_W_law_857 (by decide) ?_
  refine gq_iadd C d_W_law_858 ?_
  refine gq_sld C (a := i + 1) hX hbl hbA hL (nI_add i 1) (by omega) d_W_law_859 ?_
  refine gq_callSW C (st := []) hA hW w_551 w_552 w_553 w_0 ⟨by decide, by decide, (by decide +kernel : (parseMethodDescriptor y_W_twin.desc).map (fun d => d.parameters.length) = some 2)⟩ ⟨by decide, by decide⟩ ⟨hc, hs⟩ rfl (Nat.le_of_ble_eq_true rfl) d_W_law_860 ?_
  refine gq_istore C (lo' := [(5, .int k), (4, .int (nI i)), (3, .ref (al Z 45 0)), (2, .ref (al Z 20 0)), (1, .ref (al Z 0 0)), (0, .ref b)]) d_W_law_863 (by decide) rfl ?_
  refine gq_aload_n C d_W_law_865 rfl ?_
  refine gq_aload_n C d_W_law_866 rfl ?_
  refine gq_iload C d_W_law_867 rfl ?_
  refine gq_iconst C (v := 1) d_W_law_869 (by decide) ?_
  refine gq_iadd C d_W_law_870 ?_
  refine gq_sld C (a := i + 1) hX hbl hbA hL (nI_add i 1) (by omega) d_W_law_871 ?_
  refine gq_callV C (st := []) hA hM (qm (by decide) (by decide)) rfl rfl w_853 w_854 w_855 w_856 w_9 ⟨by decide, by decide, (by decide +kernel : (parseMethodDescriptor y_M_twin.desc).map (fun d => d.parameters.length) = some 1)⟩ ⟨by decide, by decide⟩ ⟨hc, hs⟩ rfl (Nat.le_of_ble_eq_true rfl) d_W_law_872 ?_
  refine gq_aload_n C d_W_law_875 rfl ?_
  refine gq_callV C (st := []) (fun _ h => h.elim) (c_M_thrown l Z hZ V2 Y1) (qm (by decide) (by decide)) rfl rfl w_753 w_754 w_755 w_756 w_9 ⟨by decide, by decide, (by decide +kernel : (parseMethodDescriptor y_M_thrown.desc).map (fun d => d.parameters.length) = some 0)⟩ ⟨by decide, by decide⟩ ⟨hc, hs⟩ rfl (Nat.le_of_ble_eq_true rfl) d_W_law_876 ?_
  refine G.eqS (st' := [.int k]) (by first | (rw [show V2 20 0 0 = k from hk]; done) | (rw [show V2 20 0 0 = k from hk]; rfl)) ?_
  refine gq_iload C d_W_law_879 rfl ?_
  refine gq_icmp_eq C (tgt := 886) d_W_law_881 rfl (fun hb881 => ?_) (fun hb => by exact absurd rfl hb)
  refine gq_goto C (tgt := 1321) d_W_law_886 rfl ?_
  exact kk V2 Y1 _ (fun q hq => by simp only [List.mem_cons, List.not_mem_nil, or_false] at hq ⊢; rcases hq with q | q | q | q | q <;> simp [q]) hR

set_option maxHeartbeats 4000000 in
set_option maxRecDepth 100000 in
theorem law_letter {p : Program} {l : Launch} {e : Env} {s : State} {m : MethodId} {below : List Frame} {meth : Method} {c : Code} {Q : State → Prop} {A : Nat → Prop} (hadm : ∀ e : Env, l.admits e → e.platform.stackTraces = false) (Z : qZ) (hZ : qok (pX Z)) (hA : ∀ q, qA (pX Z) q → A q) {b L : Nat} {xs : Nat → Int32} (C : Cx p s m #[Value.ref b] meth c (pX Z) 8 A b_W_law "PriceHouseLaw" QT) (hX : va_X b L xs s s.heap) (hbl : b < s.heap.size) (hbA : ¬ A b) (hL : L ≤ 2560) {cells slots n i : Nat} (hc : cells + 1 ≤ room_1.cells) (hs : slots + 6 ≤ room_1.slots) (hi : i + 5 ≤ L) (hn : n ≤ 512) (V : qV) (Y : qY) (h : Rel n V) (kk : ∀ (V' : qV) (Y' : qY) (lo' : List (Nat × Value)), (∀ q ∈ [(4, .int (nI i)), (3, .ref (al Z 45 0)), (2, .ref (al Z 20 0)), (1, .ref (al Z 0 0)), (0, .ref b)], q ∈ lo') → Rel (n + 1) V' → G p l e room_1 s m #[Value.ref b] below meth c Q (pX Z) 8 A V' Y' (cells + 1) (slots + 6) 1321 lo' []) : G p l e room_1 s m #[Value.ref b] below meth c Q (pX Z) 8 A V Y cells slots 889 [(4, .int (nI i)), (3, .ref (al Z 45 0)), (2, .ref (al Z 20 0)), (1, .ref (al Z 0 0)), (0, .ref b)] [] := by
  obtain ⟨k, r, V1, V2, Y1, hW, hM, hk, hy, hR⟩ := op_letter l hadm Z hZ V Y h (xs (i + 1)) (xs (i + 2))
  refine gq_aload_n C d_W_law_889 rfl ?_
  refine gq_aload_n C d_W_law_890 rfl ?_
  refine gq_iload C d_W_law_891 rfl ?_
  refine gq_iconst C (v := 1) d_W_law_893 (by decide) ?_
  refine gq_iadd C d_W_law_894 ?_
  refine gq_sld C (a := i + 1) hX hbl hbA hL (nI_add i 1) (by omega) d_W_law_895 ?_
  refine gq_aload_n C d_W_law_896 rfl ?_
  refine gq_iload C d_W_law_897 rfl ?_
  refine gq_iconst C (v := 2) d_W_law_899 (by decide) ?_
  refine gq_iadd C d_W_law_900 ?_
  refine gq_sld C (a := i + 2) hX hbl hbA hL (nI_add i 2) (by omega) d_W_law_901 ?_
  refine gq_aload_n C d_W_law_902 rfl ?_
  refine gq_callSW C (st := []) hA hW w_559 w_560 w_561 w_0 ⟨by decide, by decide, (by decide +kernel : (parseMethodDescriptor y_W_letter.desc).map (fun d => d.parameters.length) = some 4)⟩ ⟨by decide, by decide⟩ ⟨hc, hs⟩ rfl (Nat.le_of_ble_eq_true rfl) d_W_law_903 ?_
  refine gq_istore C (lo' := [(5, .int k), (4, .int (nI i)), (3, .ref (al Z 45 0)), (2, .ref (al Z 20 0)), (1, .ref (al Z 0 0)), (0, .ref b)]) d_W_law_906 (by decide) rfl ?_
  refine gq_aload_n C d_W_law_908 rfl ?_
  refine gq_aload_n C d_W_law_909 rfl ?_
  refine gq_iload C d_W_law_910 rfl ?_
  refine gq_iconst C (v := 1) d_W_law_912 (by decide) ?_
  refine gq_iadd C d_W_law_913 ?_
  refine gq_sld C (a := i + 1) hX hbl hbA hL (nI_add i 1) (by omega) d_W_law_914 ?_
  refine gq_aload_n C d_W_law_915 rfl ?_
  refine gq_iload C d_W_law_916 rfl ?_
  refine gq_iconst C (v := 2) d_W_law_918 (by decide) ?_
  refine gq_iadd C d_W_law_919 ?_
  refine gq_sld C (a := i + 2) hX hbl hbA hL (nI_add i 2) (by omega) d_W_law_920 ?_
  refine gq_callV C (st := []) hA hM (qm (by decide) (by decide)) rfl rfl w_857 w_858 w_859 w_860 w_9 ⟨by decide, by decide, (by decide +kernel : (parseMethodDescriptor y_M_letter.desc).map (fun d => d.parameters.length) = some 2)⟩ ⟨by decide, by decide⟩ ⟨hc, hs⟩ rfl (Nat.le_of_ble_eq_true rfl) d_W_law_921 ?_
  refine gq_istore C (lo' := [(6, .int r), (5, .int k), (4, .int (nI i)), (3, .ref (al Z 45 0)), (2, .ref (al Z 20 0)), (1, .ref (al Z 0 0)), (0, .ref b)]) d_W_law_924 (by decide) rfl ?_
  refine gq_aload_n C d_W_law_926 rfl ?_
  refine gq_callV C (st := []) (fun _ h => h.elim) (c_M_thrown l Z hZ V2 Y1) (qm (by decide) (by decide)) rfl rfl w_753 w_754 w_755 w_756 w_9 ⟨by decide, by decide, (by decide +kernel : (parseMethodDescriptor y_M_thrown.desc).map (fun d => d.parameters.length) = some 0)⟩ ⟨by decide, by decide⟩ ⟨hc, hs⟩ rfl (Nat.le_of_ble_eq_true rfl) d_W_law_927 ?_
  refine G.eqS (st' := [.int k]) (by first | (rw [show V2 20 0 0 = k from hk]; done) | (rw [show V2 20 0 0 = k from hk]; rfl)) ?_
  refine gq_iload C d_W_law_930 rfl ?_
  refine gq_icmp_eq C (tgt := 937) d_W_law_932 rfl (fun hb932 => ?_) (fun hb => by exact absurd rfl hb)
  refine gq_iload C d_W_law_937 rfl ?_
  refine gq_if_ne C (tgt := 954) d_W_law_939 rfl (fun hb939 => ?_) (fun hb939 => ?_)
  · skip
    refine gq_goto C (tgt := 1321) d_W_law_954 rfl ?_
    exact kk V2 Y1 _ (fun q hq => by simp only [List.mem_cons, List.not_mem_nil, or_false] at hq ⊢; rcases hq with q | q | q | q | q <;> simp [q]) hR
  · skip
    refine gq_aload_n C d_W_law_942 rfl ?_
    refine gq_iconst C (v := 0) d_W_law_943 (by decide) ?_
    refine gq_lald C (g := 45) (j := 0) (a := 0) (t0 := 1) (qm (by decide) (by decide)) rfl rfl rfl (by decide) (by decide) d_W_law_944 ?_
    refine gq_iload C d_W_law_945 rfl ?_
    refine gq_i2l C d_W_law_947 ?_
    refine gq_lcmp C d_W_law_948 ?_
    refine gq_if_eq C (tgt := 954) d_W_law_949 rfl (fun hb949 => ?_) (fun hb => by exact absurd (lc0 (hy hb939)) hb)
    refine gq_goto C (tgt := 1321) d_W_law_954 rfl ?_
    exact kk V2 Y1 _ (fun q hq => by simp only [List.mem_cons, List.not_mem_nil, or_false] at hq ⊢; rcases hq with q | q | q | q | q <;> simp [q]) hR

set_option maxHeartbeats 4000000 in
set_option maxRecDepth 100000 in
theorem law_letters {p : Program} {l : Launch} {e : Env} {s : State} {m : MethodId} {below : List Frame} {meth : Method} {c : Code} {Q : State → Prop} {A : Nat → Prop} (hadm : ∀ e : Env, l.admits e → e.platform.stackTraces = false) (Z : qZ) (hZ : qok (pX Z)) (hA : ∀ q, qA (pX Z) q → A q) {b L : Nat} {xs : Nat → Int32} (C : Cx p s m #[Value.ref b] meth c (pX Z) 8 A b_W_law "PriceHouseLaw" QT) (hX : va_X b L xs s s.heap) (hbl : b < s.heap.size) (hbA : ¬ A b) (hL : L ≤ 2560) {cells slots n i : Nat} (hc : cells + 1 ≤ room_1.cells) (hs : slots + 6 ≤ room_1.slots) (hi : i + 5 ≤ L) (hn : n ≤ 512) (V : qV) (Y : qY) (h : Rel n V) (kk : ∀ (V' : qV) (Y' : qY) (lo' : List (Nat × Value)), (∀ q ∈ [(4, .int (nI i)), (3, .ref (al Z 45 0)), (2, .ref (al Z 20 0)), (1, .ref (al Z 0 0)), (0, .ref b)], q ∈ lo') → Rel (n + 1) V' → G p l e room_1 s m #[Value.ref b] below meth c Q (pX Z) 8 A V' Y' (cells + 1) (slots + 6) 1321 lo' []) : G p l e room_1 s m #[Value.ref b] below meth c Q (pX Z) 8 A V Y cells slots 957 [(4, .int (nI i)), (3, .ref (al Z 45 0)), (2, .ref (al Z 20 0)), (1, .ref (al Z 0 0)), (0, .ref b)] [] := by
  obtain ⟨nb, nk, nl, h⟩ := h
  have e1 : V 12 0 4 = V 20 0 22 := by rw [h.1.2.2.2.2.2.2.1, h.1.2.2.2.2.2.2.2.1]
  refine gq_aload_n C d_W_law_957 rfl ?_
  refine gq_callV C (st := []) (fun _ h => h.elim) (c_H_letters l Z hZ V Y) (qm (by decide) (by decide)) rfl rfl w_236 w_237 w_238 w_239 w_1 ⟨by decide, by decide, (by decide +kernel : (parseMethodDescriptor y_H_letters.desc).map (fun d => d.parameters.length) = some 0)⟩ ⟨by decide, by decide⟩ ⟨Nat.le_trans (Nat.le_succ _) hc, Nat.le_trans (Nat.le_add_right _ 6) hs⟩ rfl (Nat.le_of_ble_eq_true rfl) d_W_law_958 ?_
  refine gq_aload_n C d_W_law_961 rfl ?_
  refine gq_callV C (st := [.int (V 12 0 4)]) hA (c_M_letters l Z hZ V Y) (qm (by decide) (by decide)) rfl rfl w_861 w_862 w_863 w_864 w_9 ⟨by decide, by decide, (by decide +kernel : (parseMethodDescriptor y_M_letters.desc).map (fun d => d.parameters.length) = some 0)⟩ ⟨by decide, by decide⟩ ⟨Nat.le_trans (Nat.le_succ _) hc, Nat.le_trans (Nat.le_add_right _ 6) hs⟩ rfl (Nat.le_of_ble_eq_true rfl) d_W_law_962 ?_
  refine gq_icmp_eq C (tgt := 1321) d_W_law_965 rfl (fun hb965 => ?_) (fun hb => by exact absurd e1 hb)
  refine G.wide (k := cells + 1) (n := slots + 6) (Nat.le_succ _) (Nat.le_add_right _ _) ?_
  exact kk _ _ _ (fun q hq => hq) (Rel.thrown h 0)

set_option maxHeartbeats 4000000 in
set_option maxRecDepth 100000 in
theorem law_open {p : Program} {l : Launch} {e : Env} {s : State} {m : MethodId} {below : List Frame} {meth : Method} {c : Code} {Q : State → Prop} {A : Nat → Prop} (hadm : ∀ e : Env, l.admits e → e.platform.stackTraces = false) (Z : qZ) (hZ : qok (pX Z)) (hA : ∀ q, qA (pX Z) q → A q) {b L : Nat} {xs : Nat → Int32} (C : Cx p s m #[Value.ref b] meth c (pX Z) 8 A b_W_law "PriceHouseLaw" QT) (hX : va_X b L xs s s.heap) (hbl : b < s.heap.size) (hbA : ¬ A b) (hL : L ≤ 2560) {cells slots n i : Nat} (hc : cells + 1 ≤ room_1.cells) (hs : slots + 6 ≤ room_1.slots) (hi : i + 5 ≤ L) (hn : n ≤ 512) (V : qV) (Y : qY) (h : Rel n V) (kk : ∀ (V' : qV) (Y' : qY) (lo' : List (Nat × Value)), (∀ q ∈ [(4, .int (nI i)), (3, .ref (al Z 45 0)), (2, .ref (al Z 20 0)), (1, .ref (al Z 0 0)), (0, .ref b)], q ∈ lo') → Rel (n + 1) V' → G p l e room_1 s m #[Value.ref b] below meth c Q (pX Z) 8 A V' Y' (cells + 1) (slots + 6) 1321 lo' []) : G p l e room_1 s m #[Value.ref b] below meth c Q (pX Z) 8 A V Y cells slots 970 [(4, .int (nI i)), (3, .ref (al Z 45 0)), (2, .ref (al Z 20 0)), (1, .ref (al Z 0 0)), (0, .ref b)] [] := by
  obtain ⟨k, r, V1, V2, Y1, hW, hM, hk, hy, hR⟩ := op_open l hadm Z hZ V Y hn h (xs (i + 1))
  refine gq_aload_n C d_W_law_970 rfl ?_
  refine gq_aload_n C d_W_law_971 rfl ?_
  refine gq_iload C d_W_law_972 rfl ?_
  refine gq_iconst C (v := 1) d_W_law_974 (by decide) ?_
  refine gq_iadd C d_W_law_975 ?_
  refine gq_sld C (a := i + 1) hX hbl hbA hL (nI_add i 1) (by omega) d_W_law_976 ?_
  refine gq_aload_n C d_W_law_977 rfl ?_
  refine gq_callSW C (st := []) hA hW w_566 w_567 w_568 w_0 ⟨by decide, by decide, (by decide +kernel : (parseMethodDescriptor y_W_open.desc).map (fun d => d.parameters.length) = some 3)⟩ ⟨by decide, by decide⟩ ⟨hc, hs⟩ rfl (Nat.le_of_ble_eq_true rfl) d_W_law_978 ?_
  refine gq_istore C (lo' := [(5, .int k), (4, .int (nI i)), (3, .ref (al Z 45 0)), (2, .ref (al Z 20 0)), (1, .ref (al Z 0 0)), (0, .ref b)]) d_W_law_981 (by decide) rfl ?_
  refine gq_aload_n C d_W_law_983 rfl ?_
  refine gq_aload_n C d_W_law_984 rfl ?_
  refine gq_iload C d_W_law_985 rfl ?_
  refine gq_iconst C (v := 1) d_W_law_987 (by decide) ?_
  refine gq_iadd C d_W_law_988 ?_
  refine gq_sld C (a := i + 1) hX hbl hbA hL (nI_add i 1) (by omega) d_W_law_989 ?_
  refine gq_callV C (st := []) hA hM (qm (by decide) (by decide)) rfl rfl w_865 w_866 w_867 w_868 w_9 ⟨by decide, by decide, (by decide +kernel : (parseMethodDescriptor y_M_open.desc).map (fun d => d.parameters.length) = some 1)⟩ ⟨by decide, by decide⟩ ⟨hc, hs⟩ rfl (Nat.le_of_ble_eq_true rfl) d_W_law_990 ?_
  refine gq_istore C (lo' := [(6, .int r), (5, .int k), (4, .int (nI i)), (3, .ref (al Z 45 0)), (2, .ref (al Z 20 0)), (1, .ref (al Z 0 0)), (0, .ref b)]) d_W_law_993 (by decide) rfl ?_
  refine gq_aload_n C d_W_law_995 rfl ?_
  refine gq_callV C (st := []) (fun _ h => h.elim) (c_M_thrown l Z hZ V2 Y1) (qm (by decide) (by decide)) rfl rfl w_753 w_754 w_755 w_756 w_9 ⟨by decide, by decide, (by decide +kernel : (parseMethodDescriptor y_M_thrown.desc).map (fun d => d.parameters.length) = some 0)⟩ ⟨by decide, by decide⟩ ⟨hc, hs⟩ rfl (Nat.le_of_ble_eq_true rfl) d_W_law_996 ?_
  refine G.eqS (st' := [.int k]) (by first | (rw [show V2 20 0 0 = k from hk]; done) | (rw [show V2 20 0 0 = k from hk]; rfl)) ?_
  refine gq_iload C d_W_law_999 rfl ?_
  refine gq_icmp_eq C (tgt := 1006) d_W_law_1001 rfl (fun hb1001 => ?_) (fun hb => by exact absurd rfl hb)
  refine gq_iload C d_W_law_1006 rfl ?_
  refine gq_if_ne C (tgt := 1023) d_W_law_1008 rfl (fun hb1008 => ?_) (fun hb1008 => ?_)
  · skip
    refine gq_goto C (tgt := 1321) d_W_law_1023 rfl ?_
    exact kk V2 Y1 _ (fun q hq => by simp only [List.mem_cons, List.not_mem_nil, or_false] at hq ⊢; rcases hq with q | q | q | q | q <;> simp [q]) hR
  · skip
    refine gq_aload_n C d_W_law_1011 rfl ?_
    refine gq_iconst C (v := 0) d_W_law_1012 (by decide) ?_
    refine gq_lald C (g := 45) (j := 0) (a := 0) (t0 := 1) (qm (by decide) (by decide)) rfl rfl rfl (by decide) (by decide) d_W_law_1013 ?_
    refine gq_iload C d_W_law_1014 rfl ?_
    refine gq_i2l C d_W_law_1016 ?_
    refine gq_lcmp C d_W_law_1017 ?_
    refine gq_if_eq C (tgt := 1023) d_W_law_1018 rfl (fun hb1018 => ?_) (fun hb => by exact absurd (lc0 (hy hb1008)) hb)
    refine gq_goto C (tgt := 1321) d_W_law_1023 rfl ?_
    exact kk V2 Y1 _ (fun q hq => by simp only [List.mem_cons, List.not_mem_nil, or_false] at hq ⊢; rcases hq with q | q | q | q | q <;> simp [q]) hR

set_option maxHeartbeats 4000000 in
set_option maxRecDepth 100000 in
theorem law_scan {p : Program} {l : Launch} {e : Env} {s : State} {m : MethodId} {below : List Frame} {meth : Method} {c : Code} {Q : State → Prop} {A : Nat → Prop} (hadm : ∀ e : Env, l.admits e → e.platform.stackTraces = false) (Z : qZ) (hZ : qok (pX Z)) (hA : ∀ q, qA (pX Z) q → A q) {b L : Nat} {xs : Nat → Int32} (C : Cx p s m #[Value.ref b] meth c (pX Z) 8 A b_W_law "PriceHouseLaw" QT) (hX : va_X b L xs s s.heap) (hbl : b < s.heap.size) (hbA : ¬ A b) (hL : L ≤ 2560) {cells slots n i : Nat} (hc : cells + 1 ≤ room_1.cells) (hs : slots + 6 ≤ room_1.slots) (hi : i + 5 ≤ L) (hn : n ≤ 512) (V : qV) (Y : qY) (h : Rel n V) (kk : ∀ (V' : qV) (Y' : qY) (lo' : List (Nat × Value)), (∀ q ∈ [(4, .int (nI i)), (3, .ref (al Z 45 0)), (2, .ref (al Z 20 0)), (1, .ref (al Z 0 0)), (0, .ref b)], q ∈ lo') → Rel (n + 1) V' → G p l e room_1 s m #[Value.ref b] below meth c Q (pX Z) 8 A V' Y' (cells + 1) (slots + 6) 1321 lo' []) : G p l e room_1 s m #[Value.ref b] below meth c Q (pX Z) 8 A V Y cells slots 1026 [(4, .int (nI i)), (3, .ref (al Z 45 0)), (2, .ref (al Z 20 0)), (1, .ref (al Z 0 0)), (0, .ref b)] [] := by
  obtain ⟨k, r, V1, V2, Y1, hW, hM, hk, hy, hR⟩ := op_scan l hadm Z hZ V Y h (xs (i + 1)) (xs (i + 2)) (xs (i + 3))
  refine gq_aload_n C d_W_law_1026 rfl ?_
  refine gq_aload_n C d_W_law_1027 rfl ?_
  refine gq_iload C d_W_law_1028 rfl ?_
  refine gq_iconst C (v := 1) d_W_law_1030 (by decide) ?_
  refine gq_iadd C d_W_law_1031 ?_
  refine gq_sld C (a := i + 1) hX hbl hbA hL (nI_add i 1) (by omega) d_W_law_1032 ?_
  refine gq_aload_n C d_W_law_1033 rfl ?_
  refine gq_iload C d_W_law_1034 rfl ?_
  refine gq_iconst C (v := 2) d_W_law_1036 (by decide) ?_
  refine gq_iadd C d_W_law_1037 ?_
  refine gq_sld C (a := i + 2) hX hbl hbA hL (nI_add i 2) (by omega) d_W_law_1038 ?_
  refine gq_aload_n C d_W_law_1039 rfl ?_
  refine gq_iload C d_W_law_1040 rfl ?_
  refine gq_iconst C (v := 3) d_W_law_1042 (by decide) ?_
  refine gq_iadd C d_W_law_1043 ?_
  refine gq_sld C (a := i + 3) hX hbl hbA hL (nI_add i 3) (by omega) d_W_law_1044 ?_
  refine gq_aload_n C d_W_law_1045 rfl ?_
  refine gq_callSW C (st := []) hA hW w_577 w_578 w_579 w_0 ⟨by decide, by decide, (by decide +kernel : (parseMethodDescriptor y_W_scan.desc).map (fun d => d.parameters.length) = some 5)⟩ ⟨by decide, by decide⟩ ⟨hc, hs⟩ rfl (Nat.le_of_ble_eq_true rfl) d_W_law_1046 ?_
  refine gq_istore C (lo' := [(5, .int k), (4, .int (nI i)), (3, .ref (al Z 45 0)), (2, .ref (al Z 20 0)), (1, .ref (al Z 0 0)), (0, .ref b)]) d_W_law_1049 (by decide) rfl ?_
  refine gq_aload_n C d_W_law_1051 rfl ?_
  refine gq_aload_n C d_W_law_1052 rfl ?_
  refine gq_iload C d_W_law_1053 rfl ?_
  refine gq_iconst C (v := 1) d_W_law_1055 (by decide) ?_
  refine gq_iadd C d_W_law_1056 ?_
  refine gq_sld C (a := i + 1) hX hbl hbA hL (nI_add i 1) (by omega) d_W_law_1057 ?_
  refine gq_aload_n C d_W_law_1058 rfl ?_
  refine gq_iload C d_W_law_1059 rfl ?_
  refine gq_iconst C (v := 2) d_W_law_1061 (by decide) ?_
  refine gq_iadd C d_W_law_1062 ?_
  refine gq_sld C (a := i + 2) hX hbl hbA hL (nI_add i 2) (by omega) d_W_law_1063 ?_
  refine gq_aload_n C d_W_law_1064 rfl ?_
  refine gq_iload C d_W_law_1065 rfl ?_
  refine gq_iconst C (v := 3) d_W_law_1067 (by decide) ?_
  refine gq_iadd C d_W_law_1068 ?_
  refine gq_sld C (a := i + 3) hX hbl hbA hL (nI_add i 3) (by omega) d_W_law_1069 ?_
  refine gq_callV C (st := []) hA hM (qm (by decide) (by decide)) rfl rfl w_869 w_870 w_871 w_872 w_9 ⟨by decide, by decide, (by decide +kernel : (parseMethodDescriptor y_M_scan.desc).map (fun d => d.parameters.length) = some 3)⟩ ⟨by decide, by decide⟩ ⟨hc, hs⟩ rfl (Nat.le_of_ble_eq_true rfl) d_W_law_1070 ?_
  refine gq_istore C (lo' := [(6, .int r), (5, .int k), (4, .int (nI i)), (3, .ref (al Z 45 0)), (2, .ref (al Z 20 0)), (1, .ref (al Z 0 0)), (0, .ref b)]) d_W_law_1073 (by decide) rfl ?_
  refine gq_aload_n C d_W_law_1075 rfl ?_
  refine gq_callV C (st := []) (fun _ h => h.elim) (c_M_thrown l Z hZ V2 Y1) (qm (by decide) (by decide)) rfl rfl w_753 w_754 w_755 w_756 w_9 ⟨by decide, by decide, (by decide +kernel : (parseMethodDescriptor y_M_thrown.desc).map (fun d => d.parameters.length) = some 0)⟩ ⟨by decide, by decide⟩ ⟨hc, hs⟩ rfl (Nat.le_of_ble_eq_true rfl) d_W_law_1076 ?_
  refine G.eqS (st' := [.int k]) (by first | (rw [show V2 20 0 0 = k from hk]; done) | (rw [show V2 20 0 0 = k from hk]; rfl)) ?_
  refine gq_iload C d_W_law_1079 rfl ?_
  refine gq_icmp_eq C (tgt := 1086) d_W_law_1081 rfl (fun hb1081 => ?_) (fun hb => by exact absurd rfl hb)
  refine gq_iload C d_W_law_1086 rfl ?_
  refine gq_if_ne C (tgt := 1103) d_W_law_1088 rfl (fun hb1088 => ?_) (fun hb1088 => ?_)
  · skip
    refine gq_goto C (tgt := 1321) d_W_law_1103 rfl ?_
    exact kk V2 Y1 _ (fun q hq => by simp only [List.mem_cons, List.not_mem_nil, or_false] at hq ⊢; rcases hq with q | q | q | q | q <;> simp [q]) hR
  · skip
    refine gq_aload_n C d_W_law_1091 rfl ?_
    refine gq_iconst C (v := 0) d_W_law_1092 (by decide) ?_
    refine gq_lald C (g := 45) (j := 0) (a := 0) (t0 := 1) (qm (by decide) (by decide)) rfl rfl rfl (by decide) (by decide) d_W_law_1093 ?_
    refine gq_iload C d_W_law_1094 rfl ?_
    refine gq_i2l C d_W_law_1096 ?_
    refine gq_lcmp C d_W_law_1097 ?_
    refine gq_if_eq C (tgt := 1103) d_W_law_1098 rfl (fun hb1098 => ?_) (fun hb => by exact absurd (lc0 (hy hb1088)) hb)
    refine gq_goto C (tgt := 1321) d_W_law_1103 rfl ?_
    exact kk V2 Y1 _ (fun q hq => by simp only [List.mem_cons, List.not_mem_nil, or_false] at hq ⊢; rcases hq with q | q | q | q | q <;> simp [q]) hR

set_option maxHeartbeats 4000000 in
set_option maxRecDepth 100000 in
theorem law_pay {p : Program} {l : Launch} {e : Env} {s : State} {m : MethodId} {below : List Frame} {meth : Method} {c : Code} {Q : State → Prop} {A : Nat → Prop} (hadm : ∀ e : Env, l.admits e → e.platform.stackTraces = false) (Z : qZ) (hZ : qok (pX Z)) (hA : ∀ q, qA (pX Z) q → A q) {b L : Nat} {xs : Nat → Int32} (C : Cx p s m #[Value.ref b] meth c (pX Z) 8 A b_W_law "PriceHouseLaw" QT) (hX : va_X b L xs s s.heap) (hbl : b < s.heap.size) (hbA : ¬ A b) (hL : L ≤ 2560) {cells slots n i : Nat} (hc : cells + 1 ≤ room_1.cells) (hs : slots + 6 ≤ room_1.slots) (hi : i + 5 ≤ L) (hn : n ≤ 512) (V : qV) (Y : qY) (h : Rel n V) (kk : ∀ (V' : qV) (Y' : qY) (lo' : List (Nat × Value)), (∀ q ∈ [(4, .int (nI i)), (3, .ref (al Z 45 0)), (2, .ref (al Z 20 0)), (1, .ref (al Z 0 0)), (0, .ref b)], q ∈ lo') → Rel (n + 1) V' → G p l e room_1 s m #[Value.ref b] below meth c Q (pX Z) 8 A V' Y' (cells + 1) (slots + 6) 1321 lo' []) : G p l e room_1 s m #[Value.ref b] below meth c Q (pX Z) 8 A V Y cells slots 1106 [(4, .int (nI i)), (3, .ref (al Z 45 0)), (2, .ref (al Z 20 0)), (1, .ref (al Z 0 0)), (0, .ref b)] [] := by
  obtain ⟨k, r, V1, V2, Y1, Y2, hW, hM, hk, hy, hR⟩ := op_pay l hadm Z hZ V Y h (xs (i + 1))
  refine gq_aload_n C d_W_law_1106 rfl ?_
  refine gq_aload_n C d_W_law_1107 rfl ?_
  refine gq_iload C d_W_law_1108 rfl ?_
  refine gq_iconst C (v := 1) d_W_law_1110 (by decide) ?_
  refine gq_iadd C d_W_law_1111 ?_
  refine gq_sld C (a := i + 1) hX hbl hbA hL (nI_add i 1) (by omega) d_W_law_1112 ?_
  refine gq_aload_n C d_W_law_1113 rfl ?_
  refine gq_callSW C (st := []) hA hW w_612 w_613 w_614 w_0 ⟨by decide, by decide, (by decide +kernel : (parseMethodDescriptor y_W_pay.desc).map (fun d => d.parameters.length) = some 3)⟩ ⟨by decide, by decide⟩ ⟨hc, hs⟩ rfl (Nat.le_of_ble_eq_true rfl) d_W_law_1114 ?_
  refine gq_istore C (lo' := [(5, .int k), (4, .int (nI i)), (3, .ref (al Z 45 0)), (2, .ref (al Z 20 0)), (1, .ref (al Z 0 0)), (0, .ref b)]) d_W_law_1117 (by decide) rfl ?_
  refine gq_aload_n C d_W_law_1119 rfl ?_
  refine gq_aload_n C d_W_law_1120 rfl ?_
  refine gq_iload C d_W_law_1121 rfl ?_
  refine gq_iconst C (v := 1) d_W_law_1123 (by decide) ?_
  refine gq_iadd C d_W_law_1124 ?_
  refine gq_sld C (a := i + 1) hX hbl hbA hL (nI_add i 1) (by omega) d_W_law_1125 ?_
  refine gq_callV C (st := []) hA hM (qm (by decide) (by decide)) rfl rfl w_877 w_878 w_879 w_880 w_9 ⟨by decide, by decide, (by decide +kernel : (parseMethodDescriptor y_M_pay.desc).map (fun d => d.parameters.length) = some 1)⟩ ⟨by decide, by decide⟩ ⟨hc, hs⟩ rfl (Nat.le_of_ble_eq_true rfl) d_W_law_1126 ?_
  refine gq_lstore C (lo' := [(6, .long r), (5, .int k), (4, .int (nI i)), (3, .ref (al Z 45 0)), (2, .ref (al Z 20 0)), (1, .ref (al Z 0 0)), (0, .ref b)]) d_W_law_1129 (by decide) rfl ?_
  refine gq_aload_n C d_W_law_1131 rfl ?_
  refine gq_callV C (st := []) (fun _ h => h.elim) (c_M_thrown l Z hZ V2 Y2) (qm (by decide) (by decide)) rfl rfl w_753 w_754 w_755 w_756 w_9 ⟨by decide, by decide, (by decide +kernel : (parseMethodDescriptor y_M_thrown.desc).map (fun d => d.parameters.length) = some 0)⟩ ⟨by decide, by decide⟩ ⟨hc, hs⟩ rfl (Nat.le_of_ble_eq_true rfl) d_W_law_1132 ?_
  refine G.eqS (st' := [.int k]) (by first | (rw [show V2 20 0 0 = k from hk]; done) | (rw [show V2 20 0 0 = k from hk]; rfl)) ?_
  refine gq_iload C d_W_law_1135 rfl ?_
  refine gq_icmp_eq C (tgt := 1142) d_W_law_1137 rfl (fun hb1137 => ?_) (fun hb => by exact absurd rfl hb)
  refine gq_iload C d_W_law_1142 rfl ?_
  refine gq_if_ne C (tgt := 1158) d_W_law_1144 rfl (fun hb1144 => ?_) (fun hb1144 => ?_)
  · skip
    refine gq_goto C (tgt := 1321) d_W_law_1158 rfl ?_
    exact kk V2 Y2 _ (fun q hq => by simp only [List.mem_cons, List.not_mem_nil, or_false] at hq ⊢; rcases hq with q | q | q | q | q <;> simp [q]) hR
  · skip
    refine gq_aload_n C d_W_law_1147 rfl ?_
    refine gq_iconst C (v := 0) d_W_law_1148 (by decide) ?_
    refine gq_lald C (g := 45) (j := 0) (a := 0) (t0 := 1) (qm (by decide) (by decide)) rfl rfl rfl (by decide) (by decide) d_W_law_1149 ?_
    refine gq_lload C d_W_law_1150 rfl ?_
    refine gq_lcmp C d_W_law_1152 ?_
    refine gq_if_eq C (tgt := 1158) d_W_law_1153 rfl (fun hb1153 => ?_) (fun hb => by exact absurd (lc0 (hy hb1144)) hb)
    refine gq_goto C (tgt := 1321) d_W_law_1158 rfl ?_
    exact kk V2 Y2 _ (fun q hq => by simp only [List.mem_cons, List.not_mem_nil, or_false] at hq ⊢; rcases hq with q | q | q | q | q <;> simp [q]) hR

set_option maxHeartbeats 4000000 in
set_option maxRecDepth 100000 in
theorem law_book {p : Program} {l : Launch} {e : Env} {s : State} {m : MethodId} {below : List Frame} {meth : Method} {c : Code} {Q : State → Prop} {A : Nat → Prop} (hadm : ∀ e : Env, l.admits e → e.platform.stackTraces = false) (Z : qZ) (hZ : qok (pX Z)) (hA : ∀ q, qA (pX Z) q → A q) {b L : Nat} {xs : Nat → Int32} (C : Cx p s m #[Value.ref b] meth c (pX Z) 8 A b_W_law "PriceHouseLaw" QT) (hX : va_X b L xs s s.heap) (hbl : b < s.heap.size) (hbA : ¬ A b) (hL : L ≤ 2560) {cells slots n i : Nat} (hc : cells + 1 ≤ room_1.cells) (hs : slots + 6 ≤ room_1.slots) (hi : i + 5 ≤ L) (hn : n ≤ 512) (V : qV) (Y : qY) (h : Rel n V) (kk : ∀ (V' : qV) (Y' : qY) (lo' : List (Nat × Value)), (∀ q ∈ [(4, .int (nI i)), (3, .ref (al Z 45 0)), (2, .ref (al Z 20 0)), (1, .ref (al Z 0 0)), (0, .ref b)], q ∈ lo') → Rel (n + 1) V' → G p l e room_1 s m #[Value.ref b] below meth c Q (pX Z) 8 A V' Y' (cells + 1) (slots + 6) 1321 lo' []) : G p l e room_1 s m #[Value.ref b] below meth c Q (pX Z) 8 A V Y cells slots 1161 [(4, .int (nI i)), (3, .ref (al Z 45 0)), (2, .ref (al Z 20 0)), (1, .ref (al Z 0 0)), (0, .ref b)] [] := by
  obtain ⟨k, r, V1, V2, Y1, hW, hM, hk, hy, hR⟩ := op_book l hadm Z hZ V Y h (xs (i + 1))
  refine gq_aload_n C d_W_law_1161 rfl ?_
  refine gq_aload_n C d_W_law_1162 rfl ?_
  refine gq_iload C d_W_law_1163 rfl ?_
  refine gq_iconst C (v := 1) d_W_law_1165 (by decide) ?_
  refine gq_iadd C d_W_law_1166 ?_
  refine gq_sld C (a := i + 1) hX hbl hbA hL (nI_add i 1) (by omega) d_W_law_1167 ?_
  refine gq_aload_n C d_W_law_1168 rfl ?_
  refine gq_callSW C (st := []) hA hW w_626 w_627 w_628 w_0 ⟨by decide, by decide, (by decide +kernel : (parseMethodDescriptor y_W_book.desc).map (fun d => d.parameters.length) = some 3)⟩ ⟨by decide, by decide⟩ ⟨hc, hs⟩ rfl (Nat.le_of_ble_eq_true rfl) d_W_law_1169 ?_
  refine gq_istore C (lo' := [(5, .int k), (4, .int (nI i)), (3, .ref (al Z 45 0)), (2, .ref (al Z 20 0)), (1, .ref (al Z 0 0)), (0, .ref b)]) d_W_law_1172 (by decide) rfl ?_
  refine gq_aload_n C d_W_law_1174 rfl ?_
  refine gq_aload_n C d_W_law_1175 rfl ?_
  refine gq_iload C d_W_law_1176 rfl ?_
  refine gq_iconst C (v := 1) d_W_law_1178 (by decide) ?_
  refine gq_iadd C d_W_law_1179 ?_
  refine gq_sld C (a := i + 1) hX hbl hbA hL (nI_add i 1) (by omega) d_W_law_1180 ?_
  refine gq_callV C (st := []) hA hM (qm (by decide) (by decide)) rfl rfl w_885 w_886 w_887 w_888 w_9 ⟨by decide, by decide, (by decide +kernel : (parseMethodDescriptor y_M_book.desc).map (fun d => d.parameters.length) = some 1)⟩ ⟨by decide, by decide⟩ ⟨hc, hs⟩ rfl (Nat.le_of_ble_eq_true rfl) d_W_law_1181 ?_
  refine gq_istore C (lo' := [(6, .int r), (5, .int k), (4, .int (nI i)), (3, .ref (al Z 45 0)), (2, .ref (al Z 20 0)), (1, .ref (al Z 0 0)), (0, .ref b)]) d_W_law_1184 (by decide) rfl ?_
  refine gq_aload_n C d_W_law_1186 rfl ?_
  refine gq_callV C (st := []) (fun _ h => h.elim) (c_M_thrown l Z hZ V2 Y1) (qm (by decide) (by decide)) rfl rfl w_753 w_754 w_755 w_756 w_9 ⟨by decide, by decide, (by decide +kernel : (parseMethodDescriptor y_M_thrown.desc).map (fun d => d.parameters.length) = some 0)⟩ ⟨by decide, by decide⟩ ⟨hc, hs⟩ rfl (Nat.le_of_ble_eq_true rfl) d_W_law_1187 ?_
  refine G.eqS (st' := [.int k]) (by first | (rw [show V2 20 0 0 = k from hk]; done) | (rw [show V2 20 0 0 = k from hk]; rfl)) ?_
  refine gq_iload C d_W_law_1190 rfl ?_
  refine gq_icmp_eq C (tgt := 1197) d_W_law_1192 rfl (fun hb1192 => ?_) (fun hb => by exact absurd rfl hb)
  refine gq_iload C d_W_law_1197 rfl ?_
  refine gq_if_ne C (tgt := 1214) d_W_law_1199 rfl (fun hb1199 => ?_) (fun hb1199 => ?_)
  · skip
    refine gq_goto C (tgt := 1321) d_W_law_1214 rfl ?_
    exact kk V2 Y1 _ (fun q hq => by simp only [List.mem_cons, List.not_mem_nil, or_false] at hq ⊢; rcases hq with q | q | q | q | q <;> simp [q]) hR
  · skip
    refine gq_aload_n C d_W_law_1202 rfl ?_
    refine gq_iconst C (v := 0) d_W_law_1203 (by decide) ?_
    refine gq_lald C (g := 45) (j := 0) (a := 0) (t0 := 1) (qm (by decide) (by decide)) rfl rfl rfl (by decide) (by decide) d_W_law_1204 ?_
    refine gq_iload C d_W_law_1205 rfl ?_
    refine gq_i2l C d_W_law_1207 ?_
    refine gq_lcmp C d_W_law_1208 ?_
    refine gq_if_eq C (tgt := 1214) d_W_law_1209 rfl (fun hb1209 => ?_) (fun hb => by exact absurd (lc0 (hy hb1199)) hb)
    refine gq_goto C (tgt := 1321) d_W_law_1214 rfl ?_
    exact kk V2 Y1 _ (fun q hq => by simp only [List.mem_cons, List.not_mem_nil, or_false] at hq ⊢; rcases hq with q | q | q | q | q <;> simp [q]) hR

set_option maxHeartbeats 4000000 in
set_option maxRecDepth 100000 in
theorem law_price {p : Program} {l : Launch} {e : Env} {s : State} {m : MethodId} {below : List Frame} {meth : Method} {c : Code} {Q : State → Prop} {A : Nat → Prop} (hadm : ∀ e : Env, l.admits e → e.platform.stackTraces = false) (Z : qZ) (hZ : qok (pX Z)) (hA : ∀ q, qA (pX Z) q → A q) {b L : Nat} {xs : Nat → Int32} (C : Cx p s m #[Value.ref b] meth c (pX Z) 8 A b_W_law "PriceHouseLaw" QT) (hX : va_X b L xs s s.heap) (hbl : b < s.heap.size) (hbA : ¬ A b) (hL : L ≤ 2560) {cells slots n i : Nat} (hc : cells + 1 ≤ room_1.cells) (hs : slots + 6 ≤ room_1.slots) (hi : i + 5 ≤ L) (hn : n ≤ 512) (V : qV) (Y : qY) (h : Rel n V) (kk : ∀ (V' : qV) (Y' : qY) (lo' : List (Nat × Value)), (∀ q ∈ [(4, .int (nI i)), (3, .ref (al Z 45 0)), (2, .ref (al Z 20 0)), (1, .ref (al Z 0 0)), (0, .ref b)], q ∈ lo') → Rel (n + 1) V' → G p l e room_1 s m #[Value.ref b] below meth c Q (pX Z) 8 A V' Y' (cells + 1) (slots + 6) 1321 lo' []) : G p l e room_1 s m #[Value.ref b] below meth c Q (pX Z) 8 A V Y cells slots 1217 [(4, .int (nI i)), (3, .ref (al Z 45 0)), (2, .ref (al Z 20 0)), (1, .ref (al Z 0 0)), (0, .ref b)] [] := by
  obtain ⟨k, r, V1, V2, Y1, hW, hM, hk, hy, hR⟩ := op_price l hadm Z hZ V Y h (xs (i + 1)) (xs (i + 2))
  refine gq_aload_n C d_W_law_1217 rfl ?_
  refine gq_aload_n C d_W_law_1218 rfl ?_
  refine gq_iload C d_W_law_1219 rfl ?_
  refine gq_iconst C (v := 1) d_W_law_1221 (by decide) ?_
  refine gq_iadd C d_W_law_1222 ?_
  refine gq_sld C (a := i + 1) hX hbl hbA hL (nI_add i 1) (by omega) d_W_law_1223 ?_
  refine gq_aload_n C d_W_law_1224 rfl ?_
  refine gq_iload C d_W_law_1225 rfl ?_
  refine gq_iconst C (v := 2) d_W_law_1227 (by decide) ?_
  refine gq_iadd C d_W_law_1228 ?_
  refine gq_sld C (a := i + 2) hX hbl hbA hL (nI_add i 2) (by omega) d_W_law_1229 ?_
  refine gq_aload_n C d_W_law_1230 rfl ?_
  refine gq_callSW C (st := []) hA hW w_633 w_634 w_635 w_0 ⟨by decide, by decide, (by decide +kernel : (parseMethodDescriptor y_W_price.desc).map (fun d => d.parameters.length) = some 4)⟩ ⟨by decide, by decide⟩ ⟨hc, hs⟩ rfl (Nat.le_of_ble_eq_true rfl) d_W_law_1231 ?_
  refine gq_istore C (lo' := [(5, .int k), (4, .int (nI i)), (3, .ref (al Z 45 0)), (2, .ref (al Z 20 0)), (1, .ref (al Z 0 0)), (0, .ref b)]) d_W_law_1234 (by decide) rfl ?_
  refine gq_aload_n C d_W_law_1236 rfl ?_
  refine gq_aload_n C d_W_law_1237 rfl ?_
  refine gq_iload C d_W_law_1238 rfl ?_
  refine gq_iconst C (v := 1) d_W_law_1240 (by decide) ?_
  refine gq_iadd C d_W_law_1241 ?_
  refine gq_sld C (a := i + 1) hX hbl hbA hL (nI_add i 1) (by omega) d_W_law_1242 ?_
  refine gq_aload_n C d_W_law_1243 rfl ?_
  refine gq_iload C d_W_law_1244 rfl ?_
  refine gq_iconst C (v := 2) d_W_law_1246 (by decide) ?_
  refine gq_iadd C d_W_law_1247 ?_
  refine gq_sld C (a := i + 2) hX hbl hbA hL (nI_add i 2) (by omega) d_W_law_1248 ?_
  refine gq_callV C (st := []) hA hM (qm (by decide) (by decide)) rfl rfl w_889 w_890 w_891 w_892 w_9 ⟨by decide, by decide, (by decide +kernel : (parseMethodDescriptor y_M_price.desc).map (fun d => d.parameters.length) = some 2)⟩ ⟨by decide, by decide⟩ ⟨hc, hs⟩ rfl (Nat.le_of_ble_eq_true rfl) d_W_law_1249 ?_
  refine gq_istore C (lo' := [(6, .int r), (5, .int k), (4, .int (nI i)), (3, .ref (al Z 45 0)), (2, .ref (al Z 20 0)), (1, .ref (al Z 0 0)), (0, .ref b)]) d_W_law_1252 (by decide) rfl ?_
  refine gq_aload_n C d_W_law_1254 rfl ?_
  refine gq_callV C (st := []) (fun _ h => h.elim) (c_M_thrown l Z hZ V2 Y1) (qm (by decide) (by decide)) rfl rfl w_753 w_754 w_755 w_756 w_9 ⟨by decide, by decide, (by decide +kernel : (parseMethodDescriptor y_M_thrown.desc).map (fun d => d.parameters.length) = some 0)⟩ ⟨by decide, by decide⟩ ⟨hc, hs⟩ rfl (Nat.le_of_ble_eq_true rfl) d_W_law_1255 ?_
  refine G.eqS (st' := [.int k]) (by first | (rw [show V2 20 0 0 = k from hk]; done) | (rw [show V2 20 0 0 = k from hk]; rfl)) ?_
  refine gq_iload C d_W_law_1258 rfl ?_
  refine gq_icmp_eq C (tgt := 1265) d_W_law_1260 rfl (fun hb1260 => ?_) (fun hb => by exact absurd rfl hb)
  refine gq_iload C d_W_law_1265 rfl ?_
  refine gq_if_ne C (tgt := 1282) d_W_law_1267 rfl (fun hb1267 => ?_) (fun hb1267 => ?_)
  · skip
    refine gq_goto C (tgt := 1321) d_W_law_1282 rfl ?_
    exact kk V2 Y1 _ (fun q hq => by simp only [List.mem_cons, List.not_mem_nil, or_false] at hq ⊢; rcases hq with q | q | q | q | q <;> simp [q]) hR
  · skip
    refine gq_aload_n C d_W_law_1270 rfl ?_
    refine gq_iconst C (v := 0) d_W_law_1271 (by decide) ?_
    refine gq_lald C (g := 45) (j := 0) (a := 0) (t0 := 1) (qm (by decide) (by decide)) rfl rfl rfl (by decide) (by decide) d_W_law_1272 ?_
    refine gq_iload C d_W_law_1273 rfl ?_
    refine gq_i2l C d_W_law_1275 ?_
    refine gq_lcmp C d_W_law_1276 ?_
    refine gq_if_eq C (tgt := 1282) d_W_law_1277 rfl (fun hb1277 => ?_) (fun hb => by exact absurd (lc0 (hy hb1267)) hb)
    refine gq_goto C (tgt := 1321) d_W_law_1282 rfl ?_
    exact kk V2 Y1 _ (fun q hq => by simp only [List.mem_cons, List.not_mem_nil, or_false] at hq ⊢; rcases hq with q | q | q | q | q <;> simp [q]) hR

set_option maxHeartbeats 4000000 in
set_option maxRecDepth 100000 in
theorem law_restart {p : Program} {l : Launch} {e : Env} {s : State} {m : MethodId} {below : List Frame} {meth : Method} {c : Code} {Q : State → Prop} {A : Nat → Prop} (hadm : ∀ e : Env, l.admits e → e.platform.stackTraces = false) (Z : qZ) (hZ : qok (pX Z)) (hA : ∀ q, qA (pX Z) q → A q) {b L : Nat} {xs : Nat → Int32} (C : Cx p s m #[Value.ref b] meth c (pX Z) 8 A b_W_law "PriceHouseLaw" QT) (hX : va_X b L xs s s.heap) (hbl : b < s.heap.size) (hbA : ¬ A b) (hL : L ≤ 2560) {cells slots n i : Nat} (hc : cells + 1 ≤ room_1.cells) (hs : slots + 6 ≤ room_1.slots) (hi : i + 5 ≤ L) (hn : n ≤ 512) (V : qV) (Y : qY) (h : Rel n V) (kk : ∀ (V' : qV) (Y' : qY) (lo' : List (Nat × Value)), (∀ q ∈ [(4, .int (nI i)), (3, .ref (al Z 45 0)), (2, .ref (al Z 20 0)), (1, .ref (al Z 0 0)), (0, .ref b)], q ∈ lo') → Rel (n + 1) V' → G p l e room_1 s m #[Value.ref b] below meth c Q (pX Z) 8 A V' Y' (cells + 1) (slots + 6) 1321 lo' []) : G p l e room_1 s m #[Value.ref b] below meth c Q (pX Z) 8 A V Y cells slots 1285 [(4, .int (nI i)), (3, .ref (al Z 45 0)), (2, .ref (al Z 20 0)), (1, .ref (al Z 0 0)), (0, .ref b)] [] := by
  obtain ⟨k, V1, V2, Y1, hW, hM, hk, hR⟩ := op_restart l hadm Z hZ V Y hn h (xs (i + 1))
  refine gq_aload_n C d_W_law_1285 rfl ?_
  refine gq_aload_n C d_W_law_1286 rfl ?_
  refine gq_iload C d_W_law_1287 rfl ?_
  refine gq_iconst C (v := 1) d_W_law_1289 (by decide) ?_
  refine gq_iadd C d_W_law_1290 ?_
  refine gq_sld C (a := i + 1) hX hbl hbA hL (nI_add i 1) (by omega) d_W_law_1291 ?_
  refine gq_callSW C (st := []) hA hW w_640 w_641 w_642 w_0 ⟨by decide, by decide, (by decide +kernel : (parseMethodDescriptor y_W_restart.desc).map (fun d => d.parameters.length) = some 2)⟩ ⟨by decide, by decide⟩ ⟨hc, hs⟩ rfl (Nat.le_of_ble_eq_true rfl) d_W_law_1292 ?_
  refine gq_istore C (lo' := [(5, .int k), (4, .int (nI i)), (3, .ref (al Z 45 0)), (2, .ref (al Z 20 0)), (1, .ref (al Z 0 0)), (0, .ref b)]) d_W_law_1295 (by decide) rfl ?_
  refine gq_aload_n C d_W_law_1297 rfl ?_
  refine gq_aload_n C d_W_law_1298 rfl ?_
  refine gq_iload C d_W_law_1299 rfl ?_
  refine gq_iconst C (v := 1) d_W_law_1301 (by decide) ?_
  refine gq_iadd C d_W_law_1302 ?_
  refine gq_sld C (a := i + 1) hX hbl hbA hL (nI_add i 1) (by omega) d_W_law_1303 ?_
  refine gq_callV C (st := []) hA hM (qm (by decide) (by decide)) rfl rfl w_893 w_894 w_895 w_896 w_9 ⟨by decide, by decide, (by decide +kernel : (parseMethodDescriptor y_M_restart.desc).map (fun d => d.parameters.length) = some 1)⟩ ⟨by decide, by decide⟩ ⟨hc, hs⟩ rfl (Nat.le_of_ble_eq_true rfl) d_W_law_1304 ?_
  refine gq_aload_n C d_W_law_1307 rfl ?_
  refine gq_callV C (st := []) (fun _ h => h.elim) (c_M_thrown l Z hZ V2 Y1) (qm (by decide) (by decide)) rfl rfl w_753 w_754 w_755 w_756 w_9 ⟨by decide, by decide, (by decide +kernel : (parseMethodDescriptor y_M_thrown.desc).map (fun d => d.parameters.length) = some 0)⟩ ⟨by decide, by decide⟩ ⟨hc, hs⟩ rfl (Nat.le_of_ble_eq_true rfl) d_W_law_1308 ?_
  refine G.eqS (st' := [.int k]) (by first | (rw [show V2 20 0 0 = k from hk]; done) | (rw [show V2 20 0 0 = k from hk]; rfl)) ?_
  refine gq_iload C d_W_law_1311 rfl ?_
  refine gq_icmp_eq C (tgt := 1318) d_W_law_1313 rfl (fun hb1313 => ?_) (fun hb => by exact absurd rfl hb)
  refine gq_goto C (tgt := 1321) d_W_law_1318 rfl ?_
  exact kk V2 Y1 _ (fun q hq => by simp only [List.mem_cons, List.not_mem_nil, or_false] at hq ⊢; rcases hq with q | q | q | q | q <;> simp [q]) hR
