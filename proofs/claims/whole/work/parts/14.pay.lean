/-! pay -/
def f_payR (V : qV) (b : Nat) (pn zf : Nat → Nat) : Nat → Nat → (Nat → Int64) → Int64 → (Nat → Int64) × Int64
  | 0, _, f, s => (f, s)
  | r + 1, a, f, s => f_payR V b pn zf r (a + 1) (f_rows (V 2 b a) (zf (a * 2)) (V 4 b (a * 2)) (zf (a * 2 + 1)) (V 4 b (a * 2 + 1)) (pn a) f) (s + f_rows (V 2 b a) (zf (a * 2)) (V 4 b (a * 2)) (zf (a * 2 + 1)) (V 4 b (a * 2 + 1)) (pn a) f (pn a))
def f_pay (V : qV) (k t : Nat) : qV := qv (qv V 15 k 2 0) 7 t 7 (V 7 t 7 - 1)
theorem quY_quY (Y : qY) (g j : Nat) (f f' : Nat → Int64) : quY (quY Y g j f) g j f' = quY Y g j f' := by
  funext a b
  unfold quY
  by_cases h : a = g ∧ b = j
  · simp [h]
  · simp [h]

set_option maxHeartbeats 4000000 in
set_option maxRecDepth 100000 in
theorem c_H_pay (l : Launch) (Z : qZ) (hZ : qok (pX Z)) (V : qV) (Y : qY) (k : Nat) (hk : k < 40) (hib : f_isBasket V (nI k) = 1) (hop : ¬ V 15 k 2 = 0) (t : Nat) (ht : t < 4) (h15 : V 15 k 0 = nI t) (b : Nat) (hb : b < 9) (hbk : V 15 k 1 = nI (b + 1)) (pn zf : Nat → Nat) (hp : ∀ a, a < 8 → V 16 k a = nI (pn a) ∧ pn a ≤ 30) (hz : ∀ u, u < 16 → V 3 (b + 1) u = nI (zf u) ∧ zf u < 100) : CT l y_H_pay { frames := 7, cells := 0, slots := 0, locals := 117 } (pX Z) (qA (pX Z)) [.ref (al Z 0 0), .int (nI k)] V Y (.inl (some (.long (f_payR V (b + 1) pn zf 8 0 (Y 17 0) 0).2))) (f_pay V k t) (quY Y 17 0 (f_payR V (b + 1) pn zf 8 0 (Y 17 0) 0).1) := by
  refine CT.of (cc := b_H_pay) (maxL := 7) (ret := (some .long)) hZ (by decide) w_618 (Nat.le_of_ble_eq_true rfl) ?_
  intro p e s m below meth c C hr hex hlt
  generalize hE : f_payR V (b + 1) pn zf 8 0 (Y 17 0) 0 = E
  have loop : ∀ (r a : Nat) (f : Nat → Int64) (x : Int64), a + r = 8 → f_payR V (b + 1) pn zf r a f x = E → G p l e { frames := 7, cells := 0, slots := 0, locals := 117 } s m ([.ref (al Z 0 0), .int (nI k)] : List Value).toArray below meth c (qQ below (pX Z) (qA (pX Z)) { frames := 7, cells := 0, slots := 0, locals := 117 } (.inl (some (.long E.2))) (f_pay V k t) (quY Y 17 0 E.1) s) (pX Z) 7 (qA (pX Z)) (f_pay V k t) (quY Y 17 0 f) 0 0 53 [(6, .int (nI a)), (4, .long x), (3, .ref (al Z 1 (b + 1))), (2, .ref (al Z 15 k)), (0, .ref (al Z 0 0)), (1, .int (nI k))] [] := by
    intro r
    induction r with
    | zero =>
      intro a f x ha hE
      subst hE
      refine gq_iload C d_H_pay_53 rfl ?_
      refine gq_bipush C (v := 8) d_H_pay_55 (by decide) ?_
      refine gq_icmp_ge C (tgt := 88) d_H_pay_57 rfl (fun hb57 => ?_) (fun hb => by exact absurd (nI_le (a := 8) (by omega) (by omega)) hb)
      refine gq_lload C d_H_pay_88 rfl ?_
      exact gq_lret C hr (by decide) (by decide) d_H_pay_90
    | succ r ih =>
      intro a f x ha hE
      have hpa := (hp a (by omega)).2
      refine gq_iload C d_H_pay_53 rfl ?_
      refine gq_bipush C (v := 8) d_H_pay_55 (by decide) ?_
      refine gq_icmp_ge C (tgt := 88) d_H_pay_57 rfl (fun hb => by exact absurd hb (nI_ge (b := 8) (by omega) (by omega))) (fun hb57 => ?_)
      refine gq_lload C d_H_pay_60 rfl ?_
      refine gq_aload_n C d_H_pay_62 rfl ?_
      refine gq_iload C d_H_pay_63 rfl ?_
      refine gq_aload_n C d_H_pay_65 rfl ?_
      refine gq_get C (g := 15) (j := k) (ci := 0) (k := 3) (v := .ref (al Z 16 k)) (qm (by decide) hk) rfl rfl in_B (by decide) w_193 rfl d_H_pay_66 ?_
      refine gq_iload C d_H_pay_69 rfl ?_
      refine gq_iald C (g := 16) (j := k) (a := a) (t0 := 0) (qm (by decide) hk) rfl rfl rfl (by omega) (by decide) d_H_pay_71 ?_
      refine G.eqS (st' := [.int (nI (pn a)), .int (nI a), .ref (al Z 1 (b + 1)), .long x]) (by first | (rw [show f_pay V k t 16 k a = nI (pn a) from ((hp a (by omega)).1)]; done) | (rw [show f_pay V k t 16 k a = nI (pn a) from ((hp a (by omega)).1)]; rfl)) ?_
      refine gq_aload_n C d_H_pay_72 rfl ?_
      refine gq_get C (g := 0) (j := 0) (ci := 7) (k := 8) (v := .ref (al Z 17 0)) (qm (by decide) (by decide)) rfl rfl in_H (by decide) w_211 rfl d_H_pay_73 ?_
      refine gq_callV C (st := [.long x]) (fun _ h => h) (c_L_leastFor l Z hZ (f_pay V k t) (quY Y 17 0 f) (b + 1) (Nat.succ_lt_succ hb) a (by omega) (pn a) hpa (zf (a * 2)) (zf (a * 2 + 1)) (hz (a * 2) (by omega)).1 (hz (a * 2 + 1) (by omega)).1 (hz (a * 2) (by omega)).2 (hz (a * 2 + 1) (by omega)).2) (qm (by decide) (Nat.succ_lt_succ hb)) rfl rfl w_619 w_620 w_621 w_622 w_2 ⟨by decide, by decide, (by decide +kernel : (parseMethodDescriptor y_L_leastFor.desc).map (fun d => d.parameters.length) = some 3)⟩ ⟨by decide, by decide⟩ ⟨by decide, by decide⟩ rfl (Nat.le_of_ble_eq_true rfl) d_H_pay_76 ?_
      refine gq_ladd C d_H_pay_79 ?_
      refine gq_lstore C (lo' := [(4, .long (x + (f_rows (V 2 (b + 1) a) (zf (a * 2)) (V 4 (b + 1) (a * 2)) (zf (a * 2 + 1)) (V 4 (b + 1) (a * 2 + 1)) (pn a) f (pn a)))), (6, .int (nI a)), (3, .ref (al Z 1 (b + 1))), (2, .ref (al Z 15 k)), (0, .ref (al Z 0 0)), (1, .int (nI k))]) d_H_pay_80 (by decide) rfl ?_
      refine gq_iinc C (k := 1) (w := nI (a + 1)) (lo' := [(6, .int (nI (a + 1))), (4, .long (x + (f_rows (V 2 (b + 1) a) (zf (a * 2)) (V 4 (b + 1) (a * 2)) (zf (a * 2 + 1)) (V 4 (b + 1) (a * 2 + 1)) (pn a) f (pn a)))), (3, .ref (al Z 1 (b + 1))), (2, .ref (al Z 15 k)), (0, .ref (al Z 0 0)), (1, .int (nI k))]) d_H_pay_82 rfl (nI_1 a) (by decide) rfl ?_
      refine gq_goto C (tgt := 53) d_H_pay_85 rfl ?_
      refine G.eqY (quY_quY _ _ _ _ _) ?_
      exact ih (a + 1) _ _ (by omega) hE
  refine gq_aload_n C d_H_pay_0 rfl ?_
  refine gq_iload_n C d_H_pay_1 rfl ?_
  refine gq_callV C (st := []) (fun _ h => h.elim) (c_H_checkOpenBasket l Z hZ _ _ k hk hib hop) (qm (by decide) (by decide)) rfl rfl w_585 w_587 ws_H_checkOpenBasket w_588 w_1 ⟨by decide, by decide, (by decide +kernel : (parseMethodDescriptor y_H_checkOpenBasket.desc).map (fun d => d.parameters.length) = some 1)⟩ ⟨by decide, by decide⟩ ⟨by decide, by decide⟩ rfl (Nat.le_of_ble_eq_true rfl) d_H_pay_2 ?_
  refine gq_aload_n C d_H_pay_5 rfl ?_
  refine gq_get C (g := 0) (j := 0) (ci := 7) (k := 6) (v := .ref (al Z 14 0)) (qm (by decide) (by decide)) rfl rfl in_H (by decide) w_209 rfl d_H_pay_6 ?_
  refine gq_iload_n C d_H_pay_9 rfl ?_
  refine gq_aald C (g := 14) (j := 0) (a := k) (t0 := 6) (b := al Z 15 k) (qm (by decide) (by decide)) rfl rfl rfl hk (by decide) rfl d_H_pay_10 ?_
  refine gq_astore_n C (lo' := [(2, .ref (al Z 15 k)), (0, .ref (al Z 0 0)), (1, .int (nI k))]) d_H_pay_11 rfl (by decide) rfl ?_
  refine gq_aload_n C d_H_pay_12 rfl ?_
  refine gq_iconst C (v := 0) d_H_pay_13 (by decide) ?_
  refine gq_put C (fun _ h => h) (g := 15) (j := k) (ci := 0) (k := 2) ft_B k_B n_B (qm (by decide) hk) rfl rfl in_B (by decide) w_191 rfl (k_B 2 (by decide)) rfl rfl (Nat.le_of_ble_eq_true rfl) rfl d_H_pay_14 ?_
  refine gq_aload_n C d_H_pay_17 rfl ?_
  refine gq_get C (g := 0) (j := 0) (ci := 7) (k := 3) (v := .ref (al Z 6 0)) (qm (by decide) (by decide)) rfl rfl in_H (by decide) w_206 rfl d_H_pay_18 ?_
  refine gq_aload_n C d_H_pay_21 rfl ?_
  refine gq_get C (g := 15) (j := k) (ci := 0) (k := 0) (v := .int (V 15 k 0)) (qm (by decide) hk) rfl rfl in_B (by decide) w_187 (by simp [qv_at]) d_H_pay_22 ?_
  refine gq_aald C (g := 6) (j := 0) (a := t) (t0 := 4) (b := al Z 7 t) (qm (by decide) (by decide)) rfl rfl h15 ht (by decide) rfl d_H_pay_25 ?_
  refine gq_dup C d_H_pay_26 rfl ?_
  refine gq_get C (g := 7) (j := t) (ci := 6) (k := 7) (v := .int (V 7 t 7)) (qm (by decide) ht) rfl rfl in_T (by decide) w_81 rfl d_H_pay_27 ?_
  refine gq_iconst C (v := 1) d_H_pay_30 (by decide) ?_
  refine gq_isub C d_H_pay_31 ?_
  refine gq_put C (fun _ h => h) (g := 7) (j := t) (ci := 6) (k := 7) ft_T k_T n_T (qm (by decide) ht) rfl rfl in_T (by decide) w_81 rfl (k_T 7 (by decide)) rfl rfl (Nat.le_of_ble_eq_true rfl) rfl d_H_pay_32 ?_
  refine gq_aload_n C d_H_pay_35 rfl ?_
  refine gq_get C (g := 0) (j := 0) (ci := 7) (k := 1) (v := .ref (al Z 5 0)) (qm (by decide) (by decide)) rfl rfl in_H (by decide) w_204 rfl d_H_pay_36 ?_
  refine gq_aload_n C d_H_pay_39 rfl ?_
  refine gq_get C (g := 15) (j := k) (ci := 0) (k := 1) (v := .int (V 15 k 1)) (qm (by decide) hk) rfl rfl in_B (by decide) w_189 (by simp [qv_at]) d_H_pay_40 ?_
  refine G.eqS (st' := [.int (nI (b + 1)), .ref (al Z 5 0)]) (by first | (rw [show V 15 k 1 = nI (b + 1) from hbk]; done) | (rw [show V 15 k 1 = nI (b + 1) from hbk]; rfl)) ?_
  refine gq_iconst C (v := 1) d_H_pay_43 (by decide) ?_
  refine gq_isub C d_H_pay_44 ?_
  refine G.eqS (st' := [.int (nI b), .ref (al Z 5 0)]) (by first | (rw [show (nI (b + 1)) - 1 = nI b from (nI_pred b)]; done) | (rw [show (nI (b + 1)) - 1 = nI b from (nI_pred b)]; rfl)) ?_
  refine gq_aald C (g := 5) (j := 0) (a := b) (t0 := 3) (b := al Z 1 (b + 1)) (qm (by decide) (by decide)) rfl rfl rfl hb (by decide) rfl d_H_pay_45 ?_
  refine gq_astore_n C (lo' := [(3, .ref (al Z 1 (b + 1))), (2, .ref (al Z 15 k)), (0, .ref (al Z 0 0)), (1, .int (nI k))]) d_H_pay_46 rfl (by decide) rfl ?_
  refine gq_lconst C (v := 0) d_H_pay_47 (by decide) ?_
  refine gq_lstore C (lo' := [(4, .long 0), (3, .ref (al Z 1 (b + 1))), (2, .ref (al Z 15 k)), (0, .ref (al Z 0 0)), (1, .int (nI k))]) d_H_pay_48 (by decide) rfl ?_
  refine gq_iconst C (v := 0) d_H_pay_50 (by decide) ?_
  refine gq_istore C (lo' := [(6, .int 0), (4, .long 0), (3, .ref (al Z 1 (b + 1))), (2, .ref (al Z 15 k)), (0, .ref (al Z 0 0)), (1, .int (nI k))]) d_H_pay_51 (by decide) rfl ?_
  refine G.eqY (Y' := quY Y 17 0 (Y 17 0)) (quY_self _ _ _).symm ?_
  exact loop 8 0 (Y 17 0) 0 rfl hE
