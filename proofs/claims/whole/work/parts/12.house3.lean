/-! PriceHouse: calls with loops: fetch, leastFor, pay -/
def f_fetch (t : Int32) : Nat → Nat → qV → qV
  | 0, _, V => V
  | r + 1, b, V => f_fetch t r (b + 1) (f_put V 0 t (nI b) 0)

set_option maxHeartbeats 4000000 in
set_option maxRecDepth 100000 in
theorem c_H_fetch (l : Launch) (Z : qZ) (hZ : qok (pX Z)) (V : qV) (Y : qY) (t : Nat) (ht : t < 4) (h n : Nat) (hh : h ≤ n) (hn : n ≤ 9) (h1 : V 7 t 1 = nI h) (h2 : V 0 0 2 = nI n) (hc : ∃ q, q ≤ 40 ∧ V 12 0 4 = nI q) : CT l y_H_fetch { frames := 7, cells := 0, slots := 0, locals := 116 } (pX Z) (qA (pX Z)) [.ref (al Z 0 0), .int (nI t)] V Y (.inl (some (.int (nI n - nI h)))) (f_fetch (nI t) (n - h) (h + 1) V) Y := by
  refine CT.of (cc := b_H_fetch) (maxL := 4) (ret := (some .int)) hZ (by decide) w_425 (Nat.le_of_ble_eq_true rfl) ?_
  intro p e s m below meth c C hr hex hlt
  generalize hVE : f_fetch (nI t) (n - h) (h + 1) V = VE
  have loop : ∀ (r b : Nat) (V : qV), b + r = n + 1 → V 0 0 2 = nI n → (∃ q, q ≤ 40 ∧ V 12 0 4 = nI q) → f_fetch (nI t) r b V = VE → G p l e { frames := 7, cells := 0, slots := 0, locals := 116 } s m ([.ref (al Z 0 0), .int (nI t)] : List Value).toArray below meth c (qQ below (pX Z) (qA (pX Z)) { frames := 7, cells := 0, slots := 0, locals := 116 } (.inl (some (.int (nI n - nI h)))) VE Y s) (pX Z) 4 (qA (pX Z)) V Y 0 0 18 [(3, .int (nI b)), (2, .int (nI h)), (0, .ref (al Z 0 0)), (1, .int (nI t))] [] := by
    intro r
    induction r with
    | zero =>
      intro b V hb h2 hcn hE
      obtain rfl : V = VE := hE
      refine gq_iload_n C d_H_fetch_18 rfl ?_
      refine gq_aload_n C d_H_fetch_19 rfl ?_
      refine gq_get C (g := 0) (j := 0) (ci := 7) (k := 2) (v := .int (V 0 0 2)) (qm (by decide) (by decide)) rfl rfl in_H (by decide) w_205 rfl d_H_fetch_20 ?_
      refine G.eqS (st' := [.int (nI n), .int (nI b)]) (by first | (rw [show V 0 0 2 = nI n from h2]; done) | (rw [show V 0 0 2 = nI n from h2]; rfl)) ?_
      refine gq_icmp_gt C (tgt := 43) d_H_fetch_23 rfl (fun hb23 => ?_) (fun hq => by exact absurd (show nI n < nI b from nI_lt (by omega) (by omega)) hq)
      refine gq_aload_n C d_H_fetch_43 rfl ?_
      refine gq_get C (g := 0) (j := 0) (ci := 7) (k := 2) (v := .int (V 0 0 2)) (qm (by decide) (by decide)) rfl rfl in_H (by decide) w_205 rfl d_H_fetch_44 ?_
      refine G.eqS (st' := [.int (nI n)]) (by first | (rw [show V 0 0 2 = nI n from h2]; done) | (rw [show V 0 0 2 = nI n from h2]; rfl)) ?_
      refine gq_iload_n C d_H_fetch_47 rfl ?_
      refine gq_isub C d_H_fetch_48 ?_
      exact gq_iret C hr (by decide) (by decide) d_H_fetch_49
    | succ r ih =>
      intro b V hb h2 hcn hE
      refine gq_iload_n C d_H_fetch_18 rfl ?_
      refine gq_aload_n C d_H_fetch_19 rfl ?_
      refine gq_get C (g := 0) (j := 0) (ci := 7) (k := 2) (v := .int (V 0 0 2)) (qm (by decide) (by decide)) rfl rfl in_H (by decide) w_205 rfl d_H_fetch_20 ?_
      refine G.eqS (st' := [.int (nI n), .int (nI b)]) (by first | (rw [show V 0 0 2 = nI n from h2]; done) | (rw [show V 0 0 2 = nI n from h2]; rfl)) ?_
      refine gq_icmp_gt C (tgt := 43) d_H_fetch_23 rfl (fun hq => by exact absurd (show nI n < nI b from hq) (nI_nlt (by omega) (by omega))) (fun hb23 => ?_)
      refine gq_aload_n C d_H_fetch_26 rfl ?_
      refine gq_get C (g := 0) (j := 0) (ci := 7) (k := 5) (v := .ref (al Z 12 0)) (qm (by decide) (by decide)) rfl rfl in_H (by decide) w_208 rfl d_H_fetch_27 ?_
      refine gq_iconst C (v := 0) d_H_fetch_30 (by decide) ?_
      refine gq_iload_n C d_H_fetch_31 rfl ?_
      refine gq_iload_n C d_H_fetch_32 rfl ?_
      refine gq_iconst C (v := 0) d_H_fetch_33 (by decide) ?_
      refine gq_callV C (st := []) (fun _ h => h) (c_R_put l Z hZ _ _ hcn 0 (nI t) (nI b) 0) (qm (by decide) (by decide)) rfl rfl w_362 w_363 w_364 w_365 w_7 ⟨by decide, by decide, (by decide +kernel : (parseMethodDescriptor y_R_post.desc).map (fun d => d.parameters.length) = some 4)⟩ ⟨by decide, by decide⟩ ⟨by decide, by decide⟩ rfl (Nat.le_of_ble_eq_true rfl) d_H_fetch_34 ?_
      refine gq_iinc C (k := 0) (w := nI (b + 1)) (lo' := [(3, .int (nI (b + 1))), (2, .int (nI h)), (0, .ref (al Z 0 0)), (1, .int (nI t))]) d_H_fetch_37 rfl (nI_1 b) (by decide) rfl ?_
      refine gq_goto C (tgt := 18) d_H_fetch_40 rfl ?_
      exact ih (b + 1) _ (by omega) (by rw [f_put_fr _ _ _ _ _ _ (by decide)]; exact h2) (f_put_cnt _ _ _ _ hcn) hE
  refine gq_iload_n C d_H_fetch_0 rfl ?_
  refine gq_callS C (st := []) (fun _ h => h.elim) (c_H_checkTill l Z hZ _ _ (nI t) (f_t0 ht) (f_t4 ht)) w_426 w_427 w_428 w_1 ⟨by decide, by decide, (by decide +kernel : (parseMethodDescriptor y_H_checkTill.desc).map (fun d => d.parameters.length) = some 1)⟩ ⟨by decide, by decide⟩ ⟨by decide, by decide⟩ rfl (Nat.le_of_ble_eq_true rfl) d_H_fetch_1 ?_
  refine gq_aload_n C d_H_fetch_4 rfl ?_
  refine gq_get C (g := 0) (j := 0) (ci := 7) (k := 3) (v := .ref (al Z 6 0)) (qm (by decide) (by decide)) rfl rfl in_H (by decide) w_206 rfl d_H_fetch_5 ?_
  refine gq_iload_n C d_H_fetch_8 rfl ?_
  refine gq_aald C (g := 6) (j := 0) (a := t) (t0 := 4) (b := al Z 7 t) (qm (by decide) (by decide)) rfl rfl rfl ht (by decide) rfl d_H_fetch_9 ?_
  refine gq_get C (g := 7) (j := t) (ci := 6) (k := 1) (v := .int (V 7 t 1)) (qm (by decide) ht) rfl rfl in_T (by decide) w_72 rfl d_H_fetch_10 ?_
  refine G.eqS (st' := [.int (nI h)]) (by first | (rw [show V 7 t 1 = nI h from h1]; done) | (rw [show V 7 t 1 = nI h from h1]; rfl)) ?_
  refine gq_istore_n C (lo' := [(2, .int (nI h)), (0, .ref (al Z 0 0)), (1, .int (nI t))]) d_H_fetch_13 rfl (by decide) rfl ?_
  refine gq_iload_n C d_H_fetch_14 rfl ?_
  refine gq_iconst C (v := 1) d_H_fetch_15 (by decide) ?_
  refine gq_iadd C d_H_fetch_16 ?_
  refine G.eqS (st' := [.int (nI (h + 1))]) (by first | (rw [show (nI h) + 1 = nI (h + 1) from (nI_1 h)]; done) | (rw [show (nI h) + 1 = nI (h + 1) from (nI_1 h)]; rfl)) ?_
  refine gq_istore_n C (lo' := [(3, .int (nI (h + 1))), (2, .int (nI h)), (0, .ref (al Z 0 0)), (1, .int (nI t))]) d_H_fetch_17 rfl (by decide) rfl ?_
  exact loop (n - h) (h + 1) V (by omega) h2 hc hVE
