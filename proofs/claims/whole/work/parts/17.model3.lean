/-! the reference: its calls with loops: publish, tick, fetch, open, pay -/
def g_fetch (t : Int32) : Nat → Nat → qV → qV
  | 0, _, V => V
  | r + 1, b, V => g_fetch t r (b + 1) (g_put V 0 t (nI b) 0)
def g_count (V : qV) (t : Int32) : Nat → Int32
  | 0 => 0
  | k + 1 => g_count V t k + (if V 40 0 k = 0 then 0 else if V 38 0 k = t then 1 else 0)
def g_hour (V : qV) : qV := qv (qv (qv (qv (qv V 24 0 0 (V 24 0 0 + V 25 0 0)) 24 0 1 (V 24 0 1 + V 25 0 1)) 24 0 2 (V 24 0 2 + V 25 0 2)) 24 0 3 (V 24 0 3 + V 25 0 3)) 24 0 4 (V 24 0 4 + V 25 0 4)
def g_ticks : Nat → qV → qV
  | 0, V => V
  | r + 1, V => g_ticks r (g_look (g_hour V))
def g_cp (base : Nat) : Nat → Nat → (Nat → Int32) → (Nat → Int32)
  | 0, _, f => f
  | r + 1, k, f => g_cp base r (k + 1) (upd f (base + k) (f k))
theorem g_cp_at (base : Nat) : ∀ (r k : Nat) (f : Nat → Int32) (j : Nat), k + r ≤ base → g_cp base r k f j = if base + k ≤ j ∧ j < base + k + r then f (j - base) else f j := by
  intro r
  induction r with
  | zero => intro k f j h; rw [if_neg (by omega)]; rfl
  | succ r ih =>
    intro k f j h
    show g_cp base r (k + 1) (upd f (base + k) (f k)) j = _
    rw [ih _ _ _ (by omega)]
    by_cases h1 : j = base + k
    · subst h1
      rw [if_neg (by omega), if_pos (by omega), pk_us, show base + k - base = k by omega]
    · by_cases h2 : base + k ≤ j ∧ j < base + k + (r + 1)
      · rw [if_pos (by omega), if_pos h2, pk_un (by omega)]
      · rw [if_neg (by omega), if_neg h2, pk_un h1]

set_option maxHeartbeats 4000000 in
set_option maxRecDepth 100000 in
theorem c_M_fetch (l : Launch) (Z : qZ) (hZ : qok (pX Z)) (V : qV) (Y : qY) (t : Nat) (ht : t < 4) (hnt : g_not (nI t) 4 = 0) (h n : Nat) (hh : h ≤ n) (hn : n ≤ 9) (h1 : V 26 0 t = nI h) (h2 : V 20 0 1 = nI n) (hc : ∃ q, q ≤ 40 ∧ V 20 0 22 = nI q) : CT l y_M_fetch { frames := 2, cells := 0, slots := 0, locals := 64 } (pX Z) (qA (pX Z)) [.ref (al Z 20 0), .int (nI t)] V Y (.inl (some (.int (nI n - nI h)))) (g_fetch (nI t) (n - h) (h + 1) (qv V 20 0 0 0)) Y := by
  refine CT.of (cc := b_M_fetch) (maxL := 3) (ret := (some .int)) hZ (by decide) w_808 (Nat.le_of_ble_eq_true rfl) ?_
  intro p e s m below meth c C hr hex hlt
  generalize hVE : g_fetch (nI t) (n - h) (h + 1) (qv V 20 0 0 0) = VE
  have loop : ∀ (r b : Nat) (V : qV), b + r = n + 1 → V 26 0 t = nI h → V 20 0 1 = nI n → (∃ q, q ≤ 40 ∧ V 20 0 22 = nI q) → g_fetch (nI t) r b V = VE → G p l e { frames := 2, cells := 0, slots := 0, locals := 64 } s m ([.ref (al Z 20 0), .int (nI t)] : List Value).toArray below meth c (qQ below (pX Z) (qA (pX Z)) { frames := 2, cells := 0, slots := 0, locals := 64 } (.inl (some (.int (nI n - nI h)))) VE Y s) (pX Z) 3 (qA (pX Z)) V Y 0 0 35 [(2, .int (nI b)), (0, .ref (al Z 20 0)), (1, .int (nI t))] [] := by
    intro r
    induction r with
    | zero =>
      intro b V hb h1 h2 hcn hE
      obtain rfl : V = VE := hE
      refine gq_iload_n C d_M_fetch_35 rfl ?_
      refine gq_aload_n C d_M_fetch_36 rfl ?_
      refine gq_get C (g := 20) (j := 0) (ci := 8) (k := 1) (v := .int (V 20 0 1)) (qm (by decide) (by decide)) rfl rfl in_M (by decide) w_662 rfl d_M_fetch_37 ?_
      refine G.eqS (st' := [.int (nI n), .int (nI b)]) (by first | (rw [show V 20 0 1 = nI n from h2]; done) | (rw [show V 20 0 1 = nI n from h2]; rfl)) ?_
      refine gq_icmp_gt C (tgt := 57) d_M_fetch_40 rfl (fun hb40 => ?_) (fun hq => by exact absurd (show nI n < nI b from nI_lt (by omega) (by omega)) hq)
      refine gq_aload_n C d_M_fetch_57 rfl ?_
      refine gq_get C (g := 20) (j := 0) (ci := 8) (k := 1) (v := .int (V 20 0 1)) (qm (by decide) (by decide)) rfl rfl in_M (by decide) w_662 rfl d_M_fetch_58 ?_
      refine G.eqS (st' := [.int (nI n)]) (by first | (rw [show V 20 0 1 = nI n from h2]; done) | (rw [show V 20 0 1 = nI n from h2]; rfl)) ?_
      refine gq_aload_n C d_M_fetch_61 rfl ?_
      refine gq_get C (g := 20) (j := 0) (ci := 8) (k := 7) (v := .ref (al Z 26 0)) (qm (by decide) (by decide)) rfl rfl in_M (by decide) w_668 rfl d_M_fetch_62 ?_
      refine gq_iload_n C d_M_fetch_65 rfl ?_
      refine gq_iald C (g := 26) (j := 0) (a := t) (t0 := 0) (qm (by decide) (by decide)) rfl rfl rfl ht (by decide) d_M_fetch_66 ?_
      refine G.eqS (st' := [.int (nI h), .int (nI n)]) (by first | (rw [show V 26 0 t = nI h from h1]; done) | (rw [show V 26 0 t = nI h from h1]; rfl)) ?_
      refine gq_isub C d_M_fetch_67 ?_
      exact gq_iret C hr (by decide) (by decide) d_M_fetch_68
    | succ r ih =>
      intro b V hb h1 h2 hcn hE
      refine gq_iload_n C d_M_fetch_35 rfl ?_
      refine gq_aload_n C d_M_fetch_36 rfl ?_
      refine gq_get C (g := 20) (j := 0) (ci := 8) (k := 1) (v := .int (V 20 0 1)) (qm (by decide) (by decide)) rfl rfl in_M (by decide) w_662 rfl d_M_fetch_37 ?_
      refine G.eqS (st' := [.int (nI n), .int (nI b)]) (by first | (rw [show V 20 0 1 = nI n from h2]; done) | (rw [show V 20 0 1 = nI n from h2]; rfl)) ?_
      refine gq_icmp_gt C (tgt := 57) d_M_fetch_40 rfl (fun hq => by exact absurd (show nI n < nI b from hq) (nI_nlt (by omega) (by omega))) (fun hb40 => ?_)
      refine gq_aload_n C d_M_fetch_43 rfl ?_
      refine gq_iconst C (v := 0) d_M_fetch_44 (by decide) ?_
      refine gq_iload_n C d_M_fetch_45 rfl ?_
      refine gq_iload_n C d_M_fetch_46 rfl ?_
      refine gq_iconst C (v := 0) d_M_fetch_47 (by decide) ?_
      refine gq_callV C (st := []) (fun _ h => h) (c_M_put l Z hZ _ _ hcn 0 (nI t) (nI b) 0) (qm (by decide) (by decide)) rfl rfl w_773 w_775 ws_M_post w_776 w_9 ⟨by decide, by decide, (by decide +kernel : (parseMethodDescriptor y_M_post.desc).map (fun d => d.parameters.length) = some 4)⟩ ⟨by decide, by decide⟩ ⟨by decide, by decide⟩ rfl (Nat.le_of_ble_eq_true rfl) d_M_fetch_48 ?_
      refine gq_iinc C (k := 0) (w := nI (b + 1)) (lo' := [(2, .int (nI (b + 1))), (0, .ref (al Z 20 0)), (1, .int (nI t))]) d_M_fetch_51 rfl (nI_1 b) (by decide) rfl ?_
      refine gq_goto C (tgt := 35) d_M_fetch_54 rfl ?_
      exact ih (b + 1) _ (by omega) (by rw [g_put_fr _ _ _ _ _ _ (by decide)]; exact h1) (by rw [g_put_20 _ _ _ _ _ _ (by decide)]; exact h2) (g_put_cnt _ _ _ _ hcn) hE
  refine gq_aload_n C d_M_fetch_0 rfl ?_
  refine gq_iload_n C d_M_fetch_1 rfl ?_
  refine gq_iconst C (v := 4) d_M_fetch_2 (by decide) ?_
  refine gq_callS C (st := [.ref (al Z 20 0)]) (fun _ h => h.elim) (c_M_not l Z hZ _ _ (nI t) 4) w_761 w_762 w_763 w_9 ⟨by decide, by decide, (by decide +kernel : (parseMethodDescriptor y_M_not.desc).map (fun d => d.parameters.length) = some 2)⟩ ⟨by decide, by decide⟩ ⟨by decide, by decide⟩ rfl (Nat.le_of_ble_eq_true rfl) d_M_fetch_3 ?_
  refine gq_if_eq C (tgt := 13) d_M_fetch_6 rfl (fun hb6 => ?_) (fun hb => by exact absurd hnt hb)
  refine gq_iconst C (v := 0) d_M_fetch_13 (by decide) ?_
  refine gq_put C (fun _ h => h) (g := 20) (j := 0) (ci := 8) (k := 0) ft_M k_M n_M (qm (by decide) (by decide)) rfl rfl in_M (by decide) w_661 rfl (k_M 0 (by decide)) rfl rfl (Nat.le_of_ble_eq_true rfl) rfl d_M_fetch_14 ?_
  refine gq_aload_n C d_M_fetch_17 rfl ?_
  refine gq_get C (g := 20) (j := 0) (ci := 8) (k := 0) (v := .int 0) (qm (by decide) (by decide)) rfl rfl in_M (by decide) w_661 rfl d_M_fetch_18 ?_
  refine gq_if_eq C (tgt := 26) d_M_fetch_21 rfl (fun hb21 => ?_) (fun hb => by exact absurd hb (by decide))
  refine gq_aload_n C d_M_fetch_26 rfl ?_
  refine gq_get C (g := 20) (j := 0) (ci := 8) (k := 7) (v := .ref (al Z 26 0)) (qm (by decide) (by decide)) rfl rfl in_M (by decide) w_668 rfl d_M_fetch_27 ?_
  refine gq_iload_n C d_M_fetch_30 rfl ?_
  refine gq_iald C (g := 26) (j := 0) (a := t) (t0 := 0) (qm (by decide) (by decide)) rfl rfl rfl ht (by decide) d_M_fetch_31 ?_
  refine G.eqS (st' := [.int (V 26 0 t)]) rfl ?_
  refine G.eqS (st' := [.int (nI h)]) (by first | (rw [show V 26 0 t = nI h from h1]; done) | (rw [show V 26 0 t = nI h from h1]; rfl)) ?_
  refine gq_iconst C (v := 1) d_M_fetch_32 (by decide) ?_
  refine gq_iadd C d_M_fetch_33 ?_
  refine G.eqS (st' := [.int (nI (h + 1))]) (by first | (rw [show (nI h) + 1 = nI (h + 1) from (nI_1 h)]; done) | (rw [show (nI h) + 1 = nI (h + 1) from (nI_1 h)]; rfl)) ?_
  refine gq_istore_n C (lo' := [(2, .int (nI (h + 1))), (0, .ref (al Z 20 0)), (1, .int (nI t))]) d_M_fetch_34 rfl (by decide) rfl ?_
  exact loop (n - h) (h + 1) _ (by omega) h1 h2 hc hVE

theorem d_M_tick_0 : decode b_M_tick 0 = .ok (.aload_n 0, 1) := by decide +kernel
theorem d_M_tick_1 : decode b_M_tick 1 = .ok (.iload_n 1, 1) := by decide +kernel
theorem d_M_tick_2 : decode b_M_tick 2 = .ok (.iconst 1, 1) := by decide +kernel
theorem d_M_tick_3 : decode b_M_tick 3 = .ok (.if_icmp .lt 10, 3) := by decide +kernel
theorem d_M_tick_6 : decode b_M_tick 6 = .ok (.iload_n 1, 1) := by decide +kernel
theorem d_M_tick_7 : decode b_M_tick 7 = .ok (.sipush 500, 3) := by decide +kernel
theorem d_M_tick_10 : decode b_M_tick 10 = .ok (.if_icmp .le 7, 3) := by decide +kernel
theorem d_M_tick_13 : decode b_M_tick 13 = .ok (.iconst 1, 1) := by decide +kernel
theorem d_M_tick_14 : decode b_M_tick 14 = .ok (.goto 4, 3) := by decide +kernel
theorem d_M_tick_17 : decode b_M_tick 17 = .ok (.iconst 0, 1) := by decide +kernel
theorem d_M_tick_18 : decode b_M_tick 18 = .ok (.putfield 7, 3) := by decide +kernel
theorem d_M_tick_21 : decode b_M_tick 21 = .ok (.aload_n 0, 1) := by decide +kernel
theorem d_M_tick_22 : decode b_M_tick 22 = .ok (.getfield 7, 3) := by decide +kernel
theorem d_M_tick_25 : decode b_M_tick 25 = .ok (.ifCond .eq 5, 3) := by decide +kernel
theorem d_M_tick_28 : decode b_M_tick 28 = .ok (.iconst 0, 1) := by decide +kernel
theorem d_M_tick_29 : decode b_M_tick 29 = .ok (.ireturn, 1) := by decide +kernel
theorem d_M_tick_30 : decode b_M_tick 30 = .ok (.iconst 0, 1) := by decide +kernel
theorem d_M_tick_31 : decode b_M_tick 31 = .ok (.istore_n 2, 1) := by decide +kernel
theorem d_M_tick_32 : decode b_M_tick 32 = .ok (.iload_n 2, 1) := by decide +kernel
theorem d_M_tick_33 : decode b_M_tick 33 = .ok (.iload_n 1, 1) := by decide +kernel
theorem d_M_tick_34 : decode b_M_tick 34 = .ok (.if_icmp .ge 45, 3) := by decide +kernel
theorem d_M_tick_37 : decode b_M_tick 37 = .ok (.iconst 0, 1) := by decide +kernel
theorem d_M_tick_38 : decode b_M_tick 38 = .ok (.istore_n 3, 1) := by decide +kernel
theorem d_M_tick_39 : decode b_M_tick 39 = .ok (.iload_n 3, 1) := by decide +kernel
theorem d_M_tick_40 : decode b_M_tick 40 = .ok (.iconst 5, 1) := by decide +kernel
theorem d_M_tick_41 : decode b_M_tick 41 = .ok (.if_icmp .ge 28, 3) := by decide +kernel
theorem d_M_tick_44 : decode b_M_tick 44 = .ok (.aload_n 0, 1) := by decide +kernel
theorem d_M_tick_45 : decode b_M_tick 45 = .ok (.getfield 26, 3) := by decide +kernel
theorem d_M_tick_48 : decode b_M_tick 48 = .ok (.iload_n 3, 1) := by decide +kernel
theorem d_M_tick_49 : decode b_M_tick 49 = .ok (.aload_n 0, 1) := by decide +kernel
theorem d_M_tick_50 : decode b_M_tick 50 = .ok (.getfield 26, 3) := by decide +kernel
theorem d_M_tick_53 : decode b_M_tick 53 = .ok (.iload_n 3, 1) := by decide +kernel
theorem d_M_tick_54 : decode b_M_tick 54 = .ok (.iaload, 1) := by decide +kernel
theorem d_M_tick_55 : decode b_M_tick 55 = .ok (.aload_n 0, 1) := by decide +kernel
theorem d_M_tick_56 : decode b_M_tick 56 = .ok (.getfield 29, 3) := by decide +kernel
theorem d_M_tick_59 : decode b_M_tick 59 = .ok (.iload_n 3, 1) := by decide +kernel
theorem d_M_tick_60 : decode b_M_tick 60 = .ok (.iaload, 1) := by decide +kernel
theorem d_M_tick_61 : decode b_M_tick 61 = .ok (.iadd, 1) := by decide +kernel
theorem d_M_tick_62 : decode b_M_tick 62 = .ok (.iastore, 1) := by decide +kernel
theorem d_M_tick_63 : decode b_M_tick 63 = .ok (.iinc 3 1, 3) := by decide +kernel
theorem d_M_tick_66 : decode b_M_tick 66 = .ok (.goto (-27), 3) := by decide +kernel
theorem d_M_tick_69 : decode b_M_tick 69 = .ok (.aload_n 0, 1) := by decide +kernel
theorem d_M_tick_70 : decode b_M_tick 70 = .ok (.invokevirtual 120, 3) := by decide +kernel
theorem d_M_tick_73 : decode b_M_tick 73 = .ok (.iinc 2 1, 3) := by decide +kernel
theorem d_M_tick_76 : decode b_M_tick 76 = .ok (.goto (-44), 3) := by decide +kernel
theorem d_M_tick_79 : decode b_M_tick 79 = .ok (.aload_n 0, 1) := by decide +kernel
theorem d_M_tick_80 : decode b_M_tick 80 = .ok (.iconst 4, 1) := by decide +kernel
theorem d_M_tick_81 : decode b_M_tick 81 = .ok (.invokevirtual 104, 3) := by decide +kernel
theorem d_M_tick_84 : decode b_M_tick 84 = .ok (.ireturn, 1) := by decide +kernel

theorem d_M_publish_0 : decode b_M_publish 0 = .ok (.aload_n 0, 1) := by decide +kernel
theorem d_M_publish_1 : decode b_M_publish 1 = .ok (.aload_n 0, 1) := by decide +kernel
theorem d_M_publish_2 : decode b_M_publish 2 = .ok (.getfield 13, 3) := by decide +kernel
theorem d_M_publish_5 : decode b_M_publish 5 = .ok (.bipush 9, 2) := by decide +kernel
theorem d_M_publish_7 : decode b_M_publish 7 = .ok (.if_icmp .ne 7, 3) := by decide +kernel
theorem d_M_publish_10 : decode b_M_publish 10 = .ok (.iconst 1, 1) := by decide +kernel
theorem d_M_publish_11 : decode b_M_publish 11 = .ok (.goto 4, 3) := by decide +kernel
theorem d_M_publish_14 : decode b_M_publish 14 = .ok (.iconst 0, 1) := by decide +kernel
theorem d_M_publish_15 : decode b_M_publish 15 = .ok (.putfield 7, 3) := by decide +kernel
theorem d_M_publish_18 : decode b_M_publish 18 = .ok (.aload_n 0, 1) := by decide +kernel
theorem d_M_publish_19 : decode b_M_publish 19 = .ok (.getfield 7, 3) := by decide +kernel
theorem d_M_publish_22 : decode b_M_publish 22 = .ok (.ifCond .eq 5, 3) := by decide +kernel
theorem d_M_publish_25 : decode b_M_publish 25 = .ok (.iconst 0, 1) := by decide +kernel
theorem d_M_publish_26 : decode b_M_publish 26 = .ok (.ireturn, 1) := by decide +kernel
theorem d_M_publish_27 : decode b_M_publish 27 = .ok (.aload_n 0, 1) := by decide +kernel
theorem d_M_publish_28 : decode b_M_publish 28 = .ok (.dup, 1) := by decide +kernel
theorem d_M_publish_29 : decode b_M_publish 29 = .ok (.getfield 13, 3) := by decide +kernel
theorem d_M_publish_32 : decode b_M_publish 32 = .ok (.iconst 1, 1) := by decide +kernel
theorem d_M_publish_33 : decode b_M_publish 33 = .ok (.iadd, 1) := by decide +kernel
theorem d_M_publish_34 : decode b_M_publish 34 = .ok (.putfield 13, 3) := by decide +kernel
theorem d_M_publish_37 : decode b_M_publish 37 = .ok (.iconst 0, 1) := by decide +kernel
theorem d_M_publish_38 : decode b_M_publish 38 = .ok (.istore_n 1, 1) := by decide +kernel
theorem d_M_publish_39 : decode b_M_publish 39 = .ok (.iload_n 1, 1) := by decide +kernel
theorem d_M_publish_40 : decode b_M_publish 40 = .ok (.bipush 8, 2) := by decide +kernel
theorem d_M_publish_42 : decode b_M_publish 42 = .ok (.if_icmp .ge 29, 3) := by decide +kernel
theorem d_M_publish_45 : decode b_M_publish 45 = .ok (.aload_n 0, 1) := by decide +kernel
theorem d_M_publish_46 : decode b_M_publish 46 = .ok (.getfield 16, 3) := by decide +kernel
theorem d_M_publish_49 : decode b_M_publish 49 = .ok (.bipush 8, 2) := by decide +kernel
theorem d_M_publish_51 : decode b_M_publish 51 = .ok (.aload_n 0, 1) := by decide +kernel
theorem d_M_publish_52 : decode b_M_publish 52 = .ok (.getfield 13, 3) := by decide +kernel
theorem d_M_publish_55 : decode b_M_publish 55 = .ok (.imul, 1) := by decide +kernel
theorem d_M_publish_56 : decode b_M_publish 56 = .ok (.iload_n 1, 1) := by decide +kernel
theorem d_M_publish_57 : decode b_M_publish 57 = .ok (.iadd, 1) := by decide +kernel
theorem d_M_publish_58 : decode b_M_publish 58 = .ok (.aload_n 0, 1) := by decide +kernel
theorem d_M_publish_59 : decode b_M_publish 59 = .ok (.getfield 16, 3) := by decide +kernel
theorem d_M_publish_62 : decode b_M_publish 62 = .ok (.iload_n 1, 1) := by decide +kernel
theorem d_M_publish_63 : decode b_M_publish 63 = .ok (.iaload, 1) := by decide +kernel
theorem d_M_publish_64 : decode b_M_publish 64 = .ok (.iastore, 1) := by decide +kernel
theorem d_M_publish_65 : decode b_M_publish 65 = .ok (.iinc 1 1, 3) := by decide +kernel
theorem d_M_publish_68 : decode b_M_publish 68 = .ok (.goto (-29), 3) := by decide +kernel
theorem d_M_publish_71 : decode b_M_publish 71 = .ok (.iconst 0, 1) := by decide +kernel
theorem d_M_publish_72 : decode b_M_publish 72 = .ok (.istore_n 1, 1) := by decide +kernel
theorem d_M_publish_73 : decode b_M_publish 73 = .ok (.iload_n 1, 1) := by decide +kernel
theorem d_M_publish_74 : decode b_M_publish 74 = .ok (.bipush 16, 2) := by decide +kernel
theorem d_M_publish_76 : decode b_M_publish 76 = .ok (.if_icmp .ge 49, 3) := by decide +kernel
theorem d_M_publish_79 : decode b_M_publish 79 = .ok (.aload_n 0, 1) := by decide +kernel
theorem d_M_publish_80 : decode b_M_publish 80 = .ok (.getfield 20, 3) := by decide +kernel
theorem d_M_publish_83 : decode b_M_publish 83 = .ok (.bipush 16, 2) := by decide +kernel
theorem d_M_publish_85 : decode b_M_publish 85 = .ok (.aload_n 0, 1) := by decide +kernel
theorem d_M_publish_86 : decode b_M_publish 86 = .ok (.getfield 13, 3) := by decide +kernel
theorem d_M_publish_89 : decode b_M_publish 89 = .ok (.imul, 1) := by decide +kernel
theorem d_M_publish_90 : decode b_M_publish 90 = .ok (.iload_n 1, 1) := by decide +kernel
theorem d_M_publish_91 : decode b_M_publish 91 = .ok (.iadd, 1) := by decide +kernel
theorem d_M_publish_92 : decode b_M_publish 92 = .ok (.aload_n 0, 1) := by decide +kernel
theorem d_M_publish_93 : decode b_M_publish 93 = .ok (.getfield 20, 3) := by decide +kernel
theorem d_M_publish_96 : decode b_M_publish 96 = .ok (.iload_n 1, 1) := by decide +kernel
theorem d_M_publish_97 : decode b_M_publish 97 = .ok (.iaload, 1) := by decide +kernel
theorem d_M_publish_98 : decode b_M_publish 98 = .ok (.iastore, 1) := by decide +kernel
theorem d_M_publish_99 : decode b_M_publish 99 = .ok (.aload_n 0, 1) := by decide +kernel
theorem d_M_publish_100 : decode b_M_publish 100 = .ok (.getfield 23, 3) := by decide +kernel
theorem d_M_publish_103 : decode b_M_publish 103 = .ok (.bipush 16, 2) := by decide +kernel
theorem d_M_publish_105 : decode b_M_publish 105 = .ok (.aload_n 0, 1) := by decide +kernel
theorem d_M_publish_106 : decode b_M_publish 106 = .ok (.getfield 13, 3) := by decide +kernel
theorem d_M_publish_109 : decode b_M_publish 109 = .ok (.imul, 1) := by decide +kernel
theorem d_M_publish_110 : decode b_M_publish 110 = .ok (.iload_n 1, 1) := by decide +kernel
theorem d_M_publish_111 : decode b_M_publish 111 = .ok (.iadd, 1) := by decide +kernel
theorem d_M_publish_112 : decode b_M_publish 112 = .ok (.aload_n 0, 1) := by decide +kernel
theorem d_M_publish_113 : decode b_M_publish 113 = .ok (.getfield 23, 3) := by decide +kernel
theorem d_M_publish_116 : decode b_M_publish 116 = .ok (.iload_n 1, 1) := by decide +kernel
theorem d_M_publish_117 : decode b_M_publish 117 = .ok (.iaload, 1) := by decide +kernel
theorem d_M_publish_118 : decode b_M_publish 118 = .ok (.iastore, 1) := by decide +kernel
theorem d_M_publish_119 : decode b_M_publish 119 = .ok (.iinc 1 1, 3) := by decide +kernel
theorem d_M_publish_122 : decode b_M_publish 122 = .ok (.goto (-49), 3) := by decide +kernel
theorem d_M_publish_125 : decode b_M_publish 125 = .ok (.iconst 0, 1) := by decide +kernel
theorem d_M_publish_126 : decode b_M_publish 126 = .ok (.istore_n 1, 1) := by decide +kernel
theorem d_M_publish_127 : decode b_M_publish 127 = .ok (.iload_n 1, 1) := by decide +kernel
theorem d_M_publish_128 : decode b_M_publish 128 = .ok (.iconst 4, 1) := by decide +kernel
theorem d_M_publish_129 : decode b_M_publish 129 = .ok (.if_icmp .ge 20, 3) := by decide +kernel
theorem d_M_publish_132 : decode b_M_publish 132 = .ok (.aload_n 0, 1) := by decide +kernel
theorem d_M_publish_133 : decode b_M_publish 133 = .ok (.iconst 0, 1) := by decide +kernel
theorem d_M_publish_134 : decode b_M_publish 134 = .ok (.iload_n 1, 1) := by decide +kernel
theorem d_M_publish_135 : decode b_M_publish 135 = .ok (.aload_n 0, 1) := by decide +kernel
theorem d_M_publish_136 : decode b_M_publish 136 = .ok (.getfield 13, 3) := by decide +kernel
theorem d_M_publish_139 : decode b_M_publish 139 = .ok (.iconst 0, 1) := by decide +kernel
theorem d_M_publish_140 : decode b_M_publish 140 = .ok (.invokevirtual 112, 3) := by decide +kernel
theorem d_M_publish_143 : decode b_M_publish 143 = .ok (.iinc 1 1, 3) := by decide +kernel
theorem d_M_publish_146 : decode b_M_publish 146 = .ok (.goto (-19), 3) := by decide +kernel
theorem d_M_publish_149 : decode b_M_publish 149 = .ok (.aload_n 0, 1) := by decide +kernel
theorem d_M_publish_150 : decode b_M_publish 150 = .ok (.getfield 13, 3) := by decide +kernel
theorem d_M_publish_153 : decode b_M_publish 153 = .ok (.ireturn, 1) := by decide +kernel

theorem d_M_cheapest_0 : decode b_M_cheapest 0 = .ok (.aload_n 0, 1) := by decide +kernel
theorem d_M_cheapest_1 : decode b_M_cheapest 1 = .ok (.getfield 100, 3) := by decide +kernel
theorem d_M_cheapest_4 : decode b_M_cheapest 4 = .ok (.iconst 0, 1) := by decide +kernel
theorem d_M_cheapest_5 : decode b_M_cheapest 5 = .ok (.lconst 0, 1) := by decide +kernel
theorem d_M_cheapest_6 : decode b_M_cheapest 6 = .ok (.lastore, 1) := by decide +kernel
theorem d_M_cheapest_7 : decode b_M_cheapest 7 = .ok (.iconst 1, 1) := by decide +kernel
theorem d_M_cheapest_8 : decode b_M_cheapest 8 = .ok (.istore 4, 2) := by decide +kernel
theorem d_M_cheapest_10 : decode b_M_cheapest 10 = .ok (.iload 4, 2) := by decide +kernel
theorem d_M_cheapest_12 : decode b_M_cheapest 12 = .ok (.iload_n 3, 1) := by decide +kernel
theorem d_M_cheapest_13 : decode b_M_cheapest 13 = .ok (.if_icmp .gt 154, 3) := by decide +kernel
theorem d_M_cheapest_16 : decode b_M_cheapest 16 = .ok (.aload_n 0, 1) := by decide +kernel
theorem d_M_cheapest_17 : decode b_M_cheapest 17 = .ok (.getfield 100, 3) := by decide +kernel
theorem d_M_cheapest_20 : decode b_M_cheapest 20 = .ok (.iload 4, 2) := by decide +kernel
theorem d_M_cheapest_22 : decode b_M_cheapest 22 = .ok (.aload_n 0, 1) := by decide +kernel
theorem d_M_cheapest_23 : decode b_M_cheapest 23 = .ok (.getfield 100, 3) := by decide +kernel
theorem d_M_cheapest_26 : decode b_M_cheapest 26 = .ok (.iload 4, 2) := by decide +kernel
theorem d_M_cheapest_28 : decode b_M_cheapest 28 = .ok (.iconst 1, 1) := by decide +kernel
theorem d_M_cheapest_29 : decode b_M_cheapest 29 = .ok (.isub, 1) := by decide +kernel
theorem d_M_cheapest_30 : decode b_M_cheapest 30 = .ok (.laload, 1) := by decide +kernel
theorem d_M_cheapest_31 : decode b_M_cheapest 31 = .ok (.aload_n 0, 1) := by decide +kernel
theorem d_M_cheapest_32 : decode b_M_cheapest 32 = .ok (.getfield 16, 3) := by decide +kernel
theorem d_M_cheapest_35 : decode b_M_cheapest 35 = .ok (.bipush 8, 2) := by decide +kernel
theorem d_M_cheapest_37 : decode b_M_cheapest 37 = .ok (.iload_n 1, 1) := by decide +kernel
theorem d_M_cheapest_38 : decode b_M_cheapest 38 = .ok (.imul, 1) := by decide +kernel
theorem d_M_cheapest_39 : decode b_M_cheapest 39 = .ok (.iload_n 2, 1) := by decide +kernel
theorem d_M_cheapest_40 : decode b_M_cheapest 40 = .ok (.iadd, 1) := by decide +kernel
theorem d_M_cheapest_41 : decode b_M_cheapest 41 = .ok (.iaload, 1) := by decide +kernel
theorem d_M_cheapest_42 : decode b_M_cheapest 42 = .ok (.i2l, 1) := by decide +kernel
theorem d_M_cheapest_43 : decode b_M_cheapest 43 = .ok (.ladd, 1) := by decide +kernel
theorem d_M_cheapest_44 : decode b_M_cheapest 44 = .ok (.lastore, 1) := by decide +kernel
theorem d_M_cheapest_45 : decode b_M_cheapest 45 = .ok (.iconst 0, 1) := by decide +kernel
theorem d_M_cheapest_46 : decode b_M_cheapest 46 = .ok (.istore 5, 2) := by decide +kernel
theorem d_M_cheapest_48 : decode b_M_cheapest 48 = .ok (.iload 5, 2) := by decide +kernel
theorem d_M_cheapest_50 : decode b_M_cheapest 50 = .ok (.iconst 2, 1) := by decide +kernel
theorem d_M_cheapest_51 : decode b_M_cheapest 51 = .ok (.if_icmp .ge 110, 3) := by decide +kernel
theorem d_M_cheapest_54 : decode b_M_cheapest 54 = .ok (.bipush 16, 2) := by decide +kernel
theorem d_M_cheapest_56 : decode b_M_cheapest 56 = .ok (.iload_n 1, 1) := by decide +kernel
theorem d_M_cheapest_57 : decode b_M_cheapest 57 = .ok (.imul, 1) := by decide +kernel
theorem d_M_cheapest_58 : decode b_M_cheapest 58 = .ok (.iconst 2, 1) := by decide +kernel
theorem d_M_cheapest_59 : decode b_M_cheapest 59 = .ok (.iload_n 2, 1) := by decide +kernel
theorem d_M_cheapest_60 : decode b_M_cheapest 60 = .ok (.imul, 1) := by decide +kernel
theorem d_M_cheapest_61 : decode b_M_cheapest 61 = .ok (.iadd, 1) := by decide +kernel
theorem d_M_cheapest_62 : decode b_M_cheapest 62 = .ok (.iload 5, 2) := by decide +kernel
theorem d_M_cheapest_64 : decode b_M_cheapest 64 = .ok (.iadd, 1) := by decide +kernel
theorem d_M_cheapest_65 : decode b_M_cheapest 65 = .ok (.istore 6, 2) := by decide +kernel
theorem d_M_cheapest_67 : decode b_M_cheapest 67 = .ok (.aload_n 0, 1) := by decide +kernel
theorem d_M_cheapest_68 : decode b_M_cheapest 68 = .ok (.getfield 20, 3) := by decide +kernel
theorem d_M_cheapest_71 : decode b_M_cheapest 71 = .ok (.iload 6, 2) := by decide +kernel
theorem d_M_cheapest_73 : decode b_M_cheapest 73 = .ok (.iaload, 1) := by decide +kernel
theorem d_M_cheapest_74 : decode b_M_cheapest 74 = .ok (.ifCond .le 81, 3) := by decide +kernel
theorem d_M_cheapest_77 : decode b_M_cheapest 77 = .ok (.aload_n 0, 1) := by decide +kernel
theorem d_M_cheapest_78 : decode b_M_cheapest 78 = .ok (.getfield 20, 3) := by decide +kernel
theorem d_M_cheapest_81 : decode b_M_cheapest 81 = .ok (.iload 6, 2) := by decide +kernel
theorem d_M_cheapest_83 : decode b_M_cheapest 83 = .ok (.iaload, 1) := by decide +kernel
theorem d_M_cheapest_84 : decode b_M_cheapest 84 = .ok (.iload 4, 2) := by decide +kernel
theorem d_M_cheapest_86 : decode b_M_cheapest 86 = .ok (.if_icmp .gt 69, 3) := by decide +kernel
theorem d_M_cheapest_89 : decode b_M_cheapest 89 = .ok (.aload_n 0, 1) := by decide +kernel
theorem d_M_cheapest_90 : decode b_M_cheapest 90 = .ok (.getfield 100, 3) := by decide +kernel
theorem d_M_cheapest_93 : decode b_M_cheapest 93 = .ok (.iload 4, 2) := by decide +kernel
theorem d_M_cheapest_95 : decode b_M_cheapest 95 = .ok (.aload_n 0, 1) := by decide +kernel
theorem d_M_cheapest_96 : decode b_M_cheapest 96 = .ok (.getfield 20, 3) := by decide +kernel
theorem d_M_cheapest_99 : decode b_M_cheapest 99 = .ok (.iload 6, 2) := by decide +kernel
theorem d_M_cheapest_101 : decode b_M_cheapest 101 = .ok (.iaload, 1) := by decide +kernel
theorem d_M_cheapest_102 : decode b_M_cheapest 102 = .ok (.isub, 1) := by decide +kernel
theorem d_M_cheapest_103 : decode b_M_cheapest 103 = .ok (.laload, 1) := by decide +kernel
theorem d_M_cheapest_104 : decode b_M_cheapest 104 = .ok (.aload_n 0, 1) := by decide +kernel
theorem d_M_cheapest_105 : decode b_M_cheapest 105 = .ok (.getfield 23, 3) := by decide +kernel
theorem d_M_cheapest_108 : decode b_M_cheapest 108 = .ok (.iload 6, 2) := by decide +kernel
theorem d_M_cheapest_110 : decode b_M_cheapest 110 = .ok (.iaload, 1) := by decide +kernel
theorem d_M_cheapest_111 : decode b_M_cheapest 111 = .ok (.i2l, 1) := by decide +kernel
theorem d_M_cheapest_112 : decode b_M_cheapest 112 = .ok (.ladd, 1) := by decide +kernel
theorem d_M_cheapest_113 : decode b_M_cheapest 113 = .ok (.aload_n 0, 1) := by decide +kernel
theorem d_M_cheapest_114 : decode b_M_cheapest 114 = .ok (.getfield 100, 3) := by decide +kernel
theorem d_M_cheapest_117 : decode b_M_cheapest 117 = .ok (.iload 4, 2) := by decide +kernel
theorem d_M_cheapest_119 : decode b_M_cheapest 119 = .ok (.laload, 1) := by decide +kernel
theorem d_M_cheapest_120 : decode b_M_cheapest 120 = .ok (.lcmp, 1) := by decide +kernel
theorem d_M_cheapest_121 : decode b_M_cheapest 121 = .ok (.ifCond .ge 34, 3) := by decide +kernel
theorem d_M_cheapest_124 : decode b_M_cheapest 124 = .ok (.aload_n 0, 1) := by decide +kernel
theorem d_M_cheapest_125 : decode b_M_cheapest 125 = .ok (.getfield 100, 3) := by decide +kernel
theorem d_M_cheapest_128 : decode b_M_cheapest 128 = .ok (.iload 4, 2) := by decide +kernel
theorem d_M_cheapest_130 : decode b_M_cheapest 130 = .ok (.aload_n 0, 1) := by decide +kernel
theorem d_M_cheapest_131 : decode b_M_cheapest 131 = .ok (.getfield 100, 3) := by decide +kernel
theorem d_M_cheapest_134 : decode b_M_cheapest 134 = .ok (.iload 4, 2) := by decide +kernel
theorem d_M_cheapest_136 : decode b_M_cheapest 136 = .ok (.aload_n 0, 1) := by decide +kernel
theorem d_M_cheapest_137 : decode b_M_cheapest 137 = .ok (.getfield 20, 3) := by decide +kernel
theorem d_M_cheapest_140 : decode b_M_cheapest 140 = .ok (.iload 6, 2) := by decide +kernel
theorem d_M_cheapest_142 : decode b_M_cheapest 142 = .ok (.iaload, 1) := by decide +kernel
theorem d_M_cheapest_143 : decode b_M_cheapest 143 = .ok (.isub, 1) := by decide +kernel
theorem d_M_cheapest_144 : decode b_M_cheapest 144 = .ok (.laload, 1) := by decide +kernel
theorem d_M_cheapest_145 : decode b_M_cheapest 145 = .ok (.aload_n 0, 1) := by decide +kernel
theorem d_M_cheapest_146 : decode b_M_cheapest 146 = .ok (.getfield 23, 3) := by decide +kernel
theorem d_M_cheapest_149 : decode b_M_cheapest 149 = .ok (.iload 6, 2) := by decide +kernel
theorem d_M_cheapest_151 : decode b_M_cheapest 151 = .ok (.iaload, 1) := by decide +kernel
theorem d_M_cheapest_152 : decode b_M_cheapest 152 = .ok (.i2l, 1) := by decide +kernel
theorem d_M_cheapest_153 : decode b_M_cheapest 153 = .ok (.ladd, 1) := by decide +kernel
theorem d_M_cheapest_154 : decode b_M_cheapest 154 = .ok (.lastore, 1) := by decide +kernel
theorem d_M_cheapest_155 : decode b_M_cheapest 155 = .ok (.iinc 5 1, 3) := by decide +kernel
theorem d_M_cheapest_158 : decode b_M_cheapest 158 = .ok (.goto (-110), 3) := by decide +kernel
theorem d_M_cheapest_161 : decode b_M_cheapest 161 = .ok (.iinc 4 1, 3) := by decide +kernel
theorem d_M_cheapest_164 : decode b_M_cheapest 164 = .ok (.goto (-154), 3) := by decide +kernel
theorem d_M_cheapest_167 : decode b_M_cheapest 167 = .ok (.aload_n 0, 1) := by decide +kernel
theorem d_M_cheapest_168 : decode b_M_cheapest 168 = .ok (.getfield 100, 3) := by decide +kernel
theorem d_M_cheapest_171 : decode b_M_cheapest 171 = .ok (.iload_n 3, 1) := by decide +kernel
theorem d_M_cheapest_172 : decode b_M_cheapest 172 = .ok (.laload, 1) := by decide +kernel
theorem d_M_cheapest_173 : decode b_M_cheapest 173 = .ok (.lreturn, 1) := by decide +kernel

set_option maxHeartbeats 4000000 in
set_option maxRecDepth 100000 in
theorem c_M_tick (l : Launch) (Z : qZ) (hZ : qok (pX Z)) (V : qV) (Y : qY) (n : Nat) (hn : n ≤ 500) (h1 : ¬ nI n < 1) (h2 : nI n ≤ 500) : CT l y_M_tick { frames := 4, cells := 0, slots := 0, locals := 103 } (pX Z) (qA (pX Z)) [.ref (al Z 20 0), .int (nI n)] V Y (.inl (some (.int ((g_ticks n (qv V 20 0 0 0)) 24 0 4 / 100)))) (g_ticks n (qv V 20 0 0 0)) Y := by
  refine CT.of (cc := b_M_tick) (maxL := 4) (ret := (some .int)) hZ (by decide) w_800 (Nat.le_of_ble_eq_true rfl) ?_
  intro p e s m below meth c C hr hex hlt
  generalize hVE : g_ticks n (qv V 20 0 0 0) = VE
  have loop : ∀ (r i : Nat) (V : qV) (lx : List (Nat × Value)), i + r = n → g_ticks r V = VE → (∀ q ∈ ([(2, .int (nI i)), (0, .ref (al Z 20 0)), (1, .int (nI n))] : List (Nat × Value)), q ∈ lx) → G p l e { frames := 4, cells := 0, slots := 0, locals := 103 } s m ([.ref (al Z 20 0), .int (nI n)] : List Value).toArray below meth c (qQ below (pX Z) (qA (pX Z)) { frames := 4, cells := 0, slots := 0, locals := 103 } (.inl (some (.int (VE 24 0 4 / 100)))) VE Y s) (pX Z) 4 (qA (pX Z)) V Y 0 0 32 lx [] := by
    intro r
    induction r with
    | zero =>
      intro i V lx hi hE hx
      obtain rfl : V = VE := hE
      refine G.sub hx ?_
      refine gq_iload_n C d_M_tick_32 rfl ?_
      refine gq_iload_n C d_M_tick_33 rfl ?_
      refine gq_icmp_ge C (tgt := 79) d_M_tick_34 rfl (fun hb34 => ?_) (fun hb => by exact absurd (nI_le (by omega) (by omega)) hb)
      refine gq_aload_n C d_M_tick_79 rfl ?_
      refine gq_iconst C (v := 4) d_M_tick_80 (by decide) ?_
      refine gq_callV C (st := []) (fun _ h => h.elim) (c_M_clock l Z hZ _ _ 4 (by decide)) (qm (by decide) (by decide)) rfl rfl w_785 w_787 ws_M_clock w_788 w_9 ⟨by decide, by decide, (by decide +kernel : (parseMethodDescriptor y_M_clock.desc).map (fun d => d.parameters.length) = some 1)⟩ ⟨by decide, by decide⟩ ⟨by decide, by decide⟩ rfl (Nat.le_of_ble_eq_true rfl) d_M_tick_81 ?_
      exact gq_iret C hr (by decide) (by decide) d_M_tick_84
    | succ r ih =>
      intro i V lx hi hE hx
      refine G.sub hx ?_
      refine gq_iload_n C d_M_tick_32 rfl ?_
      refine gq_iload_n C d_M_tick_33 rfl ?_
      refine gq_icmp_ge C (tgt := 79) d_M_tick_34 rfl (fun hb => by exact absurd hb (nI_ge (by omega) (by omega))) (fun hb34 => ?_)
      refine gq_iconst C (v := 0) d_M_tick_37 (by decide) ?_
      refine gq_istore_n C (lo' := [(3, .int 0), (2, .int (nI i)), (0, .ref (al Z 20 0)), (1, .int (nI n))]) d_M_tick_38 rfl (by decide) rfl ?_
      refine gq_iload_n C d_M_tick_39 rfl ?_
      refine gq_iconst C (v := 5) d_M_tick_40 (by decide) ?_
      refine gq_icmp_ge C (tgt := 69) d_M_tick_41 rfl (fun hb => by exact absurd hb (by decide)) (fun hb41 => ?_)
      refine gq_aload_n C d_M_tick_44 rfl ?_
      refine gq_get C (g := 20) (j := 0) (ci := 8) (k := 5) (v := .ref (al Z 24 0)) (qm (by decide) (by decide)) rfl rfl in_M (by decide) w_666 rfl d_M_tick_45 ?_
      refine gq_iload_n C d_M_tick_48 rfl ?_
      refine gq_aload_n C d_M_tick_49 rfl ?_
      refine gq_get C (g := 20) (j := 0) (ci := 8) (k := 5) (v := .ref (al Z 24 0)) (qm (by decide) (by decide)) rfl rfl in_M (by decide) w_666 rfl d_M_tick_50 ?_
      refine gq_iload_n C d_M_tick_53 rfl ?_
      refine gq_iald C (g := 24) (j := 0) (a := 0) (t0 := 0) (qm (by decide) (by decide)) rfl rfl rfl (by decide) (by decide) d_M_tick_54 ?_
      refine gq_aload_n C d_M_tick_55 rfl ?_
      refine gq_get C (g := 20) (j := 0) (ci := 8) (k := 6) (v := .ref (al Z 25 0)) (qm (by decide) (by decide)) rfl rfl in_M (by decide) w_667 rfl d_M_tick_56 ?_
      refine gq_iload_n C d_M_tick_59 rfl ?_
      refine gq_iald C (g := 25) (j := 0) (a := 0) (t0 := 0) (qm (by decide) (by decide)) rfl rfl rfl (by decide) (by decide) d_M_tick_60 ?_
      refine gq_iadd C d_M_tick_61 ?_
      refine gq_iast C (fun _ h => h) (g := 24) (j := 0) (a := 0) (t0 := 0) (qm (by decide) (by decide)) (fun _ => rfl) rfl rfl (by decide) (by decide) d_M_tick_62 ?_
      refine gq_iinc C (k := 0) (w := 1) (lo' := [(3, .int 1), (2, .int (nI i)), (0, .ref (al Z 20 0)), (1, .int (nI n))]) d_M_tick_63 rfl (by decide) (by decide) rfl ?_
      refine gq_goto C (tgt := 39) d_M_tick_66 rfl ?_
      refine gq_iload_n C d_M_tick_39 rfl ?_
      refine gq_iconst C (v := 5) d_M_tick_40 (by decide) ?_
      refine gq_icmp_ge C (tgt := 69) d_M_tick_41 rfl (fun hb => by exact absurd hb (by decide)) (fun hb41 => ?_)
      refine gq_aload_n C d_M_tick_44 rfl ?_
      refine gq_get C (g := 20) (j := 0) (ci := 8) (k := 5) (v := .ref (al Z 24 0)) (qm (by decide) (by decide)) rfl rfl in_M (by decide) w_666 rfl d_M_tick_45 ?_
      refine gq_iload_n C d_M_tick_48 rfl ?_
      refine gq_aload_n C d_M_tick_49 rfl ?_
      refine gq_get C (g := 20) (j := 0) (ci := 8) (k := 5) (v := .ref (al Z 24 0)) (qm (by decide) (by decide)) rfl rfl in_M (by decide) w_666 rfl d_M_tick_50 ?_
      refine gq_iload_n C d_M_tick_53 rfl ?_
      refine gq_iald C (g := 24) (j := 0) (a := 1) (t0 := 0) (qm (by decide) (by decide)) rfl rfl rfl (by decide) (by decide) d_M_tick_54 ?_
      refine G.eqS (st' := [.int (V 24 0 1), .int 1, .ref (al Z 24 0)]) rfl ?_
      refine gq_aload_n C d_M_tick_55 rfl ?_
      refine gq_get C (g := 20) (j := 0) (ci := 8) (k := 6) (v := .ref (al Z 25 0)) (qm (by decide) (by decide)) rfl rfl in_M (by decide) w_667 rfl d_M_tick_56 ?_
      refine gq_iload_n C d_M_tick_59 rfl ?_
      refine gq_iald C (g := 25) (j := 0) (a := 1) (t0 := 0) (qm (by decide) (by decide)) rfl rfl rfl (by decide) (by decide) d_M_tick_60 ?_
      refine G.eqS (st' := [.int (V 25 0 1), .int (V 24 0 1), .int 1, .ref (al Z 24 0)]) rfl ?_
      refine gq_iadd C d_M_tick_61 ?_
      refine gq_iast C (fun _ h => h) (g := 24) (j := 0) (a := 1) (t0 := 0) (qm (by decide) (by decide)) (fun _ => rfl) rfl rfl (by decide) (by decide) d_M_tick_62 ?_
      refine gq_iinc C (k := 0) (w := 2) (lo' := [(3, .int 2), (2, .int (nI i)), (0, .ref (al Z 20 0)), (1, .int (nI n))]) d_M_tick_63 rfl (by decide) (by decide) rfl ?_
      refine gq_goto C (tgt := 39) d_M_tick_66 rfl ?_
      refine gq_iload_n C d_M_tick_39 rfl ?_
      refine gq_iconst C (v := 5) d_M_tick_40 (by decide) ?_
      refine gq_icmp_ge C (tgt := 69) d_M_tick_41 rfl (fun hb => by exact absurd hb (by decide)) (fun hb41 => ?_)
      refine gq_aload_n C d_M_tick_44 rfl ?_
      refine gq_get C (g := 20) (j := 0) (ci := 8) (k := 5) (v := .ref (al Z 24 0)) (qm (by decide) (by decide)) rfl rfl in_M (by decide) w_666 rfl d_M_tick_45 ?_
      refine gq_iload_n C d_M_tick_48 rfl ?_
      refine gq_aload_n C d_M_tick_49 rfl ?_
      refine gq_get C (g := 20) (j := 0) (ci := 8) (k := 5) (v := .ref (al Z 24 0)) (qm (by decide) (by decide)) rfl rfl in_M (by decide) w_666 rfl d_M_tick_50 ?_
      refine gq_iload_n C d_M_tick_53 rfl ?_
      refine gq_iald C (g := 24) (j := 0) (a := 2) (t0 := 0) (qm (by decide) (by decide)) rfl rfl rfl (by decide) (by decide) d_M_tick_54 ?_
      refine G.eqS (st' := [.int (V 24 0 2), .int 2, .ref (al Z 24 0)]) rfl ?_
      refine gq_aload_n C d_M_tick_55 rfl ?_
      refine gq_get C (g := 20) (j := 0) (ci := 8) (k := 6) (v := .ref (al Z 25 0)) (qm (by decide) (by decide)) rfl rfl in_M (by decide) w_667 rfl d_M_tick_56 ?_
      refine gq_iload_n C d_M_tick_59 rfl ?_
      refine gq_iald C (g := 25) (j := 0) (a := 2) (t0 := 0) (qm (by decide) (by decide)) rfl rfl rfl (by decide) (by decide) d_M_tick_60 ?_
      refine G.eqS (st' := [.int (V 25 0 2), .int (V 24 0 2), .int 2, .ref (al Z 24 0)]) rfl ?_
      refine gq_iadd C d_M_tick_61 ?_
      refine gq_iast C (fun _ h => h) (g := 24) (j := 0) (a := 2) (t0 := 0) (qm (by decide) (by decide)) (fun _ => rfl) rfl rfl (by decide) (by decide) d_M_tick_62 ?_
      refine gq_iinc C (k := 0) (w := 3) (lo' := [(3, .int 3), (2, .int (nI i)), (0, .ref (al Z 20 0)), (1, .int (nI n))]) d_M_tick_63 rfl (by decide) (by decide) rfl ?_
      refine gq_goto C (tgt := 39) d_M_tick_66 rfl ?_
      refine gq_iload_n C d_M_tick_39 rfl ?_
      refine gq_iconst C (v := 5) d_M_tick_40 (by decide) ?_
      refine gq_icmp_ge C (tgt := 69) d_M_tick_41 rfl (fun hb => by exact absurd hb (by decide)) (fun hb41 => ?_)
      refine gq_aload_n C d_M_tick_44 rfl ?_
      refine gq_get C (g := 20) (j := 0) (ci := 8) (k := 5) (v := .ref (al Z 24 0)) (qm (by decide) (by decide)) rfl rfl in_M (by decide) w_666 rfl d_M_tick_45 ?_
      refine gq_iload_n C d_M_tick_48 rfl ?_
      refine gq_aload_n C d_M_tick_49 rfl ?_
      refine gq_get C (g := 20) (j := 0) (ci := 8) (k := 5) (v := .ref (al Z 24 0)) (qm (by decide) (by decide)) rfl rfl in_M (by decide) w_666 rfl d_M_tick_50 ?_
      refine gq_iload_n C d_M_tick_53 rfl ?_
      refine gq_iald C (g := 24) (j := 0) (a := 3) (t0 := 0) (qm (by decide) (by decide)) rfl rfl rfl (by decide) (by decide) d_M_tick_54 ?_
      refine G.eqS (st' := [.int (V 24 0 3), .int 3, .ref (al Z 24 0)]) rfl ?_
      refine gq_aload_n C d_M_tick_55 rfl ?_
      refine gq_get C (g := 20) (j := 0) (ci := 8) (k := 6) (v := .ref (al Z 25 0)) (qm (by decide) (by decide)) rfl rfl in_M (by decide) w_667 rfl d_M_tick_56 ?_
      refine gq_iload_n C d_M_tick_59 rfl ?_
      refine gq_iald C (g := 25) (j := 0) (a := 3) (t0 := 0) (qm (by decide) (by decide)) rfl rfl rfl (by decide) (by decide) d_M_tick_60 ?_
      refine G.eqS (st' := [.int (V 25 0 3), .int (V 24 0 3), .int 3, .ref (al Z 24 0)]) rfl ?_
      refine gq_iadd C d_M_tick_61 ?_
      refine gq_iast C (fun _ h => h) (g := 24) (j := 0) (a := 3) (t0 := 0) (qm (by decide) (by decide)) (fun _ => rfl) rfl rfl (by decide) (by decide) d_M_tick_62 ?_
      refine gq_iinc C (k := 0) (w := 4) (lo' := [(3, .int 4), (2, .int (nI i)), (0, .ref (al Z 20 0)), (1, .int (nI n))]) d_M_tick_63 rfl (by decide) (by decide) rfl ?_
      refine gq_goto C (tgt := 39) d_M_tick_66 rfl ?_
      refine gq_iload_n C d_M_tick_39 rfl ?_
      refine gq_iconst C (v := 5) d_M_tick_40 (by decide) ?_
      refine gq_icmp_ge C (tgt := 69) d_M_tick_41 rfl (fun hb => by exact absurd hb (by decide)) (fun hb41 => ?_)
      refine gq_aload_n C d_M_tick_44 rfl ?_
      refine gq_get C (g := 20) (j := 0) (ci := 8) (k := 5) (v := .ref (al Z 24 0)) (qm (by decide) (by decide)) rfl rfl in_M (by decide) w_666 rfl d_M_tick_45 ?_
      refine gq_iload_n C d_M_tick_48 rfl ?_
      refine gq_aload_n C d_M_tick_49 rfl ?_
      refine gq_get C (g := 20) (j := 0) (ci := 8) (k := 5) (v := .ref (al Z 24 0)) (qm (by decide) (by decide)) rfl rfl in_M (by decide) w_666 rfl d_M_tick_50 ?_
      refine gq_iload_n C d_M_tick_53 rfl ?_
      refine gq_iald C (g := 24) (j := 0) (a := 4) (t0 := 0) (qm (by decide) (by decide)) rfl rfl rfl (by decide) (by decide) d_M_tick_54 ?_
      refine G.eqS (st' := [.int (V 24 0 4), .int 4, .ref (al Z 24 0)]) rfl ?_
      refine gq_aload_n C d_M_tick_55 rfl ?_
      refine gq_get C (g := 20) (j := 0) (ci := 8) (k := 6) (v := .ref (al Z 25 0)) (qm (by decide) (by decide)) rfl rfl in_M (by decide) w_667 rfl d_M_tick_56 ?_
      refine gq_iload_n C d_M_tick_59 rfl ?_
      refine gq_iald C (g := 25) (j := 0) (a := 4) (t0 := 0) (qm (by decide) (by decide)) rfl rfl rfl (by decide) (by decide) d_M_tick_60 ?_
      refine G.eqS (st' := [.int (V 25 0 4), .int (V 24 0 4), .int 4, .ref (al Z 24 0)]) rfl ?_
      refine gq_iadd C d_M_tick_61 ?_
      refine gq_iast C (fun _ h => h) (g := 24) (j := 0) (a := 4) (t0 := 0) (qm (by decide) (by decide)) (fun _ => rfl) rfl rfl (by decide) (by decide) d_M_tick_62 ?_
      refine gq_iinc C (k := 0) (w := 5) (lo' := [(3, .int 5), (2, .int (nI i)), (0, .ref (al Z 20 0)), (1, .int (nI n))]) d_M_tick_63 rfl (by decide) (by decide) rfl ?_
      refine gq_goto C (tgt := 39) d_M_tick_66 rfl ?_
      refine gq_iload_n C d_M_tick_39 rfl ?_
      refine gq_iconst C (v := 5) d_M_tick_40 (by decide) ?_
      refine gq_icmp_ge C (tgt := 69) d_M_tick_41 rfl (fun hb41 => ?_) (fun hb => by exact absurd hb (by decide))
      refine gq_aload_n C d_M_tick_69 rfl ?_
      refine gq_callV C (st := []) (fun _ h => h) (c_M_look l Z hZ _ _) (qm (by decide) (by decide)) rfl rfl w_781 w_783 ws_M_look w_784 w_9 ⟨by decide, by decide, (by decide +kernel : (parseMethodDescriptor y_M_look.desc).map (fun d => d.parameters.length) = some 0)⟩ ⟨by decide, by decide⟩ ⟨by decide, by decide⟩ rfl (Nat.le_of_ble_eq_true rfl) d_M_tick_70 ?_
      refine gq_iinc C (k := 1) (w := nI (i + 1)) (lo' := [(2, .int (nI (i + 1))), (3, .int 5), (0, .ref (al Z 20 0)), (1, .int (nI n))]) d_M_tick_73 rfl (nI_1 i) (by decide) rfl ?_
      refine gq_goto C (tgt := 32) d_M_tick_76 rfl ?_
      exact ih (i + 1) _ _ (by omega) hE (fun q hq => by simp only [List.mem_cons, List.not_mem_nil, or_false] at hq ⊢; rcases hq with h | h | h <;> simp [h])
  refine gq_aload_n C d_M_tick_0 rfl ?_
  refine gq_iload_n C d_M_tick_1 rfl ?_
  refine gq_iconst C (v := 1) d_M_tick_2 (by decide) ?_
  refine gq_icmp_lt C (tgt := 13) d_M_tick_3 rfl (fun hb => by exact absurd hb h1) (fun hb3 => ?_)
  refine gq_iload_n C d_M_tick_6 rfl ?_
  refine gq_sipush C (v := 500) d_M_tick_7 (by decide) ?_
  refine gq_icmp_le C (tgt := 17) d_M_tick_10 rfl (fun hb10 => ?_) (fun hb => by exact absurd h2 hb)
  refine gq_iconst C (v := 0) d_M_tick_17 (by decide) ?_
  refine gq_put C (fun _ h => h) (g := 20) (j := 0) (ci := 8) (k := 0) ft_M k_M n_M (qm (by decide) (by decide)) rfl rfl in_M (by decide) w_661 rfl (k_M 0 (by decide)) rfl rfl (Nat.le_of_ble_eq_true rfl) rfl d_M_tick_18 ?_
  refine gq_aload_n C d_M_tick_21 rfl ?_
  refine gq_get C (g := 20) (j := 0) (ci := 8) (k := 0) (v := .int 0) (qm (by decide) (by decide)) rfl rfl in_M (by decide) w_661 rfl d_M_tick_22 ?_
  refine gq_if_eq C (tgt := 30) d_M_tick_25 rfl (fun hb25 => ?_) (fun hb => by exact absurd hb (by decide))
  refine gq_iconst C (v := 0) d_M_tick_30 (by decide) ?_
  refine gq_istore_n C (lo' := [(2, .int 0), (0, .ref (al Z 20 0)), (1, .int (nI n))]) d_M_tick_31 rfl (by decide) rfl ?_
  exact loop n 0 _ _ (by omega) hVE (fun q hq => hq)

set_option maxHeartbeats 4000000 in
set_option maxRecDepth 100000 in
theorem c_M_tick_x (l : Launch) (Z : qZ) (hZ : qok (pX Z)) (V : qV) (Y : qY) (n : Int32) (h : n < 1 ∨ ¬ n ≤ 500) : CT l y_M_tick { frames := 4, cells := 0, slots := 0, locals := 103 } (pX Z) (qA (pX Z)) [.ref (al Z 20 0), .int n] V Y (.inl (some (.int 0))) (qv V 20 0 0 1) Y := by
  refine CT.of (cc := b_M_tick) (maxL := 4) (ret := (some .int)) hZ (by decide) w_800 (Nat.le_of_ble_eq_true rfl) ?_
  intro p e s m below meth c C hr hex hlt
  refine gq_aload_n C d_M_tick_0 rfl ?_
  refine gq_iload_n C d_M_tick_1 rfl ?_
  refine gq_iconst C (v := 1) d_M_tick_2 (by decide) ?_
  refine gq_icmp_lt C (tgt := 13) d_M_tick_3 rfl (fun hb3 => ?_) (fun hb3 => ?_)
  · skip
    refine gq_iconst C (v := 1) d_M_tick_13 (by decide) ?_
    refine gq_goto C (tgt := 18) d_M_tick_14 rfl ?_
    refine gq_put C (fun _ h => h) (g := 20) (j := 0) (ci := 8) (k := 0) ft_M k_M n_M (qm (by decide) (by decide)) rfl rfl in_M (by decide) w_661 rfl (k_M 0 (by decide)) rfl rfl (Nat.le_of_ble_eq_true rfl) rfl d_M_tick_18 ?_
    refine gq_aload_n C d_M_tick_21 rfl ?_
    refine gq_get C (g := 20) (j := 0) (ci := 8) (k := 0) (v := .int 1) (qm (by decide) (by decide)) rfl rfl in_M (by decide) w_661 rfl d_M_tick_22 ?_
    refine gq_if_eq C (tgt := 30) d_M_tick_25 rfl (fun hb => by exact absurd hb (by decide)) (fun hb25 => ?_)
    refine gq_iconst C (v := 0) d_M_tick_28 (by decide) ?_
    exact gq_iretE C hr rfl rfl rfl (by decide) (by decide) d_M_tick_29
  · skip
    refine gq_iload_n C d_M_tick_6 rfl ?_
    refine gq_sipush C (v := 500) d_M_tick_7 (by decide) ?_
    refine gq_icmp_le C (tgt := 17) d_M_tick_10 rfl (fun hb => by first | contradiction | (rcases h with h | h <;> contradiction)) (fun hb10 => ?_)
    refine gq_iconst C (v := 1) d_M_tick_13 (by decide) ?_
    refine gq_goto C (tgt := 18) d_M_tick_14 rfl ?_
    refine gq_put C (fun _ h => h) (g := 20) (j := 0) (ci := 8) (k := 0) ft_M k_M n_M (qm (by decide) (by decide)) rfl rfl in_M (by decide) w_661 rfl (k_M 0 (by decide)) rfl rfl (Nat.le_of_ble_eq_true rfl) rfl d_M_tick_18 ?_
    refine gq_aload_n C d_M_tick_21 rfl ?_
    refine gq_get C (g := 20) (j := 0) (ci := 8) (k := 0) (v := .int 1) (qm (by decide) (by decide)) rfl rfl in_M (by decide) w_661 rfl d_M_tick_22 ?_
    refine gq_if_eq C (tgt := 30) d_M_tick_25 rfl (fun hb => by exact absurd hb (by decide)) (fun hb25 => ?_)
    refine gq_iconst C (v := 0) d_M_tick_28 (by decide) ?_
    exact gq_iretE C hr rfl rfl rfl (by decide) (by decide) d_M_tick_29

set_option maxHeartbeats 4000000 in
set_option maxRecDepth 100000 in
theorem c_M_open (l : Launch) (Z : qZ) (hZ : qok (pX Z)) (V : qV) (Y : qY) (t : Nat) (ht : t < 4) (hnt : g_not (nI t) 4 = 0) (k : Nat) (hk : k ≤ 40) (h24 : V 20 0 24 = nI k) (hk2 : k < 40) (h1 : ¬ g_lease V t = 0) (h3 : ¬ g_count V (nI t) k = 3) : CT l y_M_open { frames := 3, cells := 0, slots := 0, locals := 84 } (pX Z) (qA (pX Z)) [.ref (al Z 20 0), .int (nI t)] V Y (.inl (some (.int (nI k)))) (qv (qv (qv (qv (qv V 20 0 0 0) 38 0 k (nI t)) 39 0 k (g_lease V t)) 40 0 k 1) 20 0 24 (V 20 0 24 + 1)) Y := by
  refine CT.of (cc := b_M_open) (maxL := 4) (ret := (some .int)) hZ (by decide) w_868 (Nat.le_of_ble_eq_true rfl) ?_
  intro p e s m below meth c C hr hex hlt
  have loop : G p l e { frames := 3, cells := 0, slots := 0, locals := 84 } s m ([.ref (al Z 20 0), .int (nI t)] : List Value).toArray below meth c (qQ below (pX Z) (qA (pX Z)) { frames := 3, cells := 0, slots := 0, locals := 84 } (.inl (some (.int (nI k)))) (qv (qv (qv (qv (qv V 20 0 0 0) 38 0 k (nI t)) 39 0 k (g_lease V t)) 40 0 k 1) 20 0 24 (V 20 0 24 + 1)) Y s) (pX Z) 4 (qA (pX Z)) (qv V 20 0 0 0) Y 0 0 71 [(3, .int (nI k)), (2, .int (g_count V (nI t) k)), (0, .ref (al Z 20 0)), (1, .int (nI t))] [] → ∀ (r i : Nat), i + r = k → G p l e { frames := 3, cells := 0, slots := 0, locals := 84 } s m ([.ref (al Z 20 0), .int (nI t)] : List Value).toArray below meth c (qQ below (pX Z) (qA (pX Z)) { frames := 3, cells := 0, slots := 0, locals := 84 } (.inl (some (.int (nI k)))) (qv (qv (qv (qv (qv V 20 0 0 0) 38 0 k (nI t)) 39 0 k (g_lease V t)) 40 0 k 1) 20 0 24 (V 20 0 24 + 1)) Y s) (pX Z) 4 (qA (pX Z)) (qv V 20 0 0 0) Y 0 0 30 [(3, .int (nI i)), (2, .int (g_count V (nI t) i)), (0, .ref (al Z 20 0)), (1, .int (nI t))] [] := by
    intro kk r
    induction r with
    | zero =>
      intro i hi
      obtain rfl : i = k := by omega
      refine gq_iload_n C d_M_open_30 rfl ?_
      refine gq_aload_n C d_M_open_31 rfl ?_
      refine gq_get C (g := 20) (j := 0) (ci := 8) (k := 24) (v := .int (V 20 0 24)) (qm (by decide) (by decide)) rfl rfl in_M (by decide) w_685 rfl d_M_open_32 ?_
      refine G.eqS (st' := [.int (nI i), .int (nI i)]) (by first | (rw [show V 20 0 24 = nI i from h24]; done) | (rw [show V 20 0 24 = nI i from h24]; rfl)) ?_
      refine gq_icmp_ge C (tgt := 71) d_M_open_35 rfl (fun hb35 => ?_) (fun hb => by exact absurd (nI_le (Nat.le_refl _) (by omega)) hb)
      exact kk
    | succ r ih =>
      intro i hi
      refine gq_iload_n C d_M_open_30 rfl ?_
      refine gq_aload_n C d_M_open_31 rfl ?_
      refine gq_get C (g := 20) (j := 0) (ci := 8) (k := 24) (v := .int (V 20 0 24)) (qm (by decide) (by decide)) rfl rfl in_M (by decide) w_685 rfl d_M_open_32 ?_
      refine G.eqS (st' := [.int (nI k), .int (nI i)]) (by first | (rw [show V 20 0 24 = nI k from h24]; done) | (rw [show V 20 0 24 = nI k from h24]; rfl)) ?_
      refine gq_icmp_ge C (tgt := 71) d_M_open_35 rfl (fun hb => by exact absurd hb (nI_ge (by omega) (by omega))) (fun hb35 => ?_)
      refine gq_iload_n C d_M_open_38 rfl ?_
      refine gq_aload_n C d_M_open_39 rfl ?_
      refine gq_get C (g := 20) (j := 0) (ci := 8) (k := 27) (v := .ref (al Z 40 0)) (qm (by decide) (by decide)) rfl rfl in_M (by decide) w_688 rfl d_M_open_40 ?_
      refine gq_iload_n C d_M_open_43 rfl ?_
      refine gq_zald C (g := 40) (j := 0) (a := i) (t0 := 2) (qm (by decide) (by decide)) rfl rfl rfl (show i < 40 by omega) (by decide) d_M_open_44 ?_
      refine G.eqS (st' := [.int (V 40 0 i), .int (g_count V (nI t) i)]) rfl ?_
      refine gq_if_eq C (tgt := 62) d_M_open_45 rfl (fun hb45 => ?_) (fun hb45 => ?_)
      · skip
        refine gq_iconst C (v := 0) d_M_open_62 (by decide) ?_
        refine gq_iadd C d_M_open_63 ?_
        refine gq_istore_n C (lo' := [(2, .int ((g_count V (nI t) i) + 0)), (3, .int (nI i)), (0, .ref (al Z 20 0)), (1, .int (nI t))]) d_M_open_64 rfl (by decide) rfl ?_
        refine gq_iinc C (k := 1) (w := nI (i + 1)) (lo' := [(3, .int (nI (i + 1))), (2, .int ((g_count V (nI t) i) + 0)), (0, .ref (al Z 20 0)), (1, .int (nI t))]) d_M_open_65 rfl (nI_1 i) (by decide) rfl ?_
        refine gq_goto C (tgt := 30) d_M_open_68 rfl ?_
        refine G.sub (lo' := [(3, .int (nI (i + 1))), (2, .int (g_count V (nI t) (i + 1))), (0, .ref (al Z 20 0)), (1, .int (nI t))]) ?_ (ih (i + 1) (by omega))
        intro q hq
        simp only [List.mem_cons, List.not_mem_nil, or_false] at hq ⊢
        rcases hq with h | h | h | h
        · simp [h]
        · subst h; simp [g_count, *]
        · simp [h]
        · simp [h]
      · skip
        refine gq_aload_n C d_M_open_48 rfl ?_
        refine gq_get C (g := 20) (j := 0) (ci := 8) (k := 25) (v := .ref (al Z 38 0)) (qm (by decide) (by decide)) rfl rfl in_M (by decide) w_686 rfl d_M_open_49 ?_
        refine gq_iload_n C d_M_open_52 rfl ?_
        refine gq_iald C (g := 38) (j := 0) (a := i) (t0 := 0) (qm (by decide) (by decide)) rfl rfl rfl (show i < 40 by omega) (by decide) d_M_open_53 ?_
        refine G.eqS (st' := [.int (V 38 0 i), .int (g_count V (nI t) i)]) rfl ?_
        refine gq_iload_n C d_M_open_54 rfl ?_
        refine gq_icmp_ne C (tgt := 62) d_M_open_55 rfl (fun hb55 => ?_) (fun hb55 => ?_)
        · skip
          refine gq_iconst C (v := 0) d_M_open_62 (by decide) ?_
          refine gq_iadd C d_M_open_63 ?_
          refine gq_istore_n C (lo' := [(2, .int ((g_count V (nI t) i) + 0)), (3, .int (nI i)), (0, .ref (al Z 20 0)), (1, .int (nI t))]) d_M_open_64 rfl (by decide) rfl ?_
          refine gq_iinc C (k := 1) (w := nI (i + 1)) (lo' := [(3, .int (nI (i + 1))), (2, .int ((g_count V (nI t) i) + 0)), (0, .ref (al Z 20 0)), (1, .int (nI t))]) d_M_open_65 rfl (nI_1 i) (by decide) rfl ?_
          refine gq_goto C (tgt := 30) d_M_open_68 rfl ?_
          refine G.sub (lo' := [(3, .int (nI (i + 1))), (2, .int (g_count V (nI t) (i + 1))), (0, .ref (al Z 20 0)), (1, .int (nI t))]) ?_ (ih (i + 1) (by omega))
          intro q hq
          simp only [List.mem_cons, List.not_mem_nil, or_false] at hq ⊢
          rcases hq with h | h | h | h
          · simp [h]
          · subst h; simp [g_count, *]
          · simp [h]
          · simp [h]
        · skip
          refine gq_iconst C (v := 1) d_M_open_58 (by decide) ?_
          refine gq_goto C (tgt := 63) d_M_open_59 rfl ?_
          refine gq_iadd C d_M_open_63 ?_
          refine gq_istore_n C (lo' := [(2, .int ((g_count V (nI t) i) + 1)), (3, .int (nI i)), (0, .ref (al Z 20 0)), (1, .int (nI t))]) d_M_open_64 rfl (by decide) rfl ?_
          refine gq_iinc C (k := 1) (w := nI (i + 1)) (lo' := [(3, .int (nI (i + 1))), (2, .int ((g_count V (nI t) i) + 1)), (0, .ref (al Z 20 0)), (1, .int (nI t))]) d_M_open_65 rfl (nI_1 i) (by decide) rfl ?_
          refine gq_goto C (tgt := 30) d_M_open_68 rfl ?_
          refine G.sub (lo' := [(3, .int (nI (i + 1))), (2, .int (g_count V (nI t) (i + 1))), (0, .ref (al Z 20 0)), (1, .int (nI t))]) ?_ (ih (i + 1) (by omega))
          intro q hq
          simp only [List.mem_cons, List.not_mem_nil, or_false] at hq ⊢
          rcases hq with h | h | h | h
          · simp [h]
          · subst h; simp [g_count, *]
          · simp [h]
          · simp [h]
  have tail : G p l e { frames := 3, cells := 0, slots := 0, locals := 84 } s m ([.ref (al Z 20 0), .int (nI t)] : List Value).toArray below meth c (qQ below (pX Z) (qA (pX Z)) { frames := 3, cells := 0, slots := 0, locals := 84 } (.inl (some (.int (nI k)))) (qv (qv (qv (qv (qv V 20 0 0 0) 38 0 k (nI t)) 39 0 k (g_lease V t)) 40 0 k 1) 20 0 24 (V 20 0 24 + 1)) Y s) (pX Z) 4 (qA (pX Z)) (qv V 20 0 0 0) Y 0 0 71 [(3, .int (nI k)), (2, .int (g_count V (nI t) k)), (0, .ref (al Z 20 0)), (1, .int (nI t))] [] := by
    refine gq_aload_n C d_M_open_71 rfl ?_
    refine gq_iload_n C d_M_open_72 rfl ?_
    refine gq_callV C (st := []) (fun _ h => h.elim) (c_M_validLease l Z hZ _ _ t ht) (qm (by decide) (by decide)) rfl rfl w_825 w_827 ws_M_validLease w_828 w_9 ⟨by decide, by decide, (by decide +kernel : (parseMethodDescriptor y_M_validLease.desc).map (fun d => d.parameters.length) = some 1)⟩ ⟨by decide, by decide⟩ ⟨by decide, by decide⟩ rfl (Nat.le_of_ble_eq_true rfl) d_M_open_73 ?_
    refine G.eqS (st' := [.int (g_lease V t)]) (by first | (rw [show g_lease (qv V 20 0 0 0) t = g_lease V t from rfl]; done) | (rw [show g_lease (qv V 20 0 0 0) t = g_lease V t from rfl]; rfl)) ?_
    refine gq_if_eq C (tgt := 93) d_M_open_76 rfl (fun hb => by exact absurd hb h1) (fun hb76 => ?_)
    refine gq_iload_n C d_M_open_79 rfl ?_
    refine gq_iconst C (v := 3) d_M_open_80 (by decide) ?_
    refine gq_icmp_eq C (tgt := 93) d_M_open_81 rfl (fun hb => by exact absurd hb h3) (fun hb81 => ?_)
    refine gq_aload_n C d_M_open_84 rfl ?_
    refine gq_get C (g := 20) (j := 0) (ci := 8) (k := 24) (v := .int (V 20 0 24)) (qm (by decide) (by decide)) rfl rfl in_M (by decide) w_685 rfl d_M_open_85 ?_
    refine gq_bipush C (v := 40) d_M_open_88 (by decide) ?_
    refine gq_icmp_ne C (tgt := 100) d_M_open_90 rfl (fun hb90 => ?_) (fun hb => by exact absurd ((nI_eq (a := k) (b := 40) (by omega) (by omega)).mp (h24.symm.trans hb)) (by omega))
    refine gq_aload_n C d_M_open_100 rfl ?_
    refine gq_get C (g := 20) (j := 0) (ci := 8) (k := 25) (v := .ref (al Z 38 0)) (qm (by decide) (by decide)) rfl rfl in_M (by decide) w_686 rfl d_M_open_101 ?_
    refine gq_aload_n C d_M_open_104 rfl ?_
    refine gq_get C (g := 20) (j := 0) (ci := 8) (k := 24) (v := .int (V 20 0 24)) (qm (by decide) (by decide)) rfl rfl in_M (by decide) w_685 rfl d_M_open_105 ?_
    refine gq_iload_n C d_M_open_108 rfl ?_
    refine gq_iast C (fun _ h => h) (g := 38) (j := 0) (a := k) (t0 := 0) (qm (by decide) (by decide)) (fun _ => rfl) rfl h24 hk2 (by decide) d_M_open_109 ?_
    refine gq_aload_n C d_M_open_110 rfl ?_
    refine gq_get C (g := 20) (j := 0) (ci := 8) (k := 26) (v := .ref (al Z 39 0)) (qm (by decide) (by decide)) rfl rfl in_M (by decide) w_687 rfl d_M_open_111 ?_
    refine gq_aload_n C d_M_open_114 rfl ?_
    refine gq_get C (g := 20) (j := 0) (ci := 8) (k := 24) (v := .int (V 20 0 24)) (qm (by decide) (by decide)) rfl rfl in_M (by decide) w_685 rfl d_M_open_115 ?_
    refine gq_aload_n C d_M_open_118 rfl ?_
    refine gq_iload_n C d_M_open_119 rfl ?_
    refine gq_callV C (st := [.int (V 20 0 24), .ref (al Z 39 0)]) (fun _ h => h.elim) (c_M_validLease l Z hZ _ _ t ht) (qm (by decide) (by decide)) rfl rfl w_825 w_827 ws_M_validLease w_828 w_9 ⟨by decide, by decide, (by decide +kernel : (parseMethodDescriptor y_M_validLease.desc).map (fun d => d.parameters.length) = some 1)⟩ ⟨by decide, by decide⟩ ⟨by decide, by decide⟩ rfl (Nat.le_of_ble_eq_true rfl) d_M_open_120 ?_
    refine G.eqS (st' := [.int (g_lease V t), .int (V 20 0 24), .ref (al Z 39 0)]) (by first | (rw [show g_lease (qv (qv V 20 0 0 0) 38 0 k (nI t)) t = g_lease V t from rfl]; done) | (rw [show g_lease (qv (qv V 20 0 0 0) 38 0 k (nI t)) t = g_lease V t from rfl]; rfl)) ?_
    refine gq_iast C (fun _ h => h) (g := 39) (j := 0) (a := k) (t0 := 0) (qm (by decide) (by decide)) (fun _ => rfl) rfl h24 hk2 (by decide) d_M_open_123 ?_
    refine gq_aload_n C d_M_open_124 rfl ?_
    refine gq_get C (g := 20) (j := 0) (ci := 8) (k := 27) (v := .ref (al Z 40 0)) (qm (by decide) (by decide)) rfl rfl in_M (by decide) w_688 rfl d_M_open_125 ?_
    refine gq_aload_n C d_M_open_128 rfl ?_
    refine gq_get C (g := 20) (j := 0) (ci := 8) (k := 24) (v := .int (V 20 0 24)) (qm (by decide) (by decide)) rfl rfl in_M (by decide) w_685 rfl d_M_open_129 ?_
    refine gq_iconst C (v := 1) d_M_open_132 (by decide) ?_
    refine gq_zast C (fun _ h => h) (g := 40) (j := 0) (a := k) (t0 := 2) (qm (by decide) (by decide)) (fun _ => rfl) rfl h24 hk2 (by decide) rfl d_M_open_133 ?_
    refine gq_aload_n C d_M_open_134 rfl ?_
    refine gq_dup C d_M_open_135 rfl ?_
    refine gq_get C (g := 20) (j := 0) (ci := 8) (k := 24) (v := .int (V 20 0 24)) (qm (by decide) (by decide)) rfl rfl in_M (by decide) w_685 rfl d_M_open_136 ?_
    refine gq_iconst C (v := 1) d_M_open_139 (by decide) ?_
    refine gq_iadd C d_M_open_140 ?_
    refine gq_put C (fun _ h => h) (g := 20) (j := 0) (ci := 8) (k := 24) ft_M k_M n_M (qm (by decide) (by decide)) rfl rfl in_M (by decide) w_685 rfl (k_M 24 (by decide)) rfl rfl (Nat.le_of_ble_eq_true rfl) rfl d_M_open_141 ?_
    refine gq_aload_n C d_M_open_144 rfl ?_
    refine gq_get C (g := 20) (j := 0) (ci := 8) (k := 24) (v := .int ((V 20 0 24) + 1)) (qm (by decide) (by decide)) rfl rfl in_M (by decide) w_685 rfl d_M_open_145 ?_
    refine gq_iconst C (v := 1) d_M_open_148 (by decide) ?_
    refine gq_isub C d_M_open_149 ?_
    exact gq_iretE C hr (by (rw [h24, nI_1, nI_pred])) (by funext q1 q2 q3; simp only [qv_at]; try (split <;> rfl)) rfl (by decide) (by decide) d_M_open_150
  refine gq_aload_n C d_M_open_0 rfl ?_
  refine gq_iload_n C d_M_open_1 rfl ?_
  refine gq_iconst C (v := 4) d_M_open_2 (by decide) ?_
  refine gq_callS C (st := [.ref (al Z 20 0)]) (fun _ h => h.elim) (c_M_not l Z hZ _ _ (nI t) 4) w_761 w_762 w_763 w_9 ⟨by decide, by decide, (by decide +kernel : (parseMethodDescriptor y_M_not.desc).map (fun d => d.parameters.length) = some 2)⟩ ⟨by decide, by decide⟩ ⟨by decide, by decide⟩ rfl (Nat.le_of_ble_eq_true rfl) d_M_open_3 ?_
  refine gq_if_eq C (tgt := 13) d_M_open_6 rfl (fun hb6 => ?_) (fun hb => by exact absurd hnt hb)
  refine gq_iconst C (v := 0) d_M_open_13 (by decide) ?_
  refine gq_put C (fun _ h => h) (g := 20) (j := 0) (ci := 8) (k := 0) ft_M k_M n_M (qm (by decide) (by decide)) rfl rfl in_M (by decide) w_661 rfl (k_M 0 (by decide)) rfl rfl (Nat.le_of_ble_eq_true rfl) rfl d_M_open_14 ?_
  refine gq_aload_n C d_M_open_17 rfl ?_
  refine gq_get C (g := 20) (j := 0) (ci := 8) (k := 0) (v := .int 0) (qm (by decide) (by decide)) rfl rfl in_M (by decide) w_661 rfl d_M_open_18 ?_
  refine gq_if_eq C (tgt := 26) d_M_open_21 rfl (fun hb21 => ?_) (fun hb => by exact absurd hb (by decide))
  refine gq_iconst C (v := 0) d_M_open_26 (by decide) ?_
  refine gq_istore_n C (lo' := [(2, .int 0), (0, .ref (al Z 20 0)), (1, .int (nI t))]) d_M_open_27 rfl (by decide) rfl ?_
  refine gq_iconst C (v := 0) d_M_open_28 (by decide) ?_
  refine gq_istore_n C (lo' := [(3, .int 0), (2, .int 0), (0, .ref (al Z 20 0)), (1, .int (nI t))]) d_M_open_29 rfl (by decide) rfl ?_
  exact loop tail k 0 (by omega)

set_option maxHeartbeats 4000000 in
set_option maxRecDepth 100000 in
theorem c_M_open_x2 (l : Launch) (Z : qZ) (hZ : qok (pX Z)) (V : qV) (Y : qY) (t : Nat) (ht : t < 4) (hnt : g_not (nI t) 4 = 0) (k : Nat) (hk : k ≤ 40) (h24 : V 20 0 24 = nI k) (h : g_lease V t = 0 ∨ g_count V (nI t) k = 3 ∨ k = 40) : CT l y_M_open { frames := 3, cells := 0, slots := 0, locals := 84 } (pX Z) (qA (pX Z)) [.ref (al Z 20 0), .int (nI t)] V Y (.inl (some (.int 0))) (qv V 20 0 0 2) Y := by
  refine CT.of (cc := b_M_open) (maxL := 4) (ret := (some .int)) hZ (by decide) w_868 (Nat.le_of_ble_eq_true rfl) ?_
  intro p e s m below meth c C hr hex hlt
  have loop : G p l e { frames := 3, cells := 0, slots := 0, locals := 84 } s m ([.ref (al Z 20 0), .int (nI t)] : List Value).toArray below meth c (qQ below (pX Z) (qA (pX Z)) { frames := 3, cells := 0, slots := 0, locals := 84 } (.inl (some (.int 0))) (qv V 20 0 0 2) Y s) (pX Z) 4 (qA (pX Z)) (qv V 20 0 0 0) Y 0 0 71 [(3, .int (nI k)), (2, .int (g_count V (nI t) k)), (0, .ref (al Z 20 0)), (1, .int (nI t))] [] → ∀ (r i : Nat), i + r = k → G p l e { frames := 3, cells := 0, slots := 0, locals := 84 } s m ([.ref (al Z 20 0), .int (nI t)] : List Value).toArray below meth c (qQ below (pX Z) (qA (pX Z)) { frames := 3, cells := 0, slots := 0, locals := 84 } (.inl (some (.int 0))) (qv V 20 0 0 2) Y s) (pX Z) 4 (qA (pX Z)) (qv V 20 0 0 0) Y 0 0 30 [(3, .int (nI i)), (2, .int (g_count V (nI t) i)), (0, .ref (al Z 20 0)), (1, .int (nI t))] [] := by
    intro kk r
    induction r with
    | zero =>
      intro i hi
      obtain rfl : i = k := by omega
      refine gq_iload_n C d_M_open_30 rfl ?_
      refine gq_aload_n C d_M_open_31 rfl ?_
      refine gq_get C (g := 20) (j := 0) (ci := 8) (k := 24) (v := .int (V 20 0 24)) (qm (by decide) (by decide)) rfl rfl in_M (by decide) w_685 rfl d_M_open_32 ?_
      refine G.eqS (st' := [.int (nI i), .int (nI i)]) (by first | (rw [show V 20 0 24 = nI i from h24]; done) | (rw [show V 20 0 24 = nI i from h24]; rfl)) ?_
      refine gq_icmp_ge C (tgt := 71) d_M_open_35 rfl (fun hb35 => ?_) (fun hb => by exact absurd (nI_le (Nat.le_refl _) (by omega)) hb)
      exact kk
    | succ r ih =>
      intro i hi
      refine gq_iload_n C d_M_open_30 rfl ?_
      refine gq_aload_n C d_M_open_31 rfl ?_
      refine gq_get C (g := 20) (j := 0) (ci := 8) (k := 24) (v := .int (V 20 0 24)) (qm (by decide) (by decide)) rfl rfl in_M (by decide) w_685 rfl d_M_open_32 ?_
      refine G.eqS (st' := [.int (nI k), .int (nI i)]) (by first | (rw [show V 20 0 24 = nI k from h24]; done) | (rw [show V 20 0 24 = nI k from h24]; rfl)) ?_
      refine gq_icmp_ge C (tgt := 71) d_M_open_35 rfl (fun hb => by exact absurd hb (nI_ge (by omega) (by omega))) (fun hb35 => ?_)
      refine gq_iload_n C d_M_open_38 rfl ?_
      refine gq_aload_n C d_M_open_39 rfl ?_
      refine gq_get C (g := 20) (j := 0) (ci := 8) (k := 27) (v := .ref (al Z 40 0)) (qm (by decide) (by decide)) rfl rfl in_M (by decide) w_688 rfl d_M_open_40 ?_
      refine gq_iload_n C d_M_open_43 rfl ?_
      refine gq_zald C (g := 40) (j := 0) (a := i) (t0 := 2) (qm (by decide) (by decide)) rfl rfl rfl (show i < 40 by omega) (by decide) d_M_open_44 ?_
      refine G.eqS (st' := [.int (V 40 0 i), .int (g_count V (nI t) i)]) rfl ?_
      refine gq_if_eq C (tgt := 62) d_M_open_45 rfl (fun hb45 => ?_) (fun hb45 => ?_)
      · skip
        refine gq_iconst C (v := 0) d_M_open_62 (by decide) ?_
        refine gq_iadd C d_M_open_63 ?_
        refine gq_istore_n C (lo' := [(2, .int ((g_count V (nI t) i) + 0)), (3, .int (nI i)), (0, .ref (al Z 20 0)), (1, .int (nI t))]) d_M_open_64 rfl (by decide) rfl ?_
        refine gq_iinc C (k := 1) (w := nI (i + 1)) (lo' := [(3, .int (nI (i + 1))), (2, .int ((g_count V (nI t) i) + 0)), (0, .ref (al Z 20 0)), (1, .int (nI t))]) d_M_open_65 rfl (nI_1 i) (by decide) rfl ?_
        refine gq_goto C (tgt := 30) d_M_open_68 rfl ?_
        refine G.sub (lo' := [(3, .int (nI (i + 1))), (2, .int (g_count V (nI t) (i + 1))), (0, .ref (al Z 20 0)), (1, .int (nI t))]) ?_ (ih (i + 1) (by omega))
        intro q hq
        simp only [List.mem_cons, List.not_mem_nil, or_false] at hq ⊢
        rcases hq with h | h | h | h
        · simp [h]
        · subst h; simp [g_count, *]
        · simp [h]
        · simp [h]
      · skip
        refine gq_aload_n C d_M_open_48 rfl ?_
        refine gq_get C (g := 20) (j := 0) (ci := 8) (k := 25) (v := .ref (al Z 38 0)) (qm (by decide) (by decide)) rfl rfl in_M (by decide) w_686 rfl d_M_open_49 ?_
        refine gq_iload_n C d_M_open_52 rfl ?_
        refine gq_iald C (g := 38) (j := 0) (a := i) (t0 := 0) (qm (by decide) (by decide)) rfl rfl rfl (show i < 40 by omega) (by decide) d_M_open_53 ?_
        refine G.eqS (st' := [.int (V 38 0 i), .int (g_count V (nI t) i)]) rfl ?_
        refine gq_iload_n C d_M_open_54 rfl ?_
        refine gq_icmp_ne C (tgt := 62) d_M_open_55 rfl (fun hb55 => ?_) (fun hb55 => ?_)
        · skip
          refine gq_iconst C (v := 0) d_M_open_62 (by decide) ?_
          refine gq_iadd C d_M_open_63 ?_
          refine gq_istore_n C (lo' := [(2, .int ((g_count V (nI t) i) + 0)), (3, .int (nI i)), (0, .ref (al Z 20 0)), (1, .int (nI t))]) d_M_open_64 rfl (by decide) rfl ?_
          refine gq_iinc C (k := 1) (w := nI (i + 1)) (lo' := [(3, .int (nI (i + 1))), (2, .int ((g_count V (nI t) i) + 0)), (0, .ref (al Z 20 0)), (1, .int (nI t))]) d_M_open_65 rfl (nI_1 i) (by decide) rfl ?_
          refine gq_goto C (tgt := 30) d_M_open_68 rfl ?_
          refine G.sub (lo' := [(3, .int (nI (i + 1))), (2, .int (g_count V (nI t) (i + 1))), (0, .ref (al Z 20 0)), (1, .int (nI t))]) ?_ (ih (i + 1) (by omega))
          intro q hq
          simp only [List.mem_cons, List.not_mem_nil, or_false] at hq ⊢
          rcases hq with h | h | h | h
          · simp [h]
          · subst h; simp [g_count, *]
          · simp [h]
          · simp [h]
        · skip
          refine gq_iconst C (v := 1) d_M_open_58 (by decide) ?_
          refine gq_goto C (tgt := 63) d_M_open_59 rfl ?_
          refine gq_iadd C d_M_open_63 ?_
          refine gq_istore_n C (lo' := [(2, .int ((g_count V (nI t) i) + 1)), (3, .int (nI i)), (0, .ref (al Z 20 0)), (1, .int (nI t))]) d_M_open_64 rfl (by decide) rfl ?_
          refine gq_iinc C (k := 1) (w := nI (i + 1)) (lo' := [(3, .int (nI (i + 1))), (2, .int ((g_count V (nI t) i) + 1)), (0, .ref (al Z 20 0)), (1, .int (nI t))]) d_M_open_65 rfl (nI_1 i) (by decide) rfl ?_
          refine gq_goto C (tgt := 30) d_M_open_68 rfl ?_
          refine G.sub (lo' := [(3, .int (nI (i + 1))), (2, .int (g_count V (nI t) (i + 1))), (0, .ref (al Z 20 0)), (1, .int (nI t))]) ?_ (ih (i + 1) (by omega))
          intro q hq
          simp only [List.mem_cons, List.not_mem_nil, or_false] at hq ⊢
          rcases hq with h | h | h | h
          · simp [h]
          · subst h; simp [g_count, *]
          · simp [h]
          · simp [h]
  have tail : G p l e { frames := 3, cells := 0, slots := 0, locals := 84 } s m ([.ref (al Z 20 0), .int (nI t)] : List Value).toArray below meth c (qQ below (pX Z) (qA (pX Z)) { frames := 3, cells := 0, slots := 0, locals := 84 } (.inl (some (.int 0))) (qv V 20 0 0 2) Y s) (pX Z) 4 (qA (pX Z)) (qv V 20 0 0 0) Y 0 0 71 [(3, .int (nI k)), (2, .int (g_count V (nI t) k)), (0, .ref (al Z 20 0)), (1, .int (nI t))] [] := by
    refine gq_aload_n C d_M_open_71 rfl ?_
    refine gq_iload_n C d_M_open_72 rfl ?_
    refine gq_callV C (st := []) (fun _ h => h.elim) (c_M_validLease l Z hZ _ _ t ht) (qm (by decide) (by decide)) rfl rfl w_825 w_827 ws_M_validLease w_828 w_9 ⟨by decide, by decide, (by decide +kernel : (parseMethodDescriptor y_M_validLease.desc).map (fun d => d.parameters.length) = some 1)⟩ ⟨by decide, by decide⟩ ⟨by decide, by decide⟩ rfl (Nat.le_of_ble_eq_true rfl) d_M_open_73 ?_
    refine G.eqS (st' := [.int (g_lease V t)]) (by first | (rw [show g_lease (qv V 20 0 0 0) t = g_lease V t from rfl]; done) | (rw [show g_lease (qv V 20 0 0 0) t = g_lease V t from rfl]; rfl)) ?_
    refine gq_if_eq C (tgt := 93) d_M_open_76 rfl (fun hb76 => ?_) (fun hb76 => ?_)
    · skip
      refine gq_aload_n C d_M_open_93 rfl ?_
      refine gq_iconst C (v := 2) d_M_open_94 (by decide) ?_
      refine gq_put C (fun _ h => h) (g := 20) (j := 0) (ci := 8) (k := 0) ft_M k_M n_M (qm (by decide) (by decide)) rfl rfl in_M (by decide) w_661 rfl (k_M 0 (by decide)) rfl rfl (Nat.le_of_ble_eq_true rfl) rfl d_M_open_95 ?_
      refine gq_iconst C (v := 0) d_M_open_98 (by decide) ?_
      exact gq_iretE C hr rfl (by funext q1 q2 q3; simp only [qv_at]; try (split <;> rfl)) rfl (by decide) (by decide) d_M_open_99
    · skip
      refine gq_iload_n C d_M_open_79 rfl ?_
      refine gq_iconst C (v := 3) d_M_open_80 (by decide) ?_
      refine gq_icmp_eq C (tgt := 93) d_M_open_81 rfl (fun hb81 => ?_) (fun hb81 => ?_)
      · skip
        refine gq_aload_n C d_M_open_93 rfl ?_
        refine gq_iconst C (v := 2) d_M_open_94 (by decide) ?_
        refine gq_put C (fun _ h => h) (g := 20) (j := 0) (ci := 8) (k := 0) ft_M k_M n_M (qm (by decide) (by decide)) rfl rfl in_M (by decide) w_661 rfl (k_M 0 (by decide)) rfl rfl (Nat.le_of_ble_eq_true rfl) rfl d_M_open_95 ?_
        refine gq_iconst C (v := 0) d_M_open_98 (by decide) ?_
        exact gq_iretE C hr rfl (by funext q1 q2 q3; simp only [qv_at]; try (split <;> rfl)) rfl (by decide) (by decide) d_M_open_99
      · skip
        refine gq_aload_n C d_M_open_84 rfl ?_
        refine gq_get C (g := 20) (j := 0) (ci := 8) (k := 24) (v := .int (V 20 0 24)) (qm (by decide) (by decide)) rfl rfl in_M (by decide) w_685 rfl d_M_open_85 ?_
        refine gq_bipush C (v := 40) d_M_open_88 (by decide) ?_
        refine gq_icmp_ne C (tgt := 100) d_M_open_90 rfl (fun hb => by exact h.elim (fun q => absurd q hb76) (fun h => h.elim (fun q => absurd q hb81) (fun q => absurd (by rw [h24, q]; rfl) hb))) (fun hb90 => ?_)
        refine gq_aload_n C d_M_open_93 rfl ?_
        refine gq_iconst C (v := 2) d_M_open_94 (by decide) ?_
        refine gq_put C (fun _ h => h) (g := 20) (j := 0) (ci := 8) (k := 0) ft_M k_M n_M (qm (by decide) (by decide)) rfl rfl in_M (by decide) w_661 rfl (k_M 0 (by decide)) rfl rfl (Nat.le_of_ble_eq_true rfl) rfl d_M_open_95 ?_
        refine gq_iconst C (v := 0) d_M_open_98 (by decide) ?_
        exact gq_iretE C hr rfl (by funext q1 q2 q3; simp only [qv_at]; try (split <;> rfl)) rfl (by decide) (by decide) d_M_open_99
  refine gq_aload_n C d_M_open_0 rfl ?_
  refine gq_iload_n C d_M_open_1 rfl ?_
  refine gq_iconst C (v := 4) d_M_open_2 (by decide) ?_
  refine gq_callS C (st := [.ref (al Z 20 0)]) (fun _ h => h.elim) (c_M_not l Z hZ _ _ (nI t) 4) w_761 w_762 w_763 w_9 ⟨by decide, by decide, (by decide +kernel : (parseMethodDescriptor y_M_not.desc).map (fun d => d.parameters.length) = some 2)⟩ ⟨by decide, by decide⟩ ⟨by decide, by decide⟩ rfl (Nat.le_of_ble_eq_true rfl) d_M_open_3 ?_
  refine gq_if_eq C (tgt := 13) d_M_open_6 rfl (fun hb6 => ?_) (fun hb => by exact absurd hnt hb)
  refine gq_iconst C (v := 0) d_M_open_13 (by decide) ?_
  refine gq_put C (fun _ h => h) (g := 20) (j := 0) (ci := 8) (k := 0) ft_M k_M n_M (qm (by decide) (by decide)) rfl rfl in_M (by decide) w_661 rfl (k_M 0 (by decide)) rfl rfl (Nat.le_of_ble_eq_true rfl) rfl d_M_open_14 ?_
  refine gq_aload_n C d_M_open_17 rfl ?_
  refine gq_get C (g := 20) (j := 0) (ci := 8) (k := 0) (v := .int 0) (qm (by decide) (by decide)) rfl rfl in_M (by decide) w_661 rfl d_M_open_18 ?_
  refine gq_if_eq C (tgt := 26) d_M_open_21 rfl (fun hb21 => ?_) (fun hb => by exact absurd hb (by decide))
  refine gq_iconst C (v := 0) d_M_open_26 (by decide) ?_
  refine gq_istore_n C (lo' := [(2, .int 0), (0, .ref (al Z 20 0)), (1, .int (nI t))]) d_M_open_27 rfl (by decide) rfl ?_
  refine gq_iconst C (v := 0) d_M_open_28 (by decide) ?_
  refine gq_istore_n C (lo' := [(3, .int 0), (2, .int 0), (0, .ref (al Z 20 0)), (1, .int (nI t))]) d_M_open_29 rfl (by decide) rfl ?_
  exact loop tail k 0 (by omega)

def g_pub0 (V : qV) (n : Nat) : qV := qv (qv V 20 0 0 0) 20 0 1 (nI (n + 1))
def g_pub1 (V : qV) (n : Nat) : qV := qu (g_pub0 V n) 21 0 (g_cp (8 * (n + 1)) 8 0 (V 21 0))
def g_pub2 (V : qV) (n : Nat) : qV := qu (qu (g_pub1 V n) 22 0 (g_cp (16 * (n + 1)) 16 0 (V 22 0))) 23 0 (g_cp (16 * (n + 1)) 16 0 (V 23 0))
def g_publish (V : qV) (n : Nat) : qV := g_put (g_put (g_put (g_put (g_pub2 V n) 0 0 (nI (n + 1)) 0) 0 1 (nI (n + 1)) 0) 0 2 (nI (n + 1)) 0) 0 3 (nI (n + 1)) 0
theorem g_qu2 (V : qV) (f h : Nat → Int32) (i : Nat) (v w : Int32) : qv (qv (qu (qu V 22 0 f) 23 0 h) 22 0 i v) 23 0 i w = qu (qu V 22 0 (upd f i v)) 23 0 (upd h i w) := by
  funext a b
  unfold qv qu
  by_cases h2 : a = 22 ∧ b = 0
  · simp [h2]
  · by_cases h3 : a = 23 ∧ b = 0
    · simp [h3]
    · simp [h2, h3]

set_option maxHeartbeats 4000000 in
set_option maxRecDepth 100000 in
theorem c_M_publish (l : Launch) (Z : qZ) (hZ : qok (pX Z)) (V : qV) (Y : qY) (n : Nat) (hn : n < 9) (h1 : V 20 0 1 = nI n) (hc : ∃ q, q ≤ 40 ∧ V 20 0 22 = nI q) : CT l y_M_publish { frames := 2, cells := 0, slots := 0, locals := 64 } (pX Z) (qA (pX Z)) [.ref (al Z 20 0)] V Y (.inl (some (.int (nI (n + 1))))) (g_publish V n) Y := by
  refine CT.of (cc := b_M_publish) (maxL := 2) (ret := (some .int)) hZ (by decide) w_772 (Nat.le_of_ble_eq_true rfl) ?_
  intro p e s m below meth c C hr hex hlt
  have third : ∀ a, G p l e { frames := 2, cells := 0, slots := 0, locals := 64 } s m ([.ref (al Z 20 0)] : List Value).toArray below meth c (qQ below (pX Z) (qA (pX Z)) { frames := 2, cells := 0, slots := 0, locals := 64 } (.inl (some (.int (nI (n + 1))))) (g_publish V n) Y s) (pX Z) 2 (qA (pX Z)) (g_pub2 V n) Y 0 0 125 [(1, .int (nI a)), (0, .ref (al Z 20 0))] [] := by
    intro a
    refine gq_iconst C (v := 0) d_M_publish_125 (by decide) ?_
    refine gq_istore_n C (lo' := [(1, .int 0), (0, .ref (al Z 20 0))]) d_M_publish_126 rfl (by decide) rfl ?_
    refine gq_iload_n C d_M_publish_127 rfl ?_
    refine gq_iconst C (v := 4) d_M_publish_128 (by decide) ?_
    refine gq_icmp_ge C (tgt := 149) d_M_publish_129 rfl (fun hb => by exact absurd hb (by decide)) (fun hb129 => ?_)
    refine gq_aload_n C d_M_publish_132 rfl ?_
    refine gq_iconst C (v := 0) d_M_publish_133 (by decide) ?_
    refine gq_iload_n C d_M_publish_134 rfl ?_
    refine gq_aload_n C d_M_publish_135 rfl ?_
    refine gq_get C (g := 20) (j := 0) (ci := 8) (k := 1) (v := .int (g_pub2 V n 20 0 1)) (qm (by decide) (by decide)) rfl rfl in_M (by decide) w_662 rfl d_M_publish_136 ?_
    refine G.eqS (st' := [.int (nI (n + 1)), .int 0, .int 0, .ref (al Z 20 0)]) (by first | (rw [show g_pub2 V n 20 0 1 = nI (n + 1) from rfl]; done) | (rw [show g_pub2 V n 20 0 1 = nI (n + 1) from rfl]; rfl)) ?_
    refine gq_iconst C (v := 0) d_M_publish_139 (by decide) ?_
    refine gq_callV C (st := []) (fun _ h => h) (c_M_put l Z hZ _ _ (g_cnt2 (V' := g_pub2 V n) hc rfl) 0 0 (nI (n + 1)) 0) (qm (by decide) (by decide)) rfl rfl w_773 w_775 ws_M_post w_776 w_9 ⟨by decide, by decide, (by decide +kernel : (parseMethodDescriptor y_M_post.desc).map (fun d => d.parameters.length) = some 4)⟩ ⟨by decide, by decide⟩ ⟨by decide, by decide⟩ rfl (Nat.le_of_ble_eq_true rfl) d_M_publish_140 ?_
    refine gq_iinc C (k := 0) (w := 1) (lo' := [(1, .int 1), (0, .ref (al Z 20 0))]) d_M_publish_143 rfl (by decide) (by decide) rfl ?_
    refine gq_goto C (tgt := 127) d_M_publish_146 rfl ?_
    refine gq_iload_n C d_M_publish_127 rfl ?_
    refine gq_iconst C (v := 4) d_M_publish_128 (by decide) ?_
    refine gq_icmp_ge C (tgt := 149) d_M_publish_129 rfl (fun hb => by exact absurd hb (by decide)) (fun hb129 => ?_)
    refine gq_aload_n C d_M_publish_132 rfl ?_
    refine gq_iconst C (v := 0) d_M_publish_133 (by decide) ?_
    refine gq_iload_n C d_M_publish_134 rfl ?_
    refine gq_aload_n C d_M_publish_135 rfl ?_
    refine gq_get C (g := 20) (j := 0) (ci := 8) (k := 1) (v := .int (g_pub2 V n 20 0 1)) (qm (by decide) (by decide)) rfl rfl in_M (by decide) w_662 (by simp [qv_at, g_put_20, g_put_fr]) d_M_publish_136 ?_
    refine G.eqS (st' := [.int (nI (n + 1)), .int 1, .int 0, .ref (al Z 20 0)]) (by first | (rw [show g_pub2 V n 20 0 1 = nI (n + 1) from rfl]; done) | (rw [show g_pub2 V n 20 0 1 = nI (n + 1) from rfl]; rfl)) ?_
    refine gq_iconst C (v := 0) d_M_publish_139 (by decide) ?_
    refine gq_callV C (st := []) (fun _ h => h) (c_M_put l Z hZ _ _ (g_put_cnt _ _ _ _ (g_cnt2 (V' := g_pub2 V n) hc rfl)) 0 1 (nI (n + 1)) 0) (qm (by decide) (by decide)) rfl rfl w_773 w_775 ws_M_post w_776 w_9 ⟨by decide, by decide, (by decide +kernel : (parseMethodDescriptor y_M_post.desc).map (fun d => d.parameters.length) = some 4)⟩ ⟨by decide, by decide⟩ ⟨by decide, by decide⟩ rfl (Nat.le_of_ble_eq_true rfl) d_M_publish_140 ?_
    refine gq_iinc C (k := 0) (w := 2) (lo' := [(1, .int 2), (0, .ref (al Z 20 0))]) d_M_publish_143 rfl (by decide) (by decide) rfl ?_
    refine gq_goto C (tgt := 127) d_M_publish_146 rfl ?_
    refine gq_iload_n C d_M_publish_127 rfl ?_
    refine gq_iconst C (v := 4) d_M_publish_128 (by decide) ?_
    refine gq_icmp_ge C (tgt := 149) d_M_publish_129 rfl (fun hb => by exact absurd hb (by decide)) (fun hb129 => ?_)
    refine gq_aload_n C d_M_publish_132 rfl ?_
    refine gq_iconst C (v := 0) d_M_publish_133 (by decide) ?_
    refine gq_iload_n C d_M_publish_134 rfl ?_
    refine gq_aload_n C d_M_publish_135 rfl ?_
    refine gq_get C (g := 20) (j := 0) (ci := 8) (k := 1) (v := .int (g_pub2 V n 20 0 1)) (qm (by decide) (by decide)) rfl rfl in_M (by decide) w_662 (by simp [qv_at, g_put_20, g_put_fr]) d_M_publish_136 ?_
    refine G.eqS (st' := [.int (nI (n + 1)), .int 2, .int 0, .ref (al Z 20 0)]) (by first | (rw [show g_pub2 V n 20 0 1 = nI (n + 1) from rfl]; done) | (rw [show g_pub2 V n 20 0 1 = nI (n + 1) from rfl]; rfl)) ?_
    refine gq_iconst C (v := 0) d_M_publish_139 (by decide) ?_
    refine gq_callV C (st := []) (fun _ h => h) (c_M_put l Z hZ _ _ (g_put_cnt _ _ _ _ (g_put_cnt _ _ _ _ (g_cnt2 (V' := g_pub2 V n) hc rfl))) 0 2 (nI (n + 1)) 0) (qm (by decide) (by decide)) rfl rfl w_773 w_775 ws_M_post w_776 w_9 ⟨by decide, by decide, (by decide +kernel : (parseMethodDescriptor y_M_post.desc).map (fun d => d.parameters.length) = some 4)⟩ ⟨by decide, by decide⟩ ⟨by decide, by decide⟩ rfl (Nat.le_of_ble_eq_true rfl) d_M_publish_140 ?_
    refine gq_iinc C (k := 0) (w := 3) (lo' := [(1, .int 3), (0, .ref (al Z 20 0))]) d_M_publish_143 rfl (by decide) (by decide) rfl ?_
    refine gq_goto C (tgt := 127) d_M_publish_146 rfl ?_
    refine gq_iload_n C d_M_publish_127 rfl ?_
    refine gq_iconst C (v := 4) d_M_publish_128 (by decide) ?_
    refine gq_icmp_ge C (tgt := 149) d_M_publish_129 rfl (fun hb => by exact absurd hb (by decide)) (fun hb129 => ?_)
    refine gq_aload_n C d_M_publish_132 rfl ?_
    refine gq_iconst C (v := 0) d_M_publish_133 (by decide) ?_
    refine gq_iload_n C d_M_publish_134 rfl ?_
    refine gq_aload_n C d_M_publish_135 rfl ?_
    refine gq_get C (g := 20) (j := 0) (ci := 8) (k := 1) (v := .int (g_pub2 V n 20 0 1)) (qm (by decide) (by decide)) rfl rfl in_M (by decide) w_662 (by simp [qv_at, g_put_20, g_put_fr]) d_M_publish_136 ?_
    refine G.eqS (st' := [.int (nI (n + 1)), .int 3, .int 0, .ref (al Z 20 0)]) (by first | (rw [show g_pub2 V n 20 0 1 = nI (n + 1) from rfl]; done) | (rw [show g_pub2 V n 20 0 1 = nI (n + 1) from rfl]; rfl)) ?_
    refine gq_iconst C (v := 0) d_M_publish_139 (by decide) ?_
    refine gq_callV C (st := []) (fun _ h => h) (c_M_put l Z hZ _ _ (g_put_cnt _ _ _ _ (g_put_cnt _ _ _ _ (g_put_cnt _ _ _ _ (g_cnt2 (V' := g_pub2 V n) hc rfl)))) 0 3 (nI (n + 1)) 0) (qm (by decide) (by decide)) rfl rfl w_773 w_775 ws_M_post w_776 w_9 ⟨by decide, by decide, (by decide +kernel : (parseMethodDescriptor y_M_post.desc).map (fun d => d.parameters.length) = some 4)⟩ ⟨by decide, by decide⟩ ⟨by decide, by decide⟩ rfl (Nat.le_of_ble_eq_true rfl) d_M_publish_140 ?_
    refine gq_iinc C (k := 0) (w := 4) (lo' := [(1, .int 4), (0, .ref (al Z 20 0))]) d_M_publish_143 rfl (by decide) (by decide) rfl ?_
    refine gq_goto C (tgt := 127) d_M_publish_146 rfl ?_
    refine gq_iload_n C d_M_publish_127 rfl ?_
    refine gq_iconst C (v := 4) d_M_publish_128 (by decide) ?_
    refine gq_icmp_ge C (tgt := 149) d_M_publish_129 rfl (fun hb129 => ?_) (fun hb => by exact absurd hb (by decide))
    refine gq_aload_n C d_M_publish_149 rfl ?_
    refine gq_get C (g := 20) (j := 0) (ci := 8) (k := 1) (v := .int (g_pub2 V n 20 0 1)) (qm (by decide) (by decide)) rfl rfl in_M (by decide) w_662 (by simp [qv_at, g_put_20, g_put_fr]) d_M_publish_150 ?_
    exact gq_iretE C hr (by rfl) (by rfl) rfl (by decide) (by decide) d_M_publish_153
  have second : ∀ (r a : Nat) (f h : Nat → Int32), a + r = 16 → g_cp (16 * (n + 1)) r a f = g_cp (16 * (n + 1)) 16 0 (V 22 0) → g_cp (16 * (n + 1)) r a h = g_cp (16 * (n + 1)) 16 0 (V 23 0) → G p l e { frames := 2, cells := 0, slots := 0, locals := 64 } s m ([.ref (al Z 20 0)] : List Value).toArray below meth c (qQ below (pX Z) (qA (pX Z)) { frames := 2, cells := 0, slots := 0, locals := 64 } (.inl (some (.int (nI (n + 1))))) (g_publish V n) Y s) (pX Z) 2 (qA (pX Z)) (qu (qu (g_pub1 V n) 22 0 f) 23 0 h) Y 0 0 73 [(1, .int (nI a)), (0, .ref (al Z 20 0))] [] := by
    intro r
    induction r with
    | zero =>
      intro a f h ha hf hh
      obtain rfl : f = _ := hf
      obtain rfl : h = _ := hh
      refine gq_iload_n C d_M_publish_73 rfl ?_
      refine gq_bipush C (v := 16) d_M_publish_74 (by decide) ?_
      refine gq_icmp_ge C (tgt := 125) d_M_publish_76 rfl (fun hb76 => ?_) (fun hb => by exact absurd (nI_le (a := 16) (by omega) (by omega)) hb)
      exact third a
    | succ r ih =>
      intro a f h ha hf hh
      refine gq_iload_n C d_M_publish_73 rfl ?_
      refine gq_bipush C (v := 16) d_M_publish_74 (by decide) ?_
      refine gq_icmp_ge C (tgt := 125) d_M_publish_76 rfl (fun hb => by exact absurd hb (nI_ge (b := 16) (by omega) (by omega))) (fun hb76 => ?_)
      refine gq_aload_n C d_M_publish_79 rfl ?_
      refine gq_get C (g := 20) (j := 0) (ci := 8) (k := 3) (v := .ref (al Z 22 0)) (qm (by decide) (by decide)) rfl rfl in_M (by decide) w_664 rfl d_M_publish_80 ?_
      refine gq_bipush C (v := 16) d_M_publish_83 (by decide) ?_
      refine gq_aload_n C d_M_publish_85 rfl ?_
      refine gq_get C (g := 20) (j := 0) (ci := 8) (k := 1) (v := .int (qu (qu (g_pub1 V n) 22 0 f) 23 0 h 20 0 1)) (qm (by decide) (by decide)) rfl rfl in_M (by decide) w_662 rfl d_M_publish_86 ?_
      refine G.eqS (st' := [.int (nI (n + 1)), .int 16, .ref (al Z 22 0)]) (by first | (rw [show qu (qu (g_pub1 V n) 22 0 f) 23 0 h 20 0 1 = nI (n + 1) from rfl]; done) | (rw [show qu (qu (g_pub1 V n) 22 0 f) 23 0 h 20 0 1 = nI (n + 1) from rfl]; rfl)) ?_
      refine gq_imul C d_M_publish_89 ?_
      refine gq_iload_n C d_M_publish_90 rfl ?_
      refine gq_iadd C d_M_publish_91 ?_
      refine gq_aload_n C d_M_publish_92 rfl ?_
      refine gq_get C (g := 20) (j := 0) (ci := 8) (k := 3) (v := .ref (al Z 22 0)) (qm (by decide) (by decide)) rfl rfl in_M (by decide) w_664 rfl d_M_publish_93 ?_
      refine gq_iload_n C d_M_publish_96 rfl ?_
      refine gq_iald C (g := 22) (j := 0) (a := a) (t0 := 0) (qm (by decide) (by decide)) rfl rfl rfl (by omega) (by decide) d_M_publish_97 ?_
      refine G.eqS (st' := [.int (f a), .int ((16 * (nI (n + 1))) + (nI a)), .ref (al Z 22 0)]) (by first | (rw [show qu (qu (g_pub1 V n) 22 0 f) 23 0 h 22 0 a = f a from rfl]; done) | (rw [show qu (qu (g_pub1 V n) 22 0 f) 23 0 h 22 0 a = f a from rfl]; rfl)) ?_
      refine gq_iast C (fun _ h => h) (g := 22) (j := 0) (a := (16 * (n + 1) + a)) (t0 := 0) (qm (by decide) (by decide)) (fun _ => rfl) rfl (by rw [show (16 : Int32) = nI 16 from rfl, pk_mul]; exact nI_add _ _) (by omega) (by decide) d_M_publish_98 ?_
      refine gq_aload_n C d_M_publish_99 rfl ?_
      refine gq_get C (g := 20) (j := 0) (ci := 8) (k := 4) (v := .ref (al Z 23 0)) (qm (by decide) (by decide)) rfl rfl in_M (by decide) w_665 rfl d_M_publish_100 ?_
      refine gq_bipush C (v := 16) d_M_publish_103 (by decide) ?_
      refine gq_aload_n C d_M_publish_105 rfl ?_
      refine gq_get C (g := 20) (j := 0) (ci := 8) (k := 1) (v := .int (qu (qu (g_pub1 V n) 22 0 f) 23 0 h 20 0 1)) (qm (by decide) (by decide)) rfl rfl in_M (by decide) w_662 rfl d_M_publish_106 ?_
      refine G.eqS (st' := [.int (nI (n + 1)), .int 16, .ref (al Z 23 0)]) (by first | (rw [show qu (qu (g_pub1 V n) 22 0 f) 23 0 h 20 0 1 = nI (n + 1) from rfl]; done) | (rw [show qu (qu (g_pub1 V n) 22 0 f) 23 0 h 20 0 1 = nI (n + 1) from rfl]; rfl)) ?_
      refine gq_imul C d_M_publish_109 ?_
      refine gq_iload_n C d_M_publish_110 rfl ?_
      refine gq_iadd C d_M_publish_111 ?_
      refine gq_aload_n C d_M_publish_112 rfl ?_
      refine gq_get C (g := 20) (j := 0) (ci := 8) (k := 4) (v := .ref (al Z 23 0)) (qm (by decide) (by decide)) rfl rfl in_M (by decide) w_665 rfl d_M_publish_113 ?_
      refine gq_iload_n C d_M_publish_116 rfl ?_
      refine gq_iald C (g := 23) (j := 0) (a := a) (t0 := 0) (qm (by decide) (by decide)) rfl rfl rfl (by omega) (by decide) d_M_publish_117 ?_
      refine G.eqS (st' := [.int (qu (qu (g_pub1 V n) 22 0 f) 23 0 h 23 0 a), .int ((16 * (nI (n + 1))) + (nI a)), .ref (al Z 23 0)]) rfl ?_
      refine G.eqS (st' := [.int (h a), .int ((16 * (nI (n + 1))) + (nI a)), .ref (al Z 23 0)]) (by first | (rw [show qu (qu (g_pub1 V n) 22 0 f) 23 0 h 23 0 a = h a from rfl]; done) | (rw [show qu (qu (g_pub1 V n) 22 0 f) 23 0 h 23 0 a = h a from rfl]; rfl)) ?_
      refine gq_iast C (fun _ h => h) (g := 23) (j := 0) (a := (16 * (n + 1) + a)) (t0 := 0) (qm (by decide) (by decide)) (fun _ => rfl) rfl (by rw [show (16 : Int32) = nI 16 from rfl, pk_mul]; exact nI_add _ _) (by omega) (by decide) d_M_publish_118 ?_
      refine gq_iinc C (k := 0) (w := nI (a + 1)) (lo' := [(1, .int (nI (a + 1))), (0, .ref (al Z 20 0))]) d_M_publish_119 rfl (nI_1 a) (by decide) rfl ?_
      refine gq_goto C (tgt := 73) d_M_publish_122 rfl ?_
      refine G.eqV (g_qu2 _ _ _ _ _ _) ?_
      exact ih (a + 1) _ _ (by omega) hf hh
  have first : ∀ (r a : Nat) (f : Nat → Int32), a + r = 8 → g_cp (8 * (n + 1)) r a f = g_cp (8 * (n + 1)) 8 0 (V 21 0) → G p l e { frames := 2, cells := 0, slots := 0, locals := 64 } s m ([.ref (al Z 20 0)] : List Value).toArray below meth c (qQ below (pX Z) (qA (pX Z)) { frames := 2, cells := 0, slots := 0, locals := 64 } (.inl (some (.int (nI (n + 1))))) (g_publish V n) Y s) (pX Z) 2 (qA (pX Z)) (qu (g_pub0 V n) 21 0 f) Y 0 0 39 [(1, .int (nI a)), (0, .ref (al Z 20 0))] [] := by
    intro r
    induction r with
    | zero =>
      intro a f ha hf
      obtain rfl : f = _ := hf
      refine gq_iload_n C d_M_publish_39 rfl ?_
      refine gq_bipush C (v := 8) d_M_publish_40 (by decide) ?_
      refine gq_icmp_ge C (tgt := 71) d_M_publish_42 rfl (fun hb42 => ?_) (fun hb => by exact absurd (nI_le (a := 8) (by omega) (by omega)) hb)
      refine gq_iconst C (v := 0) d_M_publish_71 (by decide) ?_
      refine gq_istore_n C (lo' := [(1, .int 0), (0, .ref (al Z 20 0))]) d_M_publish_72 rfl (by decide) rfl ?_
      refine G.eqV (V' := qu (qu (g_pub1 V n) 22 0 (V 22 0)) 23 0 (V 23 0)) ((qu_self (g_pub1 V n) 23 0).symm.trans (by rw [show qu (g_pub1 V n) 22 0 (V 22 0) = g_pub1 V n from qu_self (g_pub1 V n) 22 0]; rfl)) ?_
      exact second 16 0 _ _ rfl rfl rfl
    | succ r ih =>
      intro a f ha hf
      refine gq_iload_n C d_M_publish_39 rfl ?_
      refine gq_bipush C (v := 8) d_M_publish_40 (by decide) ?_
      refine gq_icmp_ge C (tgt := 71) d_M_publish_42 rfl (fun hb => by exact absurd hb (nI_ge (b := 8) (by omega) (by omega))) (fun hb42 => ?_)
      refine gq_aload_n C d_M_publish_45 rfl ?_
      refine gq_get C (g := 20) (j := 0) (ci := 8) (k := 2) (v := .ref (al Z 21 0)) (qm (by decide) (by decide)) rfl rfl in_M (by decide) w_663 rfl d_M_publish_46 ?_
      refine gq_bipush C (v := 8) d_M_publish_49 (by decide) ?_
      refine gq_aload_n C d_M_publish_51 rfl ?_
      refine gq_get C (g := 20) (j := 0) (ci := 8) (k := 1) (v := .int (qu (g_pub0 V n) 21 0 f 20 0 1)) (qm (by decide) (by decide)) rfl rfl in_M (by decide) w_662 rfl d_M_publish_52 ?_
      refine G.eqS (st' := [.int (nI (n + 1)), .int 8, .ref (al Z 21 0)]) (by first | (rw [show qu (g_pub0 V n) 21 0 f 20 0 1 = nI (n + 1) from rfl]; done) | (rw [show qu (g_pub0 V n) 21 0 f 20 0 1 = nI (n + 1) from rfl]; rfl)) ?_
      refine gq_imul C d_M_publish_55 ?_
      refine gq_iload_n C d_M_publish_56 rfl ?_
      refine gq_iadd C d_M_publish_57 ?_
      refine gq_aload_n C d_M_publish_58 rfl ?_
      refine gq_get C (g := 20) (j := 0) (ci := 8) (k := 2) (v := .ref (al Z 21 0)) (qm (by decide) (by decide)) rfl rfl in_M (by decide) w_663 rfl d_M_publish_59 ?_
      refine gq_iload_n C d_M_publish_62 rfl ?_
      refine gq_iald C (g := 21) (j := 0) (a := a) (t0 := 0) (qm (by decide) (by decide)) rfl rfl rfl (by omega) (by decide) d_M_publish_63 ?_
      refine G.eqS (st' := [.int (f a), .int ((8 * (nI (n + 1))) + (nI a)), .ref (al Z 21 0)]) (by first | (rw [show qu (g_pub0 V n) 21 0 f 21 0 a = f a from rfl]; done) | (rw [show qu (g_pub0 V n) 21 0 f 21 0 a = f a from rfl]; rfl)) ?_
      refine gq_iast C (fun _ h => h) (g := 21) (j := 0) (a := (8 * (n + 1) + a)) (t0 := 0) (qm (by decide) (by decide)) (fun _ => rfl) rfl (by rw [show (8 : Int32) = nI 8 from rfl, pk_mul]; exact nI_add _ _) (by omega) (by decide) d_M_publish_64 ?_
      refine gq_iinc C (k := 0) (w := nI (a + 1)) (lo' := [(1, .int (nI (a + 1))), (0, .ref (al Z 20 0))]) d_M_publish_65 rfl (nI_1 a) (by decide) rfl ?_
      refine gq_goto C (tgt := 39) d_M_publish_68 rfl ?_
      refine G.eqV (g_qu _ _ _ _ _ _) ?_
      exact ih (a + 1) _ (by omega) hf
  refine gq_aload_n C d_M_publish_0 rfl ?_
  refine gq_aload_n C d_M_publish_1 rfl ?_
  refine gq_get C (g := 20) (j := 0) (ci := 8) (k := 1) (v := .int (V 20 0 1)) (qm (by decide) (by decide)) rfl rfl in_M (by decide) w_662 rfl d_M_publish_2 ?_
  refine gq_bipush C (v := 9) d_M_publish_5 (by decide) ?_
  refine gq_icmp_ne C (tgt := 14) d_M_publish_7 rfl (fun hb7 => ?_) (fun hb => by exact absurd ((nI_eq (a := n) (b := 9) (by omega) (by omega)).mp (h1.symm.trans hb)) (by omega))
  refine gq_iconst C (v := 0) d_M_publish_14 (by decide) ?_
  refine gq_put C (fun _ h => h) (g := 20) (j := 0) (ci := 8) (k := 0) ft_M k_M n_M (qm (by decide) (by decide)) rfl rfl in_M (by decide) w_661 rfl (k_M 0 (by decide)) rfl rfl (Nat.le_of_ble_eq_true rfl) rfl d_M_publish_15 ?_
  refine gq_aload_n C d_M_publish_18 rfl ?_
  refine gq_get C (g := 20) (j := 0) (ci := 8) (k := 0) (v := .int 0) (qm (by decide) (by decide)) rfl rfl in_M (by decide) w_661 rfl d_M_publish_19 ?_
  refine gq_if_eq C (tgt := 27) d_M_publish_22 rfl (fun hb22 => ?_) (fun hb => by exact absurd hb (by decide))
  refine gq_aload_n C d_M_publish_27 rfl ?_
  refine gq_dup C d_M_publish_28 rfl ?_
  refine gq_get C (g := 20) (j := 0) (ci := 8) (k := 1) (v := .int (V 20 0 1)) (qm (by decide) (by decide)) rfl rfl in_M (by decide) w_662 rfl d_M_publish_29 ?_
  refine gq_iconst C (v := 1) d_M_publish_32 (by decide) ?_
  refine gq_iadd C d_M_publish_33 ?_
  refine G.eqS (st' := [.int (nI (n + 1)), .ref (al Z 20 0)]) (by first | (rw [show (V 20 0 1) + 1 = nI (n + 1) from (by rw [h1]; exact nI_1 n)]; done) | (rw [show (V 20 0 1) + 1 = nI (n + 1) from (by rw [h1]; exact nI_1 n)]; rfl)) ?_
  refine gq_put C (fun _ h => h) (g := 20) (j := 0) (ci := 8) (k := 1) ft_M k_M n_M (qm (by decide) (by decide)) rfl rfl in_M (by decide) w_662 rfl (k_M 1 (by decide)) rfl rfl (Nat.le_of_ble_eq_true rfl) rfl d_M_publish_34 ?_
  refine gq_iconst C (v := 0) d_M_publish_37 (by decide) ?_
  refine gq_istore_n C (lo' := [(1, .int 0), (0, .ref (al Z 20 0))]) d_M_publish_38 rfl (by decide) rfl ?_
  refine G.eqV (V' := qu (g_pub0 V n) 21 0 (V 21 0)) (qu_self (g_pub0 V n) 21 0).symm ?_
  exact first 8 0 _ rfl rfl

set_option maxHeartbeats 4000000 in
set_option maxRecDepth 100000 in
theorem c_M_publish_x (l : Launch) (Z : qZ) (hZ : qok (pX Z)) (V : qV) (Y : qY) (h : V 20 0 1 = 9) : CT l y_M_publish { frames := 2, cells := 0, slots := 0, locals := 64 } (pX Z) (qA (pX Z)) [.ref (al Z 20 0)] V Y (.inl (some (.int 0))) (qv V 20 0 0 1) Y := by
  refine CT.of (cc := b_M_publish) (maxL := 2) (ret := (some .int)) hZ (by decide) w_772 (Nat.le_of_ble_eq_true rfl) ?_
  intro p e s m below meth c C hr hex hlt
  refine gq_aload_n C d_M_publish_0 rfl ?_
  refine gq_aload_n C d_M_publish_1 rfl ?_
  refine gq_get C (g := 20) (j := 0) (ci := 8) (k := 1) (v := .int (V 20 0 1)) (qm (by decide) (by decide)) rfl rfl in_M (by decide) w_662 rfl d_M_publish_2 ?_
  refine gq_bipush C (v := 9) d_M_publish_5 (by decide) ?_
  refine gq_icmp_ne C (tgt := 14) d_M_publish_7 rfl (fun hb => by first | contradiction | contradiction) (fun hb7 => ?_)
  refine gq_iconst C (v := 1) d_M_publish_10 (by decide) ?_
  refine gq_goto C (tgt := 15) d_M_publish_11 rfl ?_
  refine gq_put C (fun _ h => h) (g := 20) (j := 0) (ci := 8) (k := 0) ft_M k_M n_M (qm (by decide) (by decide)) rfl rfl in_M (by decide) w_661 rfl (k_M 0 (by decide)) rfl rfl (Nat.le_of_ble_eq_true rfl) rfl d_M_publish_15 ?_
  refine gq_aload_n C d_M_publish_18 rfl ?_
  refine gq_get C (g := 20) (j := 0) (ci := 8) (k := 0) (v := .int 1) (qm (by decide) (by decide)) rfl rfl in_M (by decide) w_661 rfl d_M_publish_19 ?_
  refine gq_if_eq C (tgt := 27) d_M_publish_22 rfl (fun hb => by exact absurd hb (by decide)) (fun hb22 => ?_)
  refine gq_iconst C (v := 0) d_M_publish_25 (by decide) ?_
  exact gq_iretE C hr rfl rfl rfl (by decide) (by decide) d_M_publish_26
