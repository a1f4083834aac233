/-! the least for so many pieces: a row of longs, filled from the left; the class's way (the reference's is another part) -/
def f_s1 (f : Nat → Int64) (k z : Nat) (w : Int32) : Nat → Int64 := if z = 0 then f else if k < z then f else vp_updL f k (if f (k - z) + w.toInt64 < f k then f (k - z) + w.toInt64 else f k)
def f_st (f : Nat → Int64) (k : Nat) (pr : Int32) (z0 : Nat) (w0 : Int32) (z1 : Nat) (w1 : Int32) : Nat → Int64 := f_s1 (f_s1 (vp_updL f k (f (k - 1) + pr.toInt64)) k z0 w0) k z1 w1
def f_more (pr : Int32) (z0 : Nat) (w0 : Int32) (z1 : Nat) (w1 : Int32) : Nat → Nat → (Nat → Int64) → (Nat → Int64)
  | 0, _, f => f
  | r + 1, k, f => f_more pr z0 w0 z1 w1 r (k + 1) (f_st f k pr z0 w0 z1 w1)
def f_rows (pr : Int32) (z0 : Nat) (w0 : Int32) (z1 : Nat) (w1 : Int32) (n : Nat) (f : Nat → Int64) : Nat → Int64 := f_more pr z0 w0 z1 w1 n 1 (vp_updL f 0 0)
theorem qy_quY (Y : qY) (g j : Nat) (f : Nat → Int64) (k : Nat) (v : Int64) : qy (quY Y g j f) g j k v = quY Y g j (vp_updL f k v) := by
  funext a b
  unfold qy quY
  by_cases h : a = g ∧ b = j
  · simp [h]
  · simp [h]

theorem d_L_leastFor_0 : decode b_L_leastFor 0 = .ok (.aload_n 3, 1) := by decide +kernel
theorem d_L_leastFor_1 : decode b_L_leastFor 1 = .ok (.iconst 0, 1) := by decide +kernel
theorem d_L_leastFor_2 : decode b_L_leastFor 2 = .ok (.lconst 0, 1) := by decide +kernel
theorem d_L_leastFor_3 : decode b_L_leastFor 3 = .ok (.lastore, 1) := by decide +kernel
theorem d_L_leastFor_4 : decode b_L_leastFor 4 = .ok (.iconst 1, 1) := by decide +kernel
theorem d_L_leastFor_5 : decode b_L_leastFor 5 = .ok (.istore 4, 2) := by decide +kernel
theorem d_L_leastFor_7 : decode b_L_leastFor 7 = .ok (.iload 4, 2) := by decide +kernel
theorem d_L_leastFor_9 : decode b_L_leastFor 9 = .ok (.iload_n 2, 1) := by decide +kernel
theorem d_L_leastFor_10 : decode b_L_leastFor 10 = .ok (.if_icmp .gt 102, 3) := by decide +kernel
theorem d_L_leastFor_13 : decode b_L_leastFor 13 = .ok (.aload_n 3, 1) := by decide +kernel
theorem d_L_leastFor_14 : decode b_L_leastFor 14 = .ok (.iload 4, 2) := by decide +kernel
theorem d_L_leastFor_16 : decode b_L_leastFor 16 = .ok (.aload_n 3, 1) := by decide +kernel
theorem d_L_leastFor_17 : decode b_L_leastFor 17 = .ok (.iload 4, 2) := by decide +kernel
theorem d_L_leastFor_19 : decode b_L_leastFor 19 = .ok (.iconst 1, 1) := by decide +kernel
theorem d_L_leastFor_20 : decode b_L_leastFor 20 = .ok (.isub, 1) := by decide +kernel
theorem d_L_leastFor_21 : decode b_L_leastFor 21 = .ok (.laload, 1) := by decide +kernel
theorem d_L_leastFor_22 : decode b_L_leastFor 22 = .ok (.aload_n 0, 1) := by decide +kernel
theorem d_L_leastFor_23 : decode b_L_leastFor 23 = .ok (.getfield 9, 3) := by decide +kernel
theorem d_L_leastFor_26 : decode b_L_leastFor 26 = .ok (.iload_n 1, 1) := by decide +kernel
theorem d_L_leastFor_27 : decode b_L_leastFor 27 = .ok (.iaload, 1) := by decide +kernel
theorem d_L_leastFor_28 : decode b_L_leastFor 28 = .ok (.i2l, 1) := by decide +kernel
theorem d_L_leastFor_29 : decode b_L_leastFor 29 = .ok (.ladd, 1) := by decide +kernel
theorem d_L_leastFor_30 : decode b_L_leastFor 30 = .ok (.lastore, 1) := by decide +kernel
theorem d_L_leastFor_31 : decode b_L_leastFor 31 = .ok (.iload_n 1, 1) := by decide +kernel
theorem d_L_leastFor_32 : decode b_L_leastFor 32 = .ok (.iconst 2, 1) := by decide +kernel
theorem d_L_leastFor_33 : decode b_L_leastFor 33 = .ok (.imul, 1) := by decide +kernel
theorem d_L_leastFor_34 : decode b_L_leastFor 34 = .ok (.istore 5, 2) := by decide +kernel
theorem d_L_leastFor_36 : decode b_L_leastFor 36 = .ok (.iload 5, 2) := by decide +kernel
theorem d_L_leastFor_38 : decode b_L_leastFor 38 = .ok (.iload_n 1, 1) := by decide +kernel
theorem d_L_leastFor_39 : decode b_L_leastFor 39 = .ok (.iconst 1, 1) := by decide +kernel
theorem d_L_leastFor_40 : decode b_L_leastFor 40 = .ok (.iadd, 1) := by decide +kernel
theorem d_L_leastFor_41 : decode b_L_leastFor 41 = .ok (.iconst 2, 1) := by decide +kernel
theorem d_L_leastFor_42 : decode b_L_leastFor 42 = .ok (.imul, 1) := by decide +kernel
theorem d_L_leastFor_43 : decode b_L_leastFor 43 = .ok (.if_icmp .ge 63, 3) := by decide +kernel
theorem d_L_leastFor_46 : decode b_L_leastFor 46 = .ok (.aload_n 0, 1) := by decide +kernel
theorem d_L_leastFor_47 : decode b_L_leastFor 47 = .ok (.getfield 15, 3) := by decide +kernel
theorem d_L_leastFor_50 : decode b_L_leastFor 50 = .ok (.iload 5, 2) := by decide +kernel
theorem d_L_leastFor_52 : decode b_L_leastFor 52 = .ok (.iaload, 1) := by decide +kernel
theorem d_L_leastFor_53 : decode b_L_leastFor 53 = .ok (.ifCond .eq 47, 3) := by decide +kernel
theorem d_L_leastFor_56 : decode b_L_leastFor 56 = .ok (.aload_n 0, 1) := by decide +kernel
theorem d_L_leastFor_57 : decode b_L_leastFor 57 = .ok (.getfield 15, 3) := by decide +kernel
theorem d_L_leastFor_60 : decode b_L_leastFor 60 = .ok (.iload 5, 2) := by decide +kernel
theorem d_L_leastFor_62 : decode b_L_leastFor 62 = .ok (.iaload, 1) := by decide +kernel
theorem d_L_leastFor_63 : decode b_L_leastFor 63 = .ok (.iload 4, 2) := by decide +kernel
theorem d_L_leastFor_65 : decode b_L_leastFor 65 = .ok (.if_icmp .gt 35, 3) := by decide +kernel
theorem d_L_leastFor_68 : decode b_L_leastFor 68 = .ok (.aload_n 3, 1) := by decide +kernel
theorem d_L_leastFor_69 : decode b_L_leastFor 69 = .ok (.iload 4, 2) := by decide +kernel
theorem d_L_leastFor_71 : decode b_L_leastFor 71 = .ok (.aload_n 3, 1) := by decide +kernel
theorem d_L_leastFor_72 : decode b_L_leastFor 72 = .ok (.iload 4, 2) := by decide +kernel
theorem d_L_leastFor_74 : decode b_L_leastFor 74 = .ok (.laload, 1) := by decide +kernel
theorem d_L_leastFor_75 : decode b_L_leastFor 75 = .ok (.aload_n 3, 1) := by decide +kernel
theorem d_L_leastFor_76 : decode b_L_leastFor 76 = .ok (.iload 4, 2) := by decide +kernel
theorem d_L_leastFor_78 : decode b_L_leastFor 78 = .ok (.aload_n 0, 1) := by decide +kernel
theorem d_L_leastFor_79 : decode b_L_leastFor 79 = .ok (.getfield 15, 3) := by decide +kernel
theorem d_L_leastFor_82 : decode b_L_leastFor 82 = .ok (.iload 5, 2) := by decide +kernel
theorem d_L_leastFor_84 : decode b_L_leastFor 84 = .ok (.iaload, 1) := by decide +kernel
theorem d_L_leastFor_85 : decode b_L_leastFor 85 = .ok (.isub, 1) := by decide +kernel
theorem d_L_leastFor_86 : decode b_L_leastFor 86 = .ok (.laload, 1) := by decide +kernel
theorem d_L_leastFor_87 : decode b_L_leastFor 87 = .ok (.aload_n 0, 1) := by decide +kernel
theorem d_L_leastFor_88 : decode b_L_leastFor 88 = .ok (.getfield 18, 3) := by decide +kernel
theorem d_L_leastFor_91 : decode b_L_leastFor 91 = .ok (.iload 5, 2) := by decide +kernel
theorem d_L_leastFor_93 : decode b_L_leastFor 93 = .ok (.iaload, 1) := by decide +kernel
theorem d_L_leastFor_94 : decode b_L_leastFor 94 = .ok (.i2l, 1) := by decide +kernel
theorem d_L_leastFor_95 : decode b_L_leastFor 95 = .ok (.ladd, 1) := by decide +kernel
theorem d_L_leastFor_96 : decode b_L_leastFor 96 = .ok (.invokestatic 27, 3) := by decide +kernel
theorem d_L_leastFor_99 : decode b_L_leastFor 99 = .ok (.lastore, 1) := by decide +kernel
theorem d_L_leastFor_100 : decode b_L_leastFor 100 = .ok (.iinc 5 1, 3) := by decide +kernel
theorem d_L_leastFor_103 : decode b_L_leastFor 103 = .ok (.goto (-67), 3) := by decide +kernel
theorem d_L_leastFor_106 : decode b_L_leastFor 106 = .ok (.iinc 4 1, 3) := by decide +kernel
theorem d_L_leastFor_109 : decode b_L_leastFor 109 = .ok (.goto (-102), 3) := by decide +kernel
theorem d_L_leastFor_112 : decode b_L_leastFor 112 = .ok (.aload_n 3, 1) := by decide +kernel
theorem d_L_leastFor_113 : decode b_L_leastFor 113 = .ok (.iload_n 2, 1) := by decide +kernel
theorem d_L_leastFor_114 : decode b_L_leastFor 114 = .ok (.laload, 1) := by decide +kernel
theorem d_L_leastFor_115 : decode b_L_leastFor 115 = .ok (.lreturn, 1) := by decide +kernel

set_option maxHeartbeats 4000000 in
set_option maxRecDepth 100000 in
theorem c_L_leastFor (l : Launch) (Z : qZ) (hZ : qok (pX Z)) (V : qV) (Y : qY) (j : Nat) (hj : j < 10) (a : Nat) (ha : a < 8) (n : Nat) (hn : n ≤ 30) (z0 z1 : Nat) (h0 : V 3 j (a * 2) = nI z0) (h1 : V 3 j (a * 2 + 1) = nI z1) (hz0 : z0 < 100) (hz1 : z1 < 100) : CT l y_L_leastFor { frames := 1, cells := 0, slots := 0, locals := 60 } (pX Z) (qA (pX Z)) [.ref (al Z 1 j), .int (nI a), .int (nI n), .ref (al Z 17 0)] V Y (.inl (some (.long (f_rows (V 2 j a) z0 (V 4 j (a * 2)) z1 (V 4 j (a * 2 + 1)) n (Y 17 0) n)))) V (quY Y 17 0 (f_rows (V 2 j a) z0 (V 4 j (a * 2)) z1 (V 4 j (a * 2 + 1)) n (Y 17 0))) := by
  refine CT.of (cc := b_L_leastFor) (maxL := 6) (ret := (some .long)) hZ (by decide) w_622 (Nat.le_of_ble_eq_true rfl) ?_
  intro p e s m below meth c C hr hex hlt
  generalize hE : f_rows (V 2 j a) z0 (V 4 j (a * 2)) z1 (V 4 j (a * 2 + 1)) n (Y 17 0) = E
  have slot : ∀ (k : Nat) (g : Nat → Int64) (u z : Nat) (w : Int32), k + 1 ≤ 30 → u < 16 → V 3 j u = nI z → V 4 j u = w → z < 100 → G p l e { frames := 1, cells := 0, slots := 0, locals := 60 } s m ([.ref (al Z 1 j), .int (nI a), .int (nI n), .ref (al Z 17 0)] : List Value).toArray below meth c (qQ below (pX Z) (qA (pX Z)) { frames := 1, cells := 0, slots := 0, locals := 60 } (.inl (some (.long (E n)))) V (quY Y 17 0 E) s) (pX Z) 6 (qA (pX Z)) V (quY Y 17 0 (f_s1 g (k + 1) z w)) 0 0 100 [(5, .int (nI u)), (4, .int (nI (k + 1))), (0, .ref (al Z 1 j)), (1, .int (nI a)), (2, .int (nI n)), (3, .ref (al Z 17 0))] [] → G p l e { frames := 1, cells := 0, slots := 0, locals := 60 } s m ([.ref (al Z 1 j), .int (nI a), .int (nI n), .ref (al Z 17 0)] : List Value).toArray below meth c (qQ below (pX Z) (qA (pX Z)) { frames := 1, cells := 0, slots := 0, locals := 60 } (.inl (some (.long (E n)))) V (quY Y 17 0 E) s) (pX Z) 6 (qA (pX Z)) V (quY Y 17 0 g) 0 0 46 [(5, .int (nI u)), (4, .int (nI (k + 1))), (0, .ref (al Z 1 j)), (1, .int (nI a)), (2, .int (nI n)), (3, .ref (al Z 17 0))] [] := by
    intro k g u z w hk hu hz hw hz9 kk
    by_cases hz0 : z = 0
    · have e : f_s1 g (k + 1) z w = g := by unfold f_s1; rw [if_pos hz0]
      rw [e] at kk
      refine gq_aload_n C d_L_leastFor_46 rfl ?_
      refine gq_get C (g := 1) (j := j) (ci := 5) (k := 1) (v := .ref (al Z 3 j)) (qm (by decide) hj) rfl rfl in_L (by decide) w_35 rfl d_L_leastFor_47 ?_
      refine gq_iload C d_L_leastFor_50 rfl ?_
      refine gq_iald C (g := 3) (j := j) (a := u) (t0 := 0) (qm (by decide) hj) rfl rfl rfl hu (by decide) d_L_leastFor_52 ?_
      refine G.eqS (st' := [.int (nI z)]) (by first | (rw [show V 3 j u = nI z from hz]; done) | (rw [show V 3 j u = nI z from hz]; rfl)) ?_
      refine gq_if_eq C (tgt := 100) d_L_leastFor_53 rfl (fun hb53 => ?_) (fun hb => by exact absurd (by rw [hz0]; rfl) hb)
      exact kk
    · by_cases hzk : k + 1 < z
      · have e : f_s1 g (k + 1) z w = g := by unfold f_s1; rw [if_neg hz0, if_pos hzk]
        rw [e] at kk
        refine gq_aload_n C d_L_leastFor_46 rfl ?_
        refine gq_get C (g := 1) (j := j) (ci := 5) (k := 1) (v := .ref (al Z 3 j)) (qm (by decide) hj) rfl rfl in_L (by decide) w_35 rfl d_L_leastFor_47 ?_
        refine gq_iload C d_L_leastFor_50 rfl ?_
        refine gq_iald C (g := 3) (j := j) (a := u) (t0 := 0) (qm (by decide) hj) rfl rfl rfl hu (by decide) d_L_leastFor_52 ?_
        refine G.eqS (st' := [.int (nI z)]) (by first | (rw [show V 3 j u = nI z from hz]; done) | (rw [show V 3 j u = nI z from hz]; rfl)) ?_
        refine gq_if_eq C (tgt := 100) d_L_leastFor_53 rfl (fun hb => by exact absurd ((nI_eq (a := z) (b := 0) (by omega) (by omega)).mp hb) hz0) (fun hb53 => ?_)
        refine gq_aload_n C d_L_leastFor_56 rfl ?_
        refine gq_get C (g := 1) (j := j) (ci := 5) (k := 1) (v := .ref (al Z 3 j)) (qm (by decide) hj) rfl rfl in_L (by decide) w_35 rfl d_L_leastFor_57 ?_
        refine gq_iload C d_L_leastFor_60 rfl ?_
        refine gq_iald C (g := 3) (j := j) (a := u) (t0 := 0) (qm (by decide) hj) rfl rfl rfl hu (by decide) d_L_leastFor_62 ?_
        refine G.eqS (st' := [.int (nI z)]) (by first | (rw [show V 3 j u = nI z from hz]; done) | (rw [show V 3 j u = nI z from hz]; rfl)) ?_
        refine gq_iload C d_L_leastFor_63 rfl ?_
        refine gq_icmp_gt C (tgt := 100) d_L_leastFor_65 rfl (fun hb65 => ?_) (fun hb => by exact absurd (nI_lt hzk (by omega)) hb)
        exact kk
      · have e : f_s1 g (k + 1) z w = vp_updL g (k + 1) (if g (k + 1 - z) + w.toInt64 < g (k + 1) then g (k + 1 - z) + w.toInt64 else g (k + 1)) := by unfold f_s1; rw [if_neg hz0, if_neg hzk]
        rw [e, ← qy_quY] at kk
        refine gq_aload_n C d_L_leastFor_46 rfl ?_
        refine gq_get C (g := 1) (j := j) (ci := 5) (k := 1) (v := .ref (al Z 3 j)) (qm (by decide) hj) rfl rfl in_L (by decide) w_35 rfl d_L_leastFor_47 ?_
        refine gq_iload C d_L_leastFor_50 rfl ?_
        refine gq_iald C (g := 3) (j := j) (a := u) (t0 := 0) (qm (by decide) hj) rfl rfl rfl hu (by decide) d_L_leastFor_52 ?_
        refine G.eqS (st' := [.int (nI z)]) (by first | (rw [show V 3 j u = nI z from hz]; done) | (rw [show V 3 j u = nI z from hz]; rfl)) ?_
        refine gq_if_eq C (tgt := 100) d_L_leastFor_53 rfl (fun hb => by exact absurd ((nI_eq (a := z) (b := 0) (by omega) (by omega)).mp hb) hz0) (fun hb53 => ?_)
        refine gq_aload_n C d_L_leastFor_56 rfl ?_
        refine gq_get C (g := 1) (j := j) (ci := 5) (k := 1) (v := .ref (al Z 3 j)) (qm (by decide) hj) rfl rfl in_L (by decide) w_35 rfl d_L_leastFor_57 ?_
        refine gq_iload C d_L_leastFor_60 rfl ?_
        refine gq_iald C (g := 3) (j := j) (a := u) (t0 := 0) (qm (by decide) hj) rfl rfl rfl hu (by decide) d_L_leastFor_62 ?_
        refine G.eqS (st' := [.int (nI z)]) (by first | (rw [show V 3 j u = nI z from hz]; done) | (rw [show V 3 j u = nI z from hz]; rfl)) ?_
        refine gq_iload C d_L_leastFor_63 rfl ?_
        refine gq_icmp_gt C (tgt := 100) d_L_leastFor_65 rfl (fun hb => by exact absurd hb (nI_nlt (by omega) (by omega))) (fun hb65 => ?_)
        refine gq_aload_n C d_L_leastFor_68 rfl ?_
        refine gq_iload C d_L_leastFor_69 rfl ?_
        refine gq_aload_n C d_L_leastFor_71 rfl ?_
        refine gq_iload C d_L_leastFor_72 rfl ?_
        refine gq_lald C (g := 17) (j := 0) (a := (k + 1)) (t0 := 1) (qm (by decide) (by decide)) rfl rfl rfl (by omega) (by decide) d_L_leastFor_74 ?_
        refine G.eqS (st' := [.long (g (k + 1)), .int (nI (k + 1)), .ref (al Z 17 0)]) (by first | (rw [show quY Y 17 0 g 17 0 (k + 1) = g (k + 1) from rfl]; done) | (rw [show quY Y 17 0 g 17 0 (k + 1) = g (k + 1) from rfl]; rfl)) ?_
        refine gq_aload_n C d_L_leastFor_75 rfl ?_
        refine gq_iload C d_L_leastFor_76 rfl ?_
        refine gq_aload_n C d_L_leastFor_78 rfl ?_
        refine gq_get C (g := 1) (j := j) (ci := 5) (k := 1) (v := .ref (al Z 3 j)) (qm (by decide) hj) rfl rfl in_L (by decide) w_35 rfl d_L_leastFor_79 ?_
        refine gq_iload C d_L_leastFor_82 rfl ?_
        refine gq_iald C (g := 3) (j := j) (a := u) (t0 := 0) (qm (by decide) hj) rfl rfl rfl hu (by decide) d_L_leastFor_84 ?_
        refine G.eqS (st' := [.int (nI z), .int (nI (k + 1)), .ref (al Z 17 0), .long (g (k + 1)), .int (nI (k + 1)), .ref (al Z 17 0)]) (by first | (rw [show V 3 j u = nI z from hz]; done) | (rw [show V 3 j u = nI z from hz]; rfl)) ?_
        refine gq_isub C d_L_leastFor_85 ?_
        refine G.eqS (st' := [.int (nI (k + 1 - z)), .ref (al Z 17 0), .long (g (k + 1)), .int (nI (k + 1)), .ref (al Z 17 0)]) (by first | (rw [show (nI (k + 1)) - (nI z) = nI (k + 1 - z) from (pk_sub (by omega))]; done) | (rw [show (nI (k + 1)) - (nI z) = nI (k + 1 - z) from (pk_sub (by omega))]; rfl)) ?_
        refine gq_lald C (g := 17) (j := 0) (a := (k + 1 - z)) (t0 := 1) (qm (by decide) (by decide)) rfl rfl rfl (by omega) (by decide) d_L_leastFor_86 ?_
        refine G.eqS (st' := [.long (g (k + 1 - z)), .long (g (k + 1)), .int (nI (k + 1)), .ref (al Z 17 0)]) (by first | (rw [show quY Y 17 0 g 17 0 (k + 1 - z) = g (k + 1 - z) from rfl]; done) | (rw [show quY Y 17 0 g 17 0 (k + 1 - z) = g (k + 1 - z) from rfl]; rfl)) ?_
        refine gq_aload_n C d_L_leastFor_87 rfl ?_
        refine gq_get C (g := 1) (j := j) (ci := 5) (k := 2) (v := .ref (al Z 4 j)) (qm (by decide) hj) rfl rfl in_L (by decide) w_37 rfl d_L_leastFor_88 ?_
        refine gq_iload C d_L_leastFor_91 rfl ?_
        refine gq_iald C (g := 4) (j := j) (a := u) (t0 := 0) (qm (by decide) hj) rfl rfl rfl hu (by decide) d_L_leastFor_93 ?_
        refine G.eqS (st' := [.int w, .long (g (k + 1 - z)), .long (g (k + 1)), .int (nI (k + 1)), .ref (al Z 17 0)]) (by first | (rw [show V 4 j u = w from hw]; done) | (rw [show V 4 j u = w from hw]; rfl)) ?_
        refine gq_i2l C d_L_leastFor_94 ?_
        refine gq_ladd C d_L_leastFor_95 ?_
        refine gq_minL C w_623 w_624 w_17 w_625 (by decide) (Nat.le_of_ble_eq_true rfl) (by decide) (by decide) d_L_leastFor_96 ?_
        refine gq_last C (fun _ h => h) (g := 17) (j := 0) (a := (k + 1)) (t0 := 1) (qm (by decide) (by decide)) (fun _ => rfl) rfl rfl (by omega) (by decide) d_L_leastFor_99 ?_
        exact kk
  have loop : ∀ (r k : Nat) (g : Nat → Int64) (lx : List (Nat × Value)), k + r = n → f_more (V 2 j a) z0 (V 4 j (a * 2)) z1 (V 4 j (a * 2 + 1)) r (k + 1) g = E → (∀ q ∈ ([(4, .int (nI (k + 1))), (0, .ref (al Z 1 j)), (1, .int (nI a)), (2, .int (nI n)), (3, .ref (al Z 17 0))] : List (Nat × Value)), q ∈ lx) → G p l e { frames := 1, cells := 0, slots := 0, locals := 60 } s m ([.ref (al Z 1 j), .int (nI a), .int (nI n), .ref (al Z 17 0)] : List Value).toArray below meth c (qQ below (pX Z) (qA (pX Z)) { frames := 1, cells := 0, slots := 0, locals := 60 } (.inl (some (.long (E n)))) V (quY Y 17 0 E) s) (pX Z) 6 (qA (pX Z)) V (quY Y 17 0 g) 0 0 7 lx [] := by
    intro r
    induction r with
    | zero =>
      intro k g lx hk hE hx
      obtain rfl : g = E := hE
      obtain rfl : k = n := by omega
      refine G.sub hx ?_
      refine gq_iload C d_L_leastFor_7 rfl ?_
      refine gq_iload_n C d_L_leastFor_9 rfl ?_
      refine gq_icmp_gt C (tgt := 112) d_L_leastFor_10 rfl (fun hb10 => ?_) (fun hb => by exact absurd (nI_lt (by omega) (by omega)) hb)
      refine gq_aload_n C d_L_leastFor_112 rfl ?_
      refine gq_iload_n C d_L_leastFor_113 rfl ?_
      refine gq_lald C (g := 17) (j := 0) (a := k) (t0 := 1) (qm (by decide) (by decide)) rfl rfl rfl (by omega) (by decide) d_L_leastFor_114 ?_
      refine G.eqS (st' := [.long (g k)]) (by first | (rw [show quY Y 17 0 g 17 0 k = g k from rfl]; done) | (rw [show quY Y 17 0 g 17 0 k = g k from rfl]; rfl)) ?_
      exact gq_lret C hr (by decide) (by decide) d_L_leastFor_115
    | succ r ih =>
      intro k g lx hk hE hx
      refine G.sub hx ?_
      refine gq_iload C d_L_leastFor_7 rfl ?_
      refine gq_iload_n C d_L_leastFor_9 rfl ?_
      refine gq_icmp_gt C (tgt := 112) d_L_leastFor_10 rfl (fun hb => by exact absurd hb (nI_nlt (by omega) (by omega))) (fun hb10 => ?_)
      refine gq_aload_n C d_L_leastFor_13 rfl ?_
      refine gq_iload C d_L_leastFor_14 rfl ?_
      refine gq_aload_n C d_L_leastFor_16 rfl ?_
      refine gq_iload C d_L_leastFor_17 rfl ?_
      refine gq_iconst C (v := 1) d_L_leastFor_19 (by decide) ?_
      refine gq_isub C d_L_leastFor_20 ?_
      refine G.eqS (st' := [.int (nI k), .ref (al Z 17 0), .int (nI (k + 1)), .ref (al Z 17 0)]) (by first | (rw [show (nI (k + 1)) - 1 = nI k from (nI_pred k)]; done) | (rw [show (nI (k + 1)) - 1 = nI k from (nI_pred k)]; rfl)) ?_
      refine gq_lald C (g := 17) (j := 0) (a := k) (t0 := 1) (qm (by decide) (by decide)) rfl rfl rfl (by omega) (by decide) d_L_leastFor_21 ?_
      refine G.eqS (st' := [.long (g k), .int (nI (k + 1)), .ref (al Z 17 0)]) (by first | (rw [show quY Y 17 0 g 17 0 k = g k from rfl]; done) | (rw [show quY Y 17 0 g 17 0 k = g k from rfl]; rfl)) ?_
      refine gq_aload_n C d_L_leastFor_22 rfl ?_
      refine gq_get C (g := 1) (j := j) (ci := 5) (k := 0) (v := .ref (al Z 2 j)) (qm (by decide) hj) rfl rfl in_L (by decide) w_33 rfl d_L_leastFor_23 ?_
      refine gq_iload_n C d_L_leastFor_26 rfl ?_
      refine gq_iald C (g := 2) (j := j) (a := a) (t0 := 0) (qm (by decide) hj) rfl rfl rfl ha (by decide) d_L_leastFor_27 ?_
      refine gq_i2l C d_L_leastFor_28 ?_
      refine gq_ladd C d_L_leastFor_29 ?_
      refine gq_last C (fun _ h => h) (g := 17) (j := 0) (a := (k + 1)) (t0 := 1) (qm (by decide) (by decide)) (fun _ => rfl) rfl rfl (by omega) (by decide) d_L_leastFor_30 ?_
      refine G.eqY (qy_quY _ _ _ _ _ _) ?_
      generalize hg1 : vp_updL g (k + 1) (g k + (V 2 j a).toInt64) = g1
      refine gq_iload_n C d_L_leastFor_31 rfl ?_
      refine gq_iconst C (v := 2) d_L_leastFor_32 (by decide) ?_
      refine gq_imul C d_L_leastFor_33 ?_
      refine G.eqS (st' := [.int (nI (a * 2))]) (by first | (rw [show (nI a) * 2 = nI (a * 2) from (by rw [show (2 : Int32) = nI 2 from rfl, pk_mul])]; done) | (rw [show (nI a) * 2 = nI (a * 2) from (by rw [show (2 : Int32) = nI 2 from rfl, pk_mul])]; rfl)) ?_
      refine gq_istore C (lo' := [(5, .int (nI (a * 2))), (4, .int (nI (k + 1))), (0, .ref (al Z 1 j)), (1, .int (nI a)), (2, .int (nI n)), (3, .ref (al Z 17 0))]) d_L_leastFor_34 (by decide) rfl ?_
      refine gq_iload C d_L_leastFor_36 rfl ?_
      refine gq_iload_n C d_L_leastFor_38 rfl ?_
      refine gq_iconst C (v := 1) d_L_leastFor_39 (by decide) ?_
      refine gq_iadd C d_L_leastFor_40 ?_
      refine G.eqS (st' := [.int (nI (a + 1)), .int (nI (a * 2))]) (by first | (rw [show (nI a) + 1 = nI (a + 1) from (nI_1 a)]; done) | (rw [show (nI a) + 1 = nI (a + 1) from (nI_1 a)]; rfl)) ?_
      refine gq_iconst C (v := 2) d_L_leastFor_41 (by decide) ?_
      refine gq_imul C d_L_leastFor_42 ?_
      refine G.eqS (st' := [.int (nI ((a + 1) * 2)), .int (nI (a * 2))]) (by first | (rw [show (nI (a + 1)) * 2 = nI ((a + 1) * 2) from (by rw [show (2 : Int32) = nI 2 from rfl, pk_mul])]; done) | (rw [show (nI (a + 1)) * 2 = nI ((a + 1) * 2) from (by rw [show (2 : Int32) = nI 2 from rfl, pk_mul])]; rfl)) ?_
      refine gq_icmp_ge C (tgt := 106) d_L_leastFor_43 rfl (fun hb => by exact absurd hb (nI_ge (by omega) (by omega))) (fun hb43 => ?_)
      refine slot k g1 (a * 2) z0 _ (by omega) (by omega) h0 rfl hz0 ?_
      generalize hg2 : f_s1 g1 (k + 1) z0 (V 4 j (a * 2)) = g2
      refine gq_iinc C (k := 0) (w := nI (a * 2 + 1)) (lo' := [(5, .int (nI (a * 2 + 1))), (4, .int (nI (k + 1))), (0, .ref (al Z 1 j)), (1, .int (nI a)), (2, .int (nI n)), (3, .ref (al Z 17 0))]) d_L_leastFor_100 rfl (nI_1 (a * 2)) (by decide) rfl ?_
      refine gq_goto C (tgt := 36) d_L_leastFor_103 rfl ?_
      refine gq_iload C d_L_leastFor_36 rfl ?_
      refine gq_iload_n C d_L_leastFor_38 rfl ?_
      refine gq_iconst C (v := 1) d_L_leastFor_39 (by decide) ?_
      refine gq_iadd C d_L_leastFor_40 ?_
      refine G.eqS (st' := [.int (nI (a + 1)), .int (nI (a * 2 + 1))]) (by first | (rw [show (nI a) + 1 = nI (a + 1) from (nI_1 a)]; done) | (rw [show (nI a) + 1 = nI (a + 1) from (nI_1 a)]; rfl)) ?_
      refine gq_iconst C (v := 2) d_L_leastFor_41 (by decide) ?_
      refine gq_imul C d_L_leastFor_42 ?_
      refine G.eqS (st' := [.int (nI ((a + 1) * 2)), .int (nI (a * 2 + 1))]) (by first | (rw [show (nI (a + 1)) * 2 = nI ((a + 1) * 2) from (by rw [show (2 : Int32) = nI 2 from rfl, pk_mul])]; done) | (rw [show (nI (a + 1)) * 2 = nI ((a + 1) * 2) from (by rw [show (2 : Int32) = nI 2 from rfl, pk_mul])]; rfl)) ?_
      refine gq_icmp_ge C (tgt := 106) d_L_leastFor_43 rfl (fun hb => by exact absurd hb (nI_ge (by omega) (by omega))) (fun hb43 => ?_)
      refine slot k g2 (a * 2 + 1) z1 _ (by omega) (by omega) h1 rfl hz1 ?_
      generalize hg3 : f_s1 g2 (k + 1) z1 (V 4 j (a * 2 + 1)) = g3
      refine gq_iinc C (k := 0) (w := nI (a * 2 + 2)) (lo' := [(5, .int (nI (a * 2 + 2))), (4, .int (nI (k + 1))), (0, .ref (al Z 1 j)), (1, .int (nI a)), (2, .int (nI n)), (3, .ref (al Z 17 0))]) d_L_leastFor_100 rfl (nI_1 (a * 2 + 1)) (by decide) rfl ?_
      refine gq_goto C (tgt := 36) d_L_leastFor_103 rfl ?_
      refine gq_iload C d_L_leastFor_36 rfl ?_
      refine gq_iload_n C d_L_leastFor_38 rfl ?_
      refine gq_iconst C (v := 1) d_L_leastFor_39 (by decide) ?_
      refine gq_iadd C d_L_leastFor_40 ?_
      refine G.eqS (st' := [.int (nI (a + 1)), .int (nI (a * 2 + 2))]) (by first | (rw [show (nI a) + 1 = nI (a + 1) from (nI_1 a)]; done) | (rw [show (nI a) + 1 = nI (a + 1) from (nI_1 a)]; rfl)) ?_
      refine gq_iconst C (v := 2) d_L_leastFor_41 (by decide) ?_
      refine gq_imul C d_L_leastFor_42 ?_
      refine G.eqS (st' := [.int (nI ((a + 1) * 2)), .int (nI (a * 2 + 2))]) (by first | (rw [show (nI (a + 1)) * 2 = nI ((a + 1) * 2) from (by rw [show (2 : Int32) = nI 2 from rfl, pk_mul])]; done) | (rw [show (nI (a + 1)) * 2 = nI ((a + 1) * 2) from (by rw [show (2 : Int32) = nI 2 from rfl, pk_mul])]; rfl)) ?_
      refine gq_icmp_ge C (tgt := 106) d_L_leastFor_43 rfl (fun hb43 => ?_) (fun hb => by exact absurd (nI_le (by omega) (by omega)) hb)
      refine gq_iinc C (k := 1) (w := nI (k + 1 + 1)) (lo' := [(4, .int (nI (k + 1 + 1))), (5, .int (nI (a * 2 + 2))), (0, .ref (al Z 1 j)), (1, .int (nI a)), (2, .int (nI n)), (3, .ref (al Z 17 0))]) d_L_leastFor_106 rfl (nI_1 (k + 1)) (by decide) rfl ?_
      refine gq_goto C (tgt := 7) d_L_leastFor_109 rfl ?_
      refine ih (k + 1) g3 _ (by omega) ?_ (fun q hq => by simp only [List.mem_cons, List.not_mem_nil, or_false] at hq ⊢; rcases hq with h | h | h | h | h <;> simp [h])
      rw [← hE]
      show _ = f_more _ _ _ _ _ r (k + 1 + 1) (f_st g (k + 1) _ _ _ _ _)
      rw [← hg3, ← hg2, ← hg1]
      rfl
  refine gq_aload_n C d_L_leastFor_0 rfl ?_
  refine gq_iconst C (v := 0) d_L_leastFor_1 (by decide) ?_
  refine gq_lconst C (v := 0) d_L_leastFor_2 (by decide) ?_
  refine gq_last C (fun _ h => h) (g := 17) (j := 0) (a := 0) (t0 := 1) (qm (by decide) (by decide)) (fun _ => rfl) rfl rfl (by decide) (by decide) d_L_leastFor_3 ?_
  refine gq_iconst C (v := 1) d_L_leastFor_4 (by decide) ?_
  refine gq_istore C (lo' := [(4, .int 1), (0, .ref (al Z 1 j)), (1, .int (nI a)), (2, .int (nI n)), (3, .ref (al Z 17 0))]) d_L_leastFor_5 (by decide) rfl ?_
  exact loop n 0 (vp_updL (Y 17 0) 0 0) _ (by omega) hE (fun q hq => hq)
