/-! the reference: the least for so many pieces, and pay -/
theorem g_same (f : Nat → Int64) (k : Nat) : vp_updL f k (f k) = f := by
  funext j
  unfold vp_updL
  split
  · rename_i h
    rw [h]
  · rfl

set_option maxHeartbeats 4000000 in
set_option maxRecDepth 100000 in
theorem c_M_cheapest (l : Launch) (Z : qZ) (hZ : qok (pX Z)) (V : qV) (Y : qY) (b : Nat) (hb : b < 10) (a : Nat) (ha : a < 8) (n : Nat) (hn : n ≤ 30) (z0 z1 : Nat) (h0 : V 22 0 (16 * b + 2 * a) = nI z0) (h1 : V 22 0 (16 * b + 2 * a + 1) = nI z1) (hz0 : z0 < 100) (hz1 : z1 < 100) : CT l y_M_cheapest { frames := 1, cells := 0, slots := 0, locals := 40 } (pX Z) (qA (pX Z)) [.ref (al Z 20 0), .int (nI b), .int (nI a), .int (nI n)] V Y (.inl (some (.long (f_rows (V 21 0 (8 * b + a)) z0 (V 23 0 (16 * b + 2 * a)) z1 (V 23 0 (16 * b + 2 * a + 1)) n (Y 42 0) n)))) V (quY Y 42 0 (f_rows (V 21 0 (8 * b + a)) z0 (V 23 0 (16 * b + 2 * a)) z1 (V 23 0 (16 * b + 2 * a + 1)) n (Y 42 0))) := by
  refine CT.of (cc := b_M_cheapest) (maxL := 7) (ret := (some .long)) hZ (by decide) w_884 (Nat.le_of_ble_eq_true rfl) ?_
  intro p e s m below meth c C hr hex hlt
  generalize hE : f_rows (V 21 0 (8 * b + a)) z0 (V 23 0 (16 * b + 2 * a)) z1 (V 23 0 (16 * b + 2 * a + 1)) n (Y 42 0) = E
  have slot : ∀ (k : Nat) (g : Nat → Int64) (u z : Nat) (q w : Int32), k + 1 ≤ 30 → u < 160 → V 22 0 u = nI z → V 23 0 u = w → z < 100 → G p l e { frames := 1, cells := 0, slots := 0, locals := 40 } s m ([.ref (al Z 20 0), .int (nI b), .int (nI a), .int (nI n)] : List Value).toArray below meth c (qQ below (pX Z) (qA (pX Z)) { frames := 1, cells := 0, slots := 0, locals := 40 } (.inl (some (.long (E n)))) V (quY Y 42 0 E) s) (pX Z) 7 (qA (pX Z)) V (quY Y 42 0 (f_s1 g (k + 1) z w)) 0 0 155 [(6, .int (nI u)), (5, .int q), (4, .int (nI (k + 1))), (0, .ref (al Z 20 0)), (1, .int (nI b)), (2, .int (nI a)), (3, .int (nI n))] [] → G p l e { frames := 1, cells := 0, slots := 0, locals := 40 } s m ([.ref (al Z 20 0), .int (nI b), .int (nI a), .int (nI n)] : List Value).toArray below meth c (qQ below (pX Z) (qA (pX Z)) { frames := 1, cells := 0, slots := 0, locals := 40 } (.inl (some (.long (E n)))) V (quY Y 42 0 E) s) (pX Z) 7 (qA (pX Z)) V (quY Y 42 0 g) 0 0 67 [(6, .int (nI u)), (5, .int q), (4, .int (nI (k + 1))), (0, .ref (al Z 20 0)), (1, .int (nI b)), (2, .int (nI a)), (3, .int (nI n))] [] := by
    intro k g u z q w hk hu hz hw hz9 kk
    by_cases hz0 : z = 0
    · have e : f_s1 g (k + 1) z w = g := by unfold f_s1; rw [if_pos hz0]
      rw [e] at kk
      refine gq_aload_n C d_M_cheapest_67 rfl ?_
      refine gq_get C (g := 20) (j := 0) (ci := 8) (k := 3) (v := .ref (al Z 22 0)) (qm (by decide) (by decide)) rfl rfl in_M (by decide) w_664 rfl d_M_cheapest_68 ?_
      refine gq_iload C d_M_cheapest_71 rfl ?_
      refine gq_iald C (g := 22) (j := 0) (a := u) (t0 := 0) (qm (by decide) (by decide)) rfl rfl rfl hu (by decide) d_M_cheapest_73 ?_
      refine G.eqS (st' := [.int (nI z)]) (by first | (rw [show V 22 0 u = nI z from hz]; done) | (rw [show V 22 0 u = nI z from hz]; rfl)) ?_
      refine gq_if_le C (tgt := 155) d_M_cheapest_74 rfl (fun hb74 => ?_) (fun hq => by exact absurd (by rw [hz0]; decide) hq)
      exact kk
    · by_cases hzk : k + 1 < z
      · have e : f_s1 g (k + 1) z w = g := by unfold f_s1; rw [if_neg hz0, if_pos hzk]
        rw [e] at kk
        refine gq_aload_n C d_M_cheapest_67 rfl ?_
        refine gq_get C (g := 20) (j := 0) (ci := 8) (k := 3) (v := .ref (al Z 22 0)) (qm (by decide) (by decide)) rfl rfl in_M (by decide) w_664 rfl d_M_cheapest_68 ?_
        refine gq_iload C d_M_cheapest_71 rfl ?_
        refine gq_iald C (g := 22) (j := 0) (a := u) (t0 := 0) (qm (by decide) (by decide)) rfl rfl rfl hu (by decide) d_M_cheapest_73 ?_
        refine G.eqS (st' := [.int (nI z)]) (by first | (rw [show V 22 0 u = nI z from hz]; done) | (rw [show V 22 0 u = nI z from hz]; rfl)) ?_
        refine gq_if_le C (tgt := 155) d_M_cheapest_74 rfl (fun hb5 => by exact absurd hb5 (nI_nle (by omega) (by omega))) (fun hb74 => ?_)
        refine gq_aload_n C d_M_cheapest_77 rfl ?_
        refine gq_get C (g := 20) (j := 0) (ci := 8) (k := 3) (v := .ref (al Z 22 0)) (qm (by decide) (by decide)) rfl rfl in_M (by decide) w_664 rfl d_M_cheapest_78 ?_
        refine gq_iload C d_M_cheapest_81 rfl ?_
        refine gq_iald C (g := 22) (j := 0) (a := u) (t0 := 0) (qm (by decide) (by decide)) rfl rfl rfl hu (by decide) d_M_cheapest_83 ?_
        refine G.eqS (st' := [.int (nI z)]) (by first | (rw [show V 22 0 u = nI z from hz]; done) | (rw [show V 22 0 u = nI z from hz]; rfl)) ?_
        refine gq_iload C d_M_cheapest_84 rfl ?_
        refine gq_icmp_gt C (tgt := 155) d_M_cheapest_86 rfl (fun hb86 => ?_) (fun hb5 => by exact absurd (nI_lt hzk (by omega)) hb5)
        exact kk
      · have e : f_s1 g (k + 1) z w = vp_updL g (k + 1) (if g (k + 1 - z) + w.toInt64 < g (k + 1) then g (k + 1 - z) + w.toInt64 else g (k + 1)) := by unfold f_s1; rw [if_neg hz0, if_neg hzk]
        rw [e] at kk
        by_cases hl : g (k + 1 - z) + w.toInt64 < g (k + 1)
        · rw [if_pos hl, ← qy_quY] at kk
          refine gq_aload_n C d_M_cheapest_67 rfl ?_
          refine gq_get C (g := 20) (j := 0) (ci := 8) (k := 3) (v := .ref (al Z 22 0)) (qm (by decide) (by decide)) rfl rfl in_M (by decide) w_664 rfl d_M_cheapest_68 ?_
          refine gq_iload C d_M_cheapest_71 rfl ?_
          refine gq_iald C (g := 22) (j := 0) (a := u) (t0 := 0) (qm (by decide) (by decide)) rfl rfl rfl hu (by decide) d_M_cheapest_73 ?_
          refine G.eqS (st' := [.int (nI z)]) (by first | (rw [show V 22 0 u = nI z from hz]; done) | (rw [show V 22 0 u = nI z from hz]; rfl)) ?_
          refine gq_if_le C (tgt := 155) d_M_cheapest_74 rfl (fun hb5 => by exact absurd hb5 (nI_nle (by omega) (by omega))) (fun hb74 => ?_)
          refine gq_aload_n C d_M_cheapest_77 rfl ?_
          refine gq_get C (g := 20) (j := 0) (ci := 8) (k := 3) (v := .ref (al Z 22 0)) (qm (by decide) (by decide)) rfl rfl in_M (by decide) w_664 rfl d_M_cheapest_78 ?_
          refine gq_iload C d_M_cheapest_81 rfl ?_
          refine gq_iald C (g := 22) (j := 0) (a := u) (t0 := 0) (qm (by decide) (by decide)) rfl rfl rfl hu (by decide) d_M_cheapest_83 ?_
          refine G.eqS (st' := [.int (nI z)]) (by first | (rw [show V 22 0 u = nI z from hz]; done) | (rw [show V 22 0 u = nI z from hz]; rfl)) ?_
          refine gq_iload C d_M_cheapest_84 rfl ?_
          refine gq_icmp_gt C (tgt := 155) d_M_cheapest_86 rfl (fun hb5 => by exact absurd hb5 (nI_nlt (by omega) (by omega))) (fun hb86 => ?_)
          refine gq_aload_n C d_M_cheapest_89 rfl ?_
          refine gq_get C (g := 20) (j := 0) (ci := 8) (k := 29) (v := .ref (al Z 42 0)) (qm (by decide) (by decide)) rfl rfl in_M (by decide) w_690 rfl d_M_cheapest_90 ?_
          refine gq_iload C d_M_cheapest_93 rfl ?_
          refine gq_aload_n C d_M_cheapest_95 rfl ?_
          refine gq_get C (g := 20) (j := 0) (ci := 8) (k := 3) (v := .ref (al Z 22 0)) (qm (by decide) (by decide)) rfl rfl in_M (by decide) w_664 rfl d_M_cheapest_96 ?_
          refine gq_iload C d_M_cheapest_99 rfl ?_
          refine gq_iald C (g := 22) (j := 0) (a := u) (t0 := 0) (qm (by decide) (by decide)) rfl rfl rfl hu (by decide) d_M_cheapest_101 ?_
          refine G.eqS (st' := [.int (nI z), .int (nI (k + 1)), .ref (al Z 42 0)]) (by first | (rw [show V 22 0 u = nI z from hz]; done) | (rw [show V 22 0 u = nI z from hz]; rfl)) ?_
          refine gq_isub C d_M_cheapest_102 ?_
          refine G.eqS (st' := [.int (nI (k + 1 - z)), .ref (al Z 42 0)]) (by first | (rw [show (nI (k + 1)) - (nI z) = nI (k + 1 - z) from (pk_sub (by omega))]; done) | (rw [show (nI (k + 1)) - (nI z) = nI (k + 1 - z) from (pk_sub (by omega))]; rfl)) ?_
          refine gq_lald C (g := 42) (j := 0) (a := (k + 1 - z)) (t0 := 1) (qm (by decide) (by decide)) rfl rfl rfl (by omega) (by decide) d_M_cheapest_103 ?_
          refine G.eqS (st' := [.long (g (k + 1 - z))]) (by first | (rw [show quY Y 42 0 g 42 0 (k + 1 - z) = g (k + 1 - z) from rfl]; done) | (rw [show quY Y 42 0 g 42 0 (k + 1 - z) = g (k + 1 - z) from rfl]; rfl)) ?_
          refine gq_aload_n C d_M_cheapest_104 rfl ?_
          refine gq_get C (g := 20) (j := 0) (ci := 8) (k := 4) (v := .ref (al Z 23 0)) (qm (by decide) (by decide)) rfl rfl in_M (by decide) w_665 rfl d_M_cheapest_105 ?_
          refine gq_iload C d_M_cheapest_108 rfl ?_
          refine gq_iald C (g := 23) (j := 0) (a := u) (t0 := 0) (qm (by decide) (by decide)) rfl rfl rfl hu (by decide) d_M_cheapest_110 ?_
          refine G.eqS (st' := [.int w, .long (g (k + 1 - z))]) (by first | (rw [show V 23 0 u = w from hw]; done) | (rw [show V 23 0 u = w from hw]; rfl)) ?_
          refine gq_i2l C d_M_cheapest_111 ?_
          refine gq_ladd C d_M_cheapest_112 ?_
          refine gq_aload_n C d_M_cheapest_113 rfl ?_
          refine gq_get C (g := 20) (j := 0) (ci := 8) (k := 29) (v := .ref (al Z 42 0)) (qm (by decide) (by decide)) rfl rfl in_M (by decide) w_690 rfl d_M_cheapest_114 ?_
          refine gq_iload C d_M_cheapest_117 rfl ?_
          refine gq_lald C (g := 42) (j := 0) (a := (k + 1)) (t0 := 1) (qm (by decide) (by decide)) rfl rfl rfl (by omega) (by decide) d_M_cheapest_119 ?_
          refine G.eqS (st' := [.long (g (k + 1)), .long ((g (k + 1 - z)) + w.toInt64)]) (by first | (rw [show quY Y 42 0 g 42 0 (k + 1) = g (k + 1) from rfl]; done) | (rw [show quY Y 42 0 g 42 0 (k + 1) = g (k + 1) from rfl]; rfl)) ?_
          refine gq_lcmp C d_M_cheapest_120 ?_
          refine gq_if_ge C (tgt := 155) d_M_cheapest_121 rfl (fun hb5 => by exact absurd hl (fun q => absurd ((lg_cmp_ge _ _).mp hb5) (lg_lt_not_le q))) (fun hb121 => ?_)
          refine gq_aload_n C d_M_cheapest_124 rfl ?_
          refine gq_get C (g := 20) (j := 0) (ci := 8) (k := 29) (v := .ref (al Z 42 0)) (qm (by decide) (by decide)) rfl rfl in_M (by decide) w_690 rfl d_M_cheapest_125 ?_
          refine gq_iload C d_M_cheapest_128 rfl ?_
          refine gq_aload_n C d_M_cheapest_130 rfl ?_
          refine gq_get C (g := 20) (j := 0) (ci := 8) (k := 29) (v := .ref (al Z 42 0)) (qm (by decide) (by decide)) rfl rfl in_M (by decide) w_690 rfl d_M_cheapest_131 ?_
          refine gq_iload C d_M_cheapest_134 rfl ?_
          refine gq_aload_n C d_M_cheapest_136 rfl ?_
          refine gq_get C (g := 20) (j := 0) (ci := 8) (k := 3) (v := .ref (al Z 22 0)) (qm (by decide) (by decide)) rfl rfl in_M (by decide) w_664 rfl d_M_cheapest_137 ?_
          refine gq_iload C d_M_cheapest_140 rfl ?_
          refine gq_iald C (g := 22) (j := 0) (a := u) (t0 := 0) (qm (by decide) (by decide)) rfl rfl rfl hu (by decide) d_M_cheapest_142 ?_
          refine G.eqS (st' := [.int (nI z), .int (nI (k + 1)), .ref (al Z 42 0), .int (nI (k + 1)), .ref (al Z 42 0)]) (by first | (rw [show V 22 0 u = nI z from hz]; done) | (rw [show V 22 0 u = nI z from hz]; rfl)) ?_
          refine gq_isub C d_M_cheapest_143 ?_
          refine G.eqS (st' := [.int (nI (k + 1 - z)), .ref (al Z 42 0), .int (nI (k + 1)), .ref (al Z 42 0)]) (by first | (rw [show (nI (k + 1)) - (nI z) = nI (k + 1 - z) from (pk_sub (by omega))]; done) | (rw [show (nI (k + 1)) - (nI z) = nI (k + 1 - z) from (pk_sub (by omega))]; rfl)) ?_
          refine gq_lald C (g := 42) (j := 0) (a := (k + 1 - z)) (t0 := 1) (qm (by decide) (by decide)) rfl rfl rfl (by omega) (by decide) d_M_cheapest_144 ?_
          refine G.eqS (st' := [.long (g (k + 1 - z)), .int (nI (k + 1)), .ref (al Z 42 0)]) (by first | (rw [show quY Y 42 0 g 42 0 (k + 1 - z) = g (k + 1 - z) from rfl]; done) | (rw [show quY Y 42 0 g 42 0 (k + 1 - z) = g (k + 1 - z) from rfl]; rfl)) ?_
          refine gq_aload_n C d_M_cheapest_145 rfl ?_
          refine gq_get C (g := 20) (j := 0) (ci := 8) (k := 4) (v := .ref (al Z 23 0)) (qm (by decide) (by decide)) rfl rfl in_M (by decide) w_665 rfl d_M_cheapest_146 ?_
          refine gq_iload C d_M_cheapest_149 rfl ?_
          refine gq_iald C (g := 23) (j := 0) (a := u) (t0 := 0) (qm (by decide) (by decide)) rfl rfl rfl hu (by decide) d_M_cheapest_151 ?_
          refine G.eqS (st' := [.int w, .long (g (k + 1 - z)), .int (nI (k + 1)), .ref (al Z 42 0)]) (by first | (rw [show V 23 0 u = w from hw]; done) | (rw [show V 23 0 u = w from hw]; rfl)) ?_
          refine gq_i2l C d_M_cheapest_152 ?_
          refine gq_ladd C d_M_cheapest_153 ?_
          refine gq_last C (fun _ h => h) (g := 42) (j := 0) (a := (k + 1)) (t0 := 1) (qm (by decide) (by decide)) (fun _ => rfl) rfl rfl (by omega) (by decide) d_M_cheapest_154 ?_
          exact kk
        · rw [if_neg hl, g_same] at kk
          refine gq_aload_n C d_M_cheapest_67 rfl ?_
          refine gq_get C (g := 20) (j := 0) (ci := 8) (k := 3) (v := .ref (al Z 22 0)) (qm (by decide) (by decide)) rfl rfl in_M (by decide) w_664 rfl d_M_cheapest_68 ?_
          refine gq_iload C d_M_cheapest_71 rfl ?_
          refine gq_iald C (g := 22) (j := 0) (a := u) (t0 := 0) (qm (by decide) (by decide)) rfl rfl rfl hu (by decide) d_M_cheapest_73 ?_
          refine G.eqS (st' := [.int (nI z)]) (by first | (rw [show V 22 0 u = nI z from hz]; done) | (rw [show V 22 0 u = nI z from hz]; rfl)) ?_
          refine gq_if_le C (tgt := 155) d_M_cheapest_74 rfl (fun hb5 => by exact absurd hb5 (nI_nle (by omega) (by omega))) (fun hb74 => ?_)
          refine gq_aload_n C d_M_cheapest_77 rfl ?_
          refine gq_get C (g := 20) (j := 0) (ci := 8) (k := 3) (v := .ref (al Z 22 0)) (qm (by decide) (by decide)) rfl rfl in_M (by decide) w_664 rfl d_M_cheapest_78 ?_
          refine gq_iload C d_M_cheapest_81 rfl ?_
          refine gq_iald C (g := 22) (j := 0) (a := u) (t0 := 0) (qm (by decide) (by decide)) rfl rfl rfl hu (by decide) d_M_cheapest_83 ?_
          refine G.eqS (st' := [.int (nI z)]) (by first | (rw [show V 22 0 u = nI z from hz]; done) | (rw [show V 22 0 u = nI z from hz]; rfl)) ?_
          refine gq_iload C d_M_cheapest_84 rfl ?_
          refine gq_icmp_gt C (tgt := 155) d_M_cheapest_86 rfl (fun hb5 => by exact absurd hb5 (nI_nlt (by omega) (by omega))) (fun hb86 => ?_)
          refine gq_aload_n C d_M_cheapest_89 rfl ?_
          refine gq_get C (g := 20) (j := 0) (ci := 8) (k := 29) (v := .ref (al Z 42 0)) (qm (by decide) (by decide)) rfl rfl in_M (by decide) w_690 rfl d_M_cheapest_90 ?_
          refine gq_iload C d_M_cheapest_93 rfl ?_
          refine gq_aload_n C d_M_cheapest_95 rfl ?_
          refine gq_get C (g := 20) (j := 0) (ci := 8) (k := 3) (v := .ref (al Z 22 0)) (qm (by decide) (by decide)) rfl rfl in_M (by decide) w_664 rfl d_M_cheapest_96 ?_
          refine gq_iload C d_M_cheapest_99 rfl ?_
          refine gq_iald C (g := 22) (j := 0) (a := u) (t0 := 0) (qm (by decide) (by decide)) rfl rfl rfl hu (by decide) d_M_cheapest_101 ?_
          refine G.eqS (st' := [.int (nI z), .int (nI (k + 1)), .ref (al Z 42 0)]) (by first | (rw [show V 22 0 u = nI z from hz]; done) | (rw [show V 22 0 u = nI z from hz]; rfl)) ?_
          refine gq_isub C d_M_cheapest_102 ?_
          refine G.eqS (st' := [.int (nI (k + 1 - z)), .ref (al Z 42 0)]) (by first | (rw [show (nI (k + 1)) - (nI z) = nI (k + 1 - z) from (pk_sub (by omega))]; done) | (rw [show (nI (k + 1)) - (nI z) = nI (k + 1 - z) from (pk_sub (by omega))]; rfl)) ?_
          refine gq_lald C (g := 42) (j := 0) (a := (k + 1 - z)) (t0 := 1) (qm (by decide) (by decide)) rfl rfl rfl (by omega) (by decide) d_M_cheapest_103 ?_
          refine G.eqS (st' := [.long (g (k + 1 - z))]) (by first | (rw [show quY Y 42 0 g 42 0 (k + 1 - z) = g (k + 1 - z) from rfl]; done) | (rw [show quY Y 42 0 g 42 0 (k + 1 - z) = g (k + 1 - z) from rfl]; rfl)) ?_
          refine gq_aload_n C d_M_cheapest_104 rfl ?_
          refine gq_get C (g := 20) (j := 0) (ci := 8) (k := 4) (v := .ref (al Z 23 0)) (qm (by decide) (by decide)) rfl rfl in_M (by decide) w_665 rfl d_M_cheapest_105 ?_
          refine gq_iload C d_M_cheapest_108 rfl ?_
          refine gq_iald C (g := 23) (j := 0) (a := u) (t0 := 0) (qm (by decide) (by decide)) rfl rfl rfl hu (by decide) d_M_cheapest_110 ?_
          refine G.eqS (st' := [.int w, .long (g (k + 1 - z))]) (by first | (rw [show V 23 0 u = w from hw]; done) | (rw [show V 23 0 u = w from hw]; rfl)) ?_
          refine gq_i2l C d_M_cheapest_111 ?_
          refine gq_ladd C d_M_cheapest_112 ?_
          refine gq_aload_n C d_M_cheapest_113 rfl ?_
          refine gq_get C (g := 20) (j := 0) (ci := 8) (k := 29) (v := .ref (al Z 42 0)) (qm (by decide) (by decide)) rfl rfl in_M (by decide) w_690 rfl d_M_cheapest_114 ?_
          refine gq_iload C d_M_cheapest_117 rfl ?_
          refine gq_lald C (g := 42) (j := 0) (a := (k + 1)) (t0 := 1) (qm (by decide) (by decide)) rfl rfl rfl (by omega) (by decide) d_M_cheapest_119 ?_
          refine G.eqS (st' := [.long (g (k + 1)), .long ((g (k + 1 - z)) + w.toInt64)]) (by first | (rw [show quY Y 42 0 g 42 0 (k + 1) = g (k + 1) from rfl]; done) | (rw [show quY Y 42 0 g 42 0 (k + 1) = g (k + 1) from rfl]; rfl)) ?_
          refine gq_lcmp C d_M_cheapest_120 ?_
          refine gq_if_ge C (tgt := 155) d_M_cheapest_121 rfl (fun hb121 => ?_) (fun hb5 => by exact absurd ((lg_cmp_ge _ _).mpr (Int64.not_lt.mp hl)) hb5)
          exact kk
  have loop : ∀ (r k : Nat) (g : Nat → Int64) (lx : List (Nat × Value)), k + r = n → f_more (V 21 0 (8 * b + a)) z0 (V 23 0 (16 * b + 2 * a)) z1 (V 23 0 (16 * b + 2 * a + 1)) r (k + 1) g = E → (∀ q ∈ ([(4, .int (nI (k + 1))), (0, .ref (al Z 20 0)), (1, .int (nI b)), (2, .int (nI a)), (3, .int (nI n))] : List (Nat × Value)), q ∈ lx) → G p l e { frames := 1, cells := 0, slots := 0, locals := 40 } s m ([.ref (al Z 20 0), .int (nI b), .int (nI a), .int (nI n)] : List Value).toArray below meth c (qQ below (pX Z) (qA (pX Z)) { frames := 1, cells := 0, slots := 0, locals := 40 } (.inl (some (.long (E n)))) V (quY Y 42 0 E) s) (pX Z) 7 (qA (pX Z)) V (quY Y 42 0 g) 0 0 10 lx [] := by
    intro r
    induction r with
    | zero =>
      intro k g lx hk hE hx
      obtain rfl : g = E := hE
      obtain rfl : k = n := by omega
      refine G.sub hx ?_
      refine gq_iload C d_M_cheapest_10 rfl ?_
      refine gq_iload_n C d_M_cheapest_12 rfl ?_
      refine gq_icmp_gt C (tgt := 167) d_M_cheapest_13 rfl (fun hb13 => ?_) (fun hb5 => by exact absurd (nI_lt (by omega) (by omega)) hb5)
      refine gq_aload_n C d_M_cheapest_167 rfl ?_
      refine gq_get C (g := 20) (j := 0) (ci := 8) (k := 29) (v := .ref (al Z 42 0)) (qm (by decide) (by decide)) rfl rfl in_M (by decide) w_690 rfl d_M_cheapest_168 ?_
      refine gq_iload_n C d_M_cheapest_171 rfl ?_
      refine gq_lald C (g := 42) (j := 0) (a := k) (t0 := 1) (qm (by decide) (by decide)) rfl rfl rfl (by omega) (by decide) d_M_cheapest_172 ?_
      refine G.eqS (st' := [.long (g k)]) (by first | (rw [show quY Y 42 0 g 42 0 k = g k from rfl]; done) | (rw [show quY Y 42 0 g 42 0 k = g k from rfl]; rfl)) ?_
      exact gq_lret C hr (by decide) (by decide) d_M_cheapest_173
    | succ r ih =>
      intro k g lx hk hE hx
      refine G.sub hx ?_
      refine gq_iload C d_M_cheapest_10 rfl ?_
      refine gq_iload_n C d_M_cheapest_12 rfl ?_
      refine gq_icmp_gt C (tgt := 167) d_M_cheapest_13 rfl (fun hb5 => by exact absurd hb5 (nI_nlt (by omega) (by omega))) (fun hb13 => ?_)
      refine gq_aload_n C d_M_cheapest_16 rfl ?_
      refine gq_get C (g := 20) (j := 0) (ci := 8) (k := 29) (v := .ref (al Z 42 0)) (qm (by decide) (by decide)) rfl rfl in_M (by decide) w_690 rfl d_M_cheapest_17 ?_
      refine gq_iload C d_M_cheapest_20 rfl ?_
      refine gq_aload_n C d_M_cheapest_22 rfl ?_
      refine gq_get C (g := 20) (j := 0) (ci := 8) (k := 29) (v := .ref (al Z 42 0)) (qm (by decide) (by decide)) rfl rfl in_M (by decide) w_690 rfl d_M_cheapest_23 ?_
      refine gq_iload C d_M_cheapest_26 rfl ?_
      refine gq_iconst C (v := 1) d_M_cheapest_28 (by decide) ?_
      refine gq_isub C d_M_cheapest_29 ?_
      refine G.eqS (st' := [.int (nI k), .ref (al Z 42 0), .int (nI (k + 1)), .ref (al Z 42 0)]) (by first | (rw [show (nI (k + 1)) - 1 = nI k from (nI_pred k)]; done) | (rw [show (nI (k + 1)) - 1 = nI k from (nI_pred k)]; rfl)) ?_
      refine gq_lald C (g := 42) (j := 0) (a := k) (t0 := 1) (qm (by decide) (by decide)) rfl rfl rfl (by omega) (by decide) d_M_cheapest_30 ?_
      refine G.eqS (st' := [.long (g k), .int (nI (k + 1)), .ref (al Z 42 0)]) (by first | (rw [show quY Y 42 0 g 42 0 k = g k from rfl]; done) | (rw [show quY Y 42 0 g 42 0 k = g k from rfl]; rfl)) ?_
      refine gq_aload_n C d_M_cheapest_31 rfl ?_
      refine gq_get C (g := 20) (j := 0) (ci := 8) (k := 2) (v := .ref (al Z 21 0)) (qm (by decide) (by decide)) rfl rfl in_M (by decide) w_663 rfl d_M_cheapest_32 ?_
      refine gq_bipush C (v := 8) d_M_cheapest_35 (by decide) ?_
      refine gq_iload_n C d_M_cheapest_37 rfl ?_
      refine gq_imul C d_M_cheapest_38 ?_
      refine gq_iload_n C d_M_cheapest_39 rfl ?_
      refine gq_iadd C d_M_cheapest_40 ?_
      refine gq_iald C (g := 21) (j := 0) (a := (8 * b + a)) (t0 := 0) (qm (by decide) (by decide)) rfl rfl (by rw [show (8 : Int32) = nI 8 from rfl, pk_mul]; exact nI_add _ _) (by omega) (by decide) d_M_cheapest_41 ?_
      refine gq_i2l C d_M_cheapest_42 ?_
      refine gq_ladd C d_M_cheapest_43 ?_
      refine gq_last C (fun _ h => h) (g := 42) (j := 0) (a := (k + 1)) (t0 := 1) (qm (by decide) (by decide)) (fun _ => rfl) rfl rfl (by omega) (by decide) d_M_cheapest_44 ?_
      refine G.eqY (qy_quY _ _ _ _ _ _) ?_
      generalize hg1 : vp_updL g (k + 1) (g k + (V 21 0 (8 * b + a)).toInt64) = g1
      refine gq_iconst C (v := 0) d_M_cheapest_45 (by decide) ?_
      refine gq_istore C (lo' := [(5, .int 0), (4, .int (nI (k + 1))), (0, .ref (al Z 20 0)), (1, .int (nI b)), (2, .int (nI a)), (3, .int (nI n))]) d_M_cheapest_46 (by decide) rfl ?_
      refine gq_iload C d_M_cheapest_48 rfl ?_
      refine gq_iconst C (v := 2) d_M_cheapest_50 (by decide) ?_
      refine gq_icmp_ge C (tgt := 161) d_M_cheapest_51 rfl (fun hb5 => by exact absurd hb5 (by decide)) (fun hb51 => ?_)
      refine gq_bipush C (v := 16) d_M_cheapest_54 (by decide) ?_
      refine gq_iload_n C d_M_cheapest_56 rfl ?_
      refine gq_imul C d_M_cheapest_57 ?_
      refine gq_iconst C (v := 2) d_M_cheapest_58 (by decide) ?_
      refine gq_iload_n C d_M_cheapest_59 rfl ?_
      refine gq_imul C d_M_cheapest_60 ?_
      refine gq_iadd C d_M_cheapest_61 ?_
      refine gq_iload C d_M_cheapest_62 rfl ?_
      refine gq_iadd C d_M_cheapest_64 ?_
      refine G.eqS (st' := [.int (nI (16 * b + 2 * a))]) (by first | (rw [show ((16 * (nI b)) + (2 * (nI a))) + 0 = nI (16 * b + 2 * a) from (by rw [show (16 : Int32) = nI 16 from rfl, show (2 : Int32) = nI 2 from rfl, pk_mul, pk_mul, nI_add]; exact nI_add _ 0)]; done) | (rw [show ((16 * (nI b)) + (2 * (nI a))) + 0 = nI (16 * b + 2 * a) from (by rw [show (16 : Int32) = nI 16 from rfl, show (2 : Int32) = nI 2 from rfl, pk_mul, pk_mul, nI_add]; exact nI_add _ 0)]; rfl)) ?_
      refine gq_istore C (lo' := [(6, .int (nI (16 * b + 2 * a))), (5, .int 0), (4, .int (nI (k + 1))), (0, .ref (al Z 20 0)), (1, .int (nI b)), (2, .int (nI a)), (3, .int (nI n))]) d_M_cheapest_65 (by decide) rfl ?_
      refine slot k g1 (16 * b + 2 * a) z0 _ _ (by omega) (by omega) h0 rfl hz0 ?_
      generalize hg2 : f_s1 g1 (k + 1) z0 (V 23 0 (16 * b + 2 * a)) = g2
      refine gq_iinc C (k := 1) (w := 1) (lo' := [(5, .int 1), (6, .int (nI (16 * b + 2 * a))), (4, .int (nI (k + 1))), (0, .ref (al Z 20 0)), (1, .int (nI b)), (2, .int (nI a)), (3, .int (nI n))]) d_M_cheapest_155 rfl (by decide) (by decide) rfl ?_
      refine gq_goto C (tgt := 48) d_M_cheapest_158 rfl ?_
      refine gq_iload C d_M_cheapest_48 rfl ?_
      refine gq_iconst C (v := 2) d_M_cheapest_50 (by decide) ?_
      refine gq_icmp_ge C (tgt := 161) d_M_cheapest_51 rfl (fun hb5 => by exact absurd hb5 (by decide)) (fun hb51 => ?_)
      refine gq_bipush C (v := 16) d_M_cheapest_54 (by decide) ?_
      refine gq_iload_n C d_M_cheapest_56 rfl ?_
      refine gq_imul C d_M_cheapest_57 ?_
      refine gq_iconst C (v := 2) d_M_cheapest_58 (by decide) ?_
      refine gq_iload_n C d_M_cheapest_59 rfl ?_
      refine gq_imul C d_M_cheapest_60 ?_
      refine gq_iadd C d_M_cheapest_61 ?_
      refine gq_iload C d_M_cheapest_62 rfl ?_
      refine gq_iadd C d_M_cheapest_64 ?_
      refine G.eqS (st' := [.int (nI (16 * b + 2 * a + 1))]) (by first | (rw [show ((16 * (nI b)) + (2 * (nI a))) + 1 = nI (16 * b + 2 * a + 1) from (by rw [show (16 : Int32) = nI 16 from rfl, show (2 : Int32) = nI 2 from rfl, pk_mul, pk_mul, nI_add]; exact nI_1 _)]; done) | (rw [show ((16 * (nI b)) + (2 * (nI a))) + 1 = nI (16 * b + 2 * a + 1) from (by rw [show (16 : Int32) = nI 16 from rfl, show (2 : Int32) = nI 2 from rfl, pk_mul, pk_mul, nI_add]; exact nI_1 _)]; rfl)) ?_
      refine gq_istore C (lo' := [(6, .int (nI (16 * b + 2 * a + 1))), (5, .int 1), (4, .int (nI (k + 1))), (0, .ref (al Z 20 0)), (1, .int (nI b)), (2, .int (nI a)), (3, .int (nI n))]) d_M_cheapest_65 (by decide) rfl ?_
      refine slot k g2 (16 * b + 2 * a + 1) z1 _ _ (by omega) (by omega) h1 rfl hz1 ?_
      generalize hg3 : f_s1 g2 (k + 1) z1 (V 23 0 (16 * b + 2 * a + 1)) = g3
      refine gq_iinc C (k := 1) (w := 2) (lo' := [(5, .int 2), (6, .int (nI (16 * b + 2 * a + 1))), (4, .int (nI (k + 1))), (0, .ref (al Z 20 0)), (1, .int (nI b)), (2, .int (nI a)), (3, .int (nI n))]) d_M_cheapest_155 rfl (by decide) (by decide) rfl ?_
      refine gq_goto C (tgt := 48) d_M_cheapest_158 rfl ?_
      refine gq_iload C d_M_cheapest_48 rfl ?_
      refine gq_iconst C (v := 2) d_M_cheapest_50 (by decide) ?_
      refine gq_icmp_ge C (tgt := 161) d_M_cheapest_51 rfl (fun hb51 => ?_) (fun hb5 => by exact absurd hb5 (by decide))
      refine gq_iinc C (k := 2) (w := nI (k + 1 + 1)) (lo' := [(4, .int (nI (k + 1 + 1))), (5, .int 2), (6, .int (nI (16 * b + 2 * a + 1))), (0, .ref (al Z 20 0)), (1, .int (nI b)), (2, .int (nI a)), (3, .int (nI n))]) d_M_cheapest_161 rfl (nI_1 (k + 1)) (by decide) rfl ?_
      refine gq_goto C (tgt := 10) d_M_cheapest_164 rfl ?_
      refine ih (k + 1) g3 _ (by omega) ?_ (fun q hq => by simp only [List.mem_cons, List.not_mem_nil, or_false] at hq ⊢; rcases hq with h | h | h | h | h <;> simp [h])
      rw [← hE]
      show _ = f_more _ _ _ _ _ r (k + 1 + 1) (f_st g (k + 1) _ _ _ _ _)
      rw [← hg3, ← hg2, ← hg1]
      rfl
  refine gq_aload_n C d_M_cheapest_0 rfl ?_
  refine gq_get C (g := 20) (j := 0) (ci := 8) (k := 29) (v := .ref (al Z 42 0)) (qm (by decide) (by decide)) rfl rfl in_M (by decide) w_690 rfl d_M_cheapest_1 ?_
  refine gq_iconst C (v := 0) d_M_cheapest_4 (by decide) ?_
  refine gq_lconst C (v := 0) d_M_cheapest_5 (by decide) ?_
  refine gq_last C (fun _ h => h) (g := 42) (j := 0) (a := 0) (t0 := 1) (qm (by decide) (by decide)) (fun _ => rfl) rfl rfl (by decide) (by decide) d_M_cheapest_6 ?_
  refine gq_iconst C (v := 1) d_M_cheapest_7 (by decide) ?_
  refine gq_istore C (lo' := [(4, .int 1), (0, .ref (al Z 20 0)), (1, .int (nI b)), (2, .int (nI a)), (3, .int (nI n))]) d_M_cheapest_8 (by decide) rfl ?_
  exact loop n 0 (vp_updL (Y 42 0) 0 0) _ (by omega) hE (fun q hq => hq)

def g_payR (V : qV) (b : Nat) (pn zf : Nat → Nat) : Nat → Nat → (Nat → Int64) → Int64 → (Nat → Int64) × Int64
  | 0, _, f, s => (f, s)
  | r + 1, a, f, s => g_payR V b pn zf r (a + 1) (f_rows (V 21 0 (8 * b + a)) (zf (2 * a)) (V 23 0 (16 * b + 2 * a)) (zf (2 * a + 1)) (V 23 0 (16 * b + 2 * a + 1)) (pn a) f) (s + f_rows (V 21 0 (8 * b + a)) (zf (2 * a)) (V 23 0 (16 * b + 2 * a)) (zf (2 * a + 1)) (V 23 0 (16 * b + 2 * a + 1)) (pn a) f (pn a))

set_option maxHeartbeats 4000000 in
set_option maxRecDepth 100000 in
theorem c_M_pay (l : Launch) (Z : qZ) (hZ : qok (pX Z)) (V : qV) (Y : qY) (k : Nat) (hk : k < 40) (h1 : g_not (nI k) (V 20 0 24) = 0) (h2 : ¬ V 40 0 k = 0) (b : Nat) (hb : b < 10) (hbk : V 39 0 k = nI b) (pn zf : Nat → Nat) (hp : ∀ a, a < 8 → V 41 0 (8 * k + a) = nI (pn a) ∧ pn a ≤ 30) (hz : ∀ u, u < 16 → V 22 0 (16 * b + u) = nI (zf u) ∧ zf u < 100) : CT l y_M_pay { frames := 3, cells := 0, slots := 0, locals := 82 } (pX Z) (qA (pX Z)) [.ref (al Z 20 0), .int (nI k)] V Y (.inl (some (.long (g_payR V b pn zf 8 0 (Y 42 0) 0).2))) (qv (qv V 20 0 0 0) 40 0 k 0) (quY Y 42 0 (g_payR V b pn zf 8 0 (Y 42 0) 0).1) := by
  refine CT.of (cc := b_M_pay) (maxL := 5) (ret := (some .long)) hZ (by decide) w_880 (Nat.le_of_ble_eq_true rfl) ?_
  intro p e s m below meth c C hr hex hlt
  generalize hE : g_payR V b pn zf 8 0 (Y 42 0) 0 = E
  have loop : ∀ (r a : Nat) (f : Nat → Int64) (x : Int64), a + r = 8 → g_payR V b pn zf r a f x = E → G p l e { frames := 3, cells := 0, slots := 0, locals := 82 } s m ([.ref (al Z 20 0), .int (nI k)] : List Value).toArray below meth c (qQ below (pX Z) (qA (pX Z)) { frames := 3, cells := 0, slots := 0, locals := 82 } (.inl (some (.long E.2))) (qv (qv V 20 0 0 0) 40 0 k 0) (quY Y 42 0 E.1) s) (pX Z) 5 (qA (pX Z)) (qv V 20 0 0 0) (quY Y 42 0 f) 0 0 31 [(4, .int (nI a)), (2, .long x), (0, .ref (al Z 20 0)), (1, .int (nI k))] [] := by
    intro r
    induction r with
    | zero =>
      intro a f x ha hE
      subst hE
      refine gq_iload C d_M_pay_31 rfl ?_
      refine gq_bipush C (v := 8) d_M_pay_33 (by decide) ?_
      refine gq_icmp_ge C (tgt := 71) d_M_pay_35 rfl (fun hb35 => ?_) (fun hb5 => by exact absurd (nI_le (a := 8) (by omega) (by omega)) hb5)
      refine gq_aload_n C d_M_pay_71 rfl ?_
      refine gq_get C (g := 20) (j := 0) (ci := 8) (k := 27) (v := .ref (al Z 40 0)) (qm (by decide) (by decide)) rfl rfl in_M (by decide) w_688 rfl d_M_pay_72 ?_
      refine gq_iload_n C d_M_pay_75 rfl ?_
      refine gq_iconst C (v := 0) d_M_pay_76 (by decide) ?_
      refine gq_zast C (fun _ h => h) (g := 40) (j := 0) (a := k) (t0 := 2) (qm (by decide) (by decide)) (fun _ => rfl) rfl rfl hk (by decide) rfl d_M_pay_77 ?_
      refine gq_lload_n C d_M_pay_78 rfl ?_
      exact gq_lret C hr (by decide) (by decide) d_M_pay_79
    | succ r ih =>
      intro a f x ha hE
      have hpa := (hp a (by omega)).2
      refine gq_iload C d_M_pay_31 rfl ?_
      refine gq_bipush C (v := 8) d_M_pay_33 (by decide) ?_
      refine gq_icmp_ge C (tgt := 71) d_M_pay_35 rfl (fun hb5 => by exact absurd hb5 (nI_ge (b := 8) (by omega) (by omega))) (fun hb35 => ?_)
      refine gq_lload_n C d_M_pay_38 rfl ?_
      refine gq_aload_n C d_M_pay_39 rfl ?_
      refine gq_aload_n C d_M_pay_40 rfl ?_
      refine gq_get C (g := 20) (j := 0) (ci := 8) (k := 26) (v := .ref (al Z 39 0)) (qm (by decide) (by decide)) rfl rfl in_M (by decide) w_687 rfl d_M_pay_41 ?_
      refine gq_iload_n C d_M_pay_44 rfl ?_
      refine gq_iald C (g := 39) (j := 0) (a := k) (t0 := 0) (qm (by decide) (by decide)) rfl rfl rfl hk (by decide) d_M_pay_45 ?_
      refine G.eqS (st' := [.int (V 39 0 k), .ref (al Z 20 0), .long x]) rfl ?_
      refine G.eqS (st' := [.int (nI b), .ref (al Z 20 0), .long x]) (by first | (rw [show V 39 0 k = nI b from hbk]; done) | (rw [show V 39 0 k = nI b from hbk]; rfl)) ?_
      refine gq_iload C d_M_pay_46 rfl ?_
      refine gq_aload_n C d_M_pay_48 rfl ?_
      refine gq_get C (g := 20) (j := 0) (ci := 8) (k := 28) (v := .ref (al Z 41 0)) (qm (by decide) (by decide)) rfl rfl in_M (by decide) w_689 rfl d_M_pay_49 ?_
      refine gq_bipush C (v := 8) d_M_pay_52 (by decide) ?_
      refine gq_iload_n C d_M_pay_54 rfl ?_
      refine gq_imul C d_M_pay_55 ?_
      refine gq_iload C d_M_pay_56 rfl ?_
      refine gq_iadd C d_M_pay_58 ?_
      refine gq_iald C (g := 41) (j := 0) (a := (8 * k + a)) (t0 := 0) (qm (by decide) (by decide)) rfl rfl (by rw [show (8 : Int32) = nI 8 from rfl, pk_mul]; exact nI_add _ _) (by omega) (by decide) d_M_pay_59 ?_
      refine G.eqS (st' := [.int (V 41 0 (8 * k + a)), .int (nI a), .int (nI b), .ref (al Z 20 0), .long x]) rfl ?_
      refine G.eqS (st' := [.int (nI (pn a)), .int (nI a), .int (nI b), .ref (al Z 20 0), .long x]) (by first | (rw [show V 41 0 (8 * k + a) = nI (pn a) from ((hp a (by omega)).1)]; done) | (rw [show V 41 0 (8 * k + a) = nI (pn a) from ((hp a (by omega)).1)]; rfl)) ?_
      refine gq_callV C (st := [.long x]) (fun _ h => h) (c_M_cheapest l Z hZ (qv V 20 0 0 0) (quY Y 42 0 f) b hb a (by omega) (pn a) hpa (zf (2 * a)) (zf (2 * a + 1)) (hz (2 * a) (by omega)).1 (hz (2 * a + 1) (by omega)).1 (hz (2 * a) (by omega)).2 (hz (2 * a + 1) (by omega)).2) (qm (by decide) (by decide)) rfl rfl w_881 w_883 ws_M_cheapest w_884 w_9 ⟨by decide, by decide, (by decide +kernel : (parseMethodDescriptor y_M_cheapest.desc).map (fun d => d.parameters.length) = some 3)⟩ ⟨by decide, by decide⟩ ⟨by decide, by decide⟩ rfl (Nat.le_of_ble_eq_true rfl) d_M_pay_60 ?_
      refine gq_ladd C d_M_pay_63 ?_
      refine gq_lstore_n C (lo' := [(2, .long (x + (f_rows (V 21 0 (8 * b + a)) (zf (2 * a)) (V 23 0 (16 * b + 2 * a)) (zf (2 * a + 1)) (V 23 0 (16 * b + 2 * a + 1)) (pn a) f (pn a)))), (4, .int (nI a)), (0, .ref (al Z 20 0)), (1, .int (nI k))]) d_M_pay_64 rfl (by decide) rfl ?_
      refine gq_iinc C (k := 1) (w := nI (a + 1)) (lo' := [(4, .int (nI (a + 1))), (2, .long (x + (f_rows (V 21 0 (8 * b + a)) (zf (2 * a)) (V 23 0 (16 * b + 2 * a)) (zf (2 * a + 1)) (V 23 0 (16 * b + 2 * a + 1)) (pn a) f (pn a)))), (0, .ref (al Z 20 0)), (1, .int (nI k))]) d_M_pay_65 rfl (nI_1 a) (by decide) rfl ?_
      refine gq_goto C (tgt := 31) d_M_pay_68 rfl ?_
      refine G.eqY (quY_quY _ _ _ _ _) ?_
      exact ih (a + 1) _ _ (by omega) hE
  refine gq_aload_n C d_M_pay_0 rfl ?_
  refine gq_aload_n C d_M_pay_1 rfl ?_
  refine gq_iload_n C d_M_pay_2 rfl ?_
  refine gq_callV C (st := [.ref (al Z 20 0)]) (fun _ h => h.elim) (c_M_noOpen l Z hZ _ _ k hk h1 h2) (qm (by decide) (by decide)) rfl rfl w_873 w_875 ws_M_noOpen w_876 w_9 ⟨by decide, by decide, (by decide +kernel : (parseMethodDescriptor y_M_noOpen.desc).map (fun d => d.parameters.length) = some 1)⟩ ⟨by decide, by decide⟩ ⟨by decide, by decide⟩ rfl (Nat.le_of_ble_eq_true rfl) d_M_pay_3 ?_
  refine gq_if_eq C (tgt := 13) d_M_pay_6 rfl (fun hb6 => ?_) (fun hb => by exact absurd hb (by decide))
  refine gq_iconst C (v := 0) d_M_pay_13 (by decide) ?_
  refine gq_put C (fun _ h => h) (g := 20) (j := 0) (ci := 8) (k := 0) ft_M k_M n_M (qm (by decide) (by decide)) rfl rfl in_M (by decide) w_661 rfl (k_M 0 (by decide)) rfl rfl (Nat.le_of_ble_eq_true rfl) rfl d_M_pay_14 ?_
  refine gq_aload_n C d_M_pay_17 rfl ?_
  refine gq_get C (g := 20) (j := 0) (ci := 8) (k := 0) (v := .int 0) (qm (by decide) (by decide)) rfl rfl in_M (by decide) w_661 rfl d_M_pay_18 ?_
  refine gq_if_eq C (tgt := 26) d_M_pay_21 rfl (fun hb21 => ?_) (fun hb => by exact absurd hb (by decide))
  refine gq_lconst C (v := 0) d_M_pay_26 (by decide) ?_
  refine gq_lstore_n C (lo' := [(2, .long 0), (0, .ref (al Z 20 0)), (1, .int (nI k))]) d_M_pay_27 rfl (by decide) rfl ?_
  refine gq_iconst C (v := 0) d_M_pay_28 (by decide) ?_
  refine gq_istore C (lo' := [(4, .int 0), (2, .long 0), (0, .ref (al Z 20 0)), (1, .int (nI k))]) d_M_pay_29 (by decide) rfl ?_
  refine G.eqY (Y' := quY Y 42 0 (Y 42 0)) (quY_self _ _ _).symm ?_
  exact loop 8 0 (Y 42 0) 0 rfl hE
