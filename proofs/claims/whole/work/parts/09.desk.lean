/-! the row's post, whatever the row holds; the desk -/
def f_put (V : qV) (k t b a : Int32) : qV := if V 12 0 4 < 40 then f_post V (V 12 0 4).toNatClampNeg k t b a else V
theorem f_put_fr (V : qV) (k t b a : Int32) (g : Nat) (h : g ≠ 12 ∧ g ≠ 13) : f_put V k t b a g = V g := by
  funext j i
  unfold f_put f_post
  split
  · simp [qv_at, h.1, h.2]
  · rfl
theorem f_put_cnt {V : qV} (k t b a : Int32) (h : ∃ n, n ≤ 40 ∧ V 12 0 4 = nI n) : ∃ n, n ≤ 40 ∧ f_put V k t b a 12 0 4 = nI n := by
  obtain ⟨n, hn, h4⟩ := h
  by_cases hl : n < 40
  · refine ⟨n + 1, hl, ?_⟩
    unfold f_put f_post
    rw [if_pos (by rw [h4]; exact nI_lt hl (by decide)), h4, nI_clamp (by omega)]
    simp [qv_at]
  · refine ⟨n, hn, ?_⟩
    unfold f_put
    rw [if_neg (by rw [h4]; exact nI_nlt (b := 40) (by omega) (by omega))]
    exact h4
theorem c_R_put (l : Launch) (Z : qZ) (hZ : qok (pX Z)) (V : qV) (Y : qY) (h : ∃ n, n ≤ 40 ∧ V 12 0 4 = nI n) (k t b a : Int32) : CT l y_R_post { frames := 2, cells := 0, slots := 0, locals := 60 } (pX Z) (qA (pX Z)) [.ref (al Z 12 0), .int k, .int t, .int b, .int a] V Y (.inl none) (f_put V k t b a) Y := by
  obtain ⟨n, hn, h4⟩ := h
  by_cases hl : n < 40
  · have e : f_put V k t b a = f_post V n k t b a := by
      unfold f_put
      rw [if_pos (by rw [h4]; exact nI_lt hl (by decide)), h4, nI_clamp (by omega)]
    rw [e]
    exact c_R_post l Z hZ V Y n hl h4 k t b a
  · have hf : ¬ V 12 0 4 < 40 := by rw [h4]; exact nI_nlt (b := 40) (by omega) (by omega)
    have e : f_put V k t b a = V := by
      unfold f_put
      rw [if_neg hf]
    rw [e]
    exact c_R_post_full l Z hZ V Y hf k t b a
def f_waits (V : qV) : Int32 := if V 9 0 4 ≤ V 8 4 0 / 100 then 0 else 1
def f_bookFor (V : qV) (t : Nat) : Int32 := if V 9 0 3 = 0 then V 9 0 2 else if V 11 t 0 < V 9 0 3 then 0 else V 9 0 3
def f_look (V : qV) : qV := if V 9 0 3 = 0 then V else if f_waits V = 0 then (if f_al V 0 (V 9 0 3) (V 8 4 0 / 100) = 0 then V else if f_al V 1 (V 9 0 3) (V 8 4 0 / 100) = 0 then V else if f_al V 2 (V 9 0 3) (V 8 4 0 / 100) = 0 then V else if f_al V 3 (V 9 0 3) (V 8 4 0 / 100) = 0 then V else qv (qv V 9 0 2 (V 9 0 3)) 9 0 3 0) else V
def f_grantB (V : qV) (t : Nat) (a : Int32) : Int32 := if f_waits V = 0 then (if V 11 t 1 ≤ a then f_bookFor V t else 0) else 0
def f_grant (V : qV) (t : Nat) (a : Int32) : qV := if f_grantB V t a = 0 then V else qv (qv (qv (qv V 11 t 1 a) 11 t 2 (f_grantB V t a)) 11 t 3 (V 8 4 0 / 100)) 11 t 4 1
def f_forget (V : qV) (t : Nat) : qV := qv (qv (qv (qv (qv V 11 t 0 0) 11 t 1 0) 11 t 2 0) 11 t 3 0) 11 t 4 0

theorem d_D_waits_0 : decode b_D_waits 0 = .ok (.aload_n 0, 1) := by decide +kernel
theorem d_D_waits_1 : decode b_D_waits 1 = .ok (.getfield 12, 3) := by decide +kernel
theorem d_D_waits_4 : decode b_D_waits 4 = .ok (.invokevirtual 25, 3) := by decide +kernel
theorem d_D_waits_7 : decode b_D_waits 7 = .ok (.aload_n 0, 1) := by decide +kernel
theorem d_D_waits_8 : decode b_D_waits 8 = .ok (.getfield 29, 3) := by decide +kernel
theorem d_D_waits_11 : decode b_D_waits 11 = .ok (.if_icmp .ge 7, 3) := by decide +kernel
theorem d_D_waits_14 : decode b_D_waits 14 = .ok (.iconst 1, 1) := by decide +kernel
theorem d_D_waits_15 : decode b_D_waits 15 = .ok (.goto 4, 3) := by decide +kernel
theorem d_D_waits_18 : decode b_D_waits 18 = .ok (.iconst 0, 1) := by decide +kernel
theorem d_D_waits_19 : decode b_D_waits 19 = .ok (.ireturn, 1) := by decide +kernel

theorem d_D_forgetAndWait_0 : decode b_D_forgetAndWait 0 = .ok (.iconst 0, 1) := by decide +kernel
theorem d_D_forgetAndWait_1 : decode b_D_forgetAndWait 1 = .ok (.istore_n 1, 1) := by decide +kernel
theorem d_D_forgetAndWait_2 : decode b_D_forgetAndWait 2 = .ok (.iload_n 1, 1) := by decide +kernel
theorem d_D_forgetAndWait_3 : decode b_D_forgetAndWait 3 = .ok (.iconst 4, 1) := by decide +kernel
theorem d_D_forgetAndWait_4 : decode b_D_forgetAndWait 4 = .ok (.if_icmp .ge 18, 3) := by decide +kernel
theorem d_D_forgetAndWait_7 : decode b_D_forgetAndWait 7 = .ok (.aload_n 0, 1) := by decide +kernel
theorem d_D_forgetAndWait_8 : decode b_D_forgetAndWait 8 = .ok (.getfield 20, 3) := by decide +kernel
theorem d_D_forgetAndWait_11 : decode b_D_forgetAndWait 11 = .ok (.iload_n 1, 1) := by decide +kernel
theorem d_D_forgetAndWait_12 : decode b_D_forgetAndWait 12 = .ok (.aaload, 1) := by decide +kernel
theorem d_D_forgetAndWait_13 : decode b_D_forgetAndWait 13 = .ok (.invokevirtual 33, 3) := by decide +kernel
theorem d_D_forgetAndWait_16 : decode b_D_forgetAndWait 16 = .ok (.iinc 1 1, 3) := by decide +kernel
theorem d_D_forgetAndWait_19 : decode b_D_forgetAndWait 19 = .ok (.goto (-17), 3) := by decide +kernel
theorem d_D_forgetAndWait_22 : decode b_D_forgetAndWait 22 = .ok (.aload_n 0, 1) := by decide +kernel
theorem d_D_forgetAndWait_23 : decode b_D_forgetAndWait 23 = .ok (.aload_n 0, 1) := by decide +kernel
theorem d_D_forgetAndWait_24 : decode b_D_forgetAndWait 24 = .ok (.getfield 12, 3) := by decide +kernel
theorem d_D_forgetAndWait_27 : decode b_D_forgetAndWait 27 = .ok (.invokevirtual 25, 3) := by decide +kernel
theorem d_D_forgetAndWait_30 : decode b_D_forgetAndWait 30 = .ok (.bipush 63, 2) := by decide +kernel
theorem d_D_forgetAndWait_32 : decode b_D_forgetAndWait 32 = .ok (.iadd, 1) := by decide +kernel
theorem d_D_forgetAndWait_33 : decode b_D_forgetAndWait 33 = .ok (.putfield 29, 3) := by decide +kernel
theorem d_D_forgetAndWait_36 : decode b_D_forgetAndWait 36 = .ok (.return_, 1) := by decide +kernel

theorem d_D_grant_0 : decode b_D_grant 0 = .ok (.aload_n 0, 1) := by decide +kernel
theorem d_D_grant_1 : decode b_D_grant 1 = .ok (.getfield 20, 3) := by decide +kernel
theorem d_D_grant_4 : decode b_D_grant 4 = .ok (.iload_n 1, 1) := by decide +kernel
theorem d_D_grant_5 : decode b_D_grant 5 = .ok (.aaload, 1) := by decide +kernel
theorem d_D_grant_6 : decode b_D_grant 6 = .ok (.astore_n 3, 1) := by decide +kernel
theorem d_D_grant_7 : decode b_D_grant 7 = .ok (.aload_n 0, 1) := by decide +kernel
theorem d_D_grant_8 : decode b_D_grant 8 = .ok (.invokevirtual 36, 3) := by decide +kernel
theorem d_D_grant_11 : decode b_D_grant 11 = .ok (.ifCond .ne 11, 3) := by decide +kernel
theorem d_D_grant_14 : decode b_D_grant 14 = .ok (.iload_n 2, 1) := by decide +kernel
theorem d_D_grant_15 : decode b_D_grant 15 = .ok (.aload_n 3, 1) := by decide +kernel
theorem d_D_grant_16 : decode b_D_grant 16 = .ok (.getfield 40, 3) := by decide +kernel
theorem d_D_grant_19 : decode b_D_grant 19 = .ok (.if_icmp .ge 5, 3) := by decide +kernel
theorem d_D_grant_22 : decode b_D_grant 22 = .ok (.iconst 0, 1) := by decide +kernel
theorem d_D_grant_23 : decode b_D_grant 23 = .ok (.ireturn, 1) := by decide +kernel
theorem d_D_grant_24 : decode b_D_grant 24 = .ok (.aload_n 0, 1) := by decide +kernel
theorem d_D_grant_25 : decode b_D_grant 25 = .ok (.aload_n 3, 1) := by decide +kernel
theorem d_D_grant_26 : decode b_D_grant 26 = .ok (.invokevirtual 43, 3) := by decide +kernel
theorem d_D_grant_29 : decode b_D_grant 29 = .ok (.istore 4, 2) := by decide +kernel
theorem d_D_grant_31 : decode b_D_grant 31 = .ok (.iload 4, 2) := by decide +kernel
theorem d_D_grant_33 : decode b_D_grant 33 = .ok (.ifCond .eq 17, 3) := by decide +kernel
theorem d_D_grant_36 : decode b_D_grant 36 = .ok (.aload_n 3, 1) := by decide +kernel
theorem d_D_grant_37 : decode b_D_grant 37 = .ok (.iload_n 2, 1) := by decide +kernel
theorem d_D_grant_38 : decode b_D_grant 38 = .ok (.iload 4, 2) := by decide +kernel
theorem d_D_grant_40 : decode b_D_grant 40 = .ok (.aload_n 0, 1) := by decide +kernel
theorem d_D_grant_41 : decode b_D_grant 41 = .ok (.getfield 12, 3) := by decide +kernel
theorem d_D_grant_44 : decode b_D_grant 44 = .ok (.invokevirtual 25, 3) := by decide +kernel
theorem d_D_grant_47 : decode b_D_grant 47 = .ok (.invokevirtual 47, 3) := by decide +kernel
theorem d_D_grant_50 : decode b_D_grant 50 = .ok (.iload 4, 2) := by decide +kernel
theorem d_D_grant_52 : decode b_D_grant 52 = .ok (.ireturn, 1) := by decide +kernel

theorem d_D_bookFor_0 : decode b_D_bookFor 0 = .ok (.aload_n 0, 1) := by decide +kernel
theorem d_D_bookFor_1 : decode b_D_bookFor 1 = .ok (.getfield 51, 3) := by decide +kernel
theorem d_D_bookFor_4 : decode b_D_bookFor 4 = .ok (.ifCond .ne 8, 3) := by decide +kernel
theorem d_D_bookFor_7 : decode b_D_bookFor 7 = .ok (.aload_n 0, 1) := by decide +kernel
theorem d_D_bookFor_8 : decode b_D_bookFor 8 = .ok (.getfield 54, 3) := by decide +kernel
theorem d_D_bookFor_11 : decode b_D_bookFor 11 = .ok (.ireturn, 1) := by decide +kernel
theorem d_D_bookFor_12 : decode b_D_bookFor 12 = .ok (.aload_n 1, 1) := by decide +kernel
theorem d_D_bookFor_13 : decode b_D_bookFor 13 = .ok (.getfield 57, 3) := by decide +kernel
theorem d_D_bookFor_16 : decode b_D_bookFor 16 = .ok (.aload_n 0, 1) := by decide +kernel
theorem d_D_bookFor_17 : decode b_D_bookFor 17 = .ok (.getfield 51, 3) := by decide +kernel
theorem d_D_bookFor_20 : decode b_D_bookFor 20 = .ok (.if_icmp .lt 10, 3) := by decide +kernel
theorem d_D_bookFor_23 : decode b_D_bookFor 23 = .ok (.aload_n 0, 1) := by decide +kernel
theorem d_D_bookFor_24 : decode b_D_bookFor 24 = .ok (.getfield 51, 3) := by decide +kernel
theorem d_D_bookFor_27 : decode b_D_bookFor 27 = .ok (.goto 4, 3) := by decide +kernel
theorem d_D_bookFor_30 : decode b_D_bookFor 30 = .ok (.iconst 0, 1) := by decide +kernel
theorem d_D_bookFor_31 : decode b_D_bookFor 31 = .ok (.ireturn, 1) := by decide +kernel

theorem d_D_lookAtChange_0 : decode b_D_lookAtChange 0 = .ok (.aload_n 0, 1) := by decide +kernel
theorem d_D_lookAtChange_1 : decode b_D_lookAtChange 1 = .ok (.getfield 51, 3) := by decide +kernel
theorem d_D_lookAtChange_4 : decode b_D_lookAtChange 4 = .ok (.ifCond .eq 10, 3) := by decide +kernel
theorem d_D_lookAtChange_7 : decode b_D_lookAtChange 7 = .ok (.aload_n 0, 1) := by decide +kernel
theorem d_D_lookAtChange_8 : decode b_D_lookAtChange 8 = .ok (.invokevirtual 36, 3) := by decide +kernel
theorem d_D_lookAtChange_11 : decode b_D_lookAtChange 11 = .ok (.ifCond .eq 4, 3) := by decide +kernel
theorem d_D_lookAtChange_14 : decode b_D_lookAtChange 14 = .ok (.return_, 1) := by decide +kernel
theorem d_D_lookAtChange_15 : decode b_D_lookAtChange 15 = .ok (.iconst 0, 1) := by decide +kernel
theorem d_D_lookAtChange_16 : decode b_D_lookAtChange 16 = .ok (.istore_n 1, 1) := by decide +kernel
theorem d_D_lookAtChange_17 : decode b_D_lookAtChange 17 = .ok (.iload_n 1, 1) := by decide +kernel
theorem d_D_lookAtChange_18 : decode b_D_lookAtChange 18 = .ok (.iconst 4, 1) := by decide +kernel
theorem d_D_lookAtChange_19 : decode b_D_lookAtChange 19 = .ok (.if_icmp .ge 33, 3) := by decide +kernel
theorem d_D_lookAtChange_22 : decode b_D_lookAtChange 22 = .ok (.aload_n 0, 1) := by decide +kernel
theorem d_D_lookAtChange_23 : decode b_D_lookAtChange 23 = .ok (.getfield 20, 3) := by decide +kernel
theorem d_D_lookAtChange_26 : decode b_D_lookAtChange 26 = .ok (.iload_n 1, 1) := by decide +kernel
theorem d_D_lookAtChange_27 : decode b_D_lookAtChange 27 = .ok (.aaload, 1) := by decide +kernel
theorem d_D_lookAtChange_28 : decode b_D_lookAtChange 28 = .ok (.aload_n 0, 1) := by decide +kernel
theorem d_D_lookAtChange_29 : decode b_D_lookAtChange 29 = .ok (.getfield 51, 3) := by decide +kernel
theorem d_D_lookAtChange_32 : decode b_D_lookAtChange 32 = .ok (.aload_n 0, 1) := by decide +kernel
theorem d_D_lookAtChange_33 : decode b_D_lookAtChange 33 = .ok (.getfield 12, 3) := by decide +kernel
theorem d_D_lookAtChange_36 : decode b_D_lookAtChange 36 = .ok (.invokevirtual 25, 3) := by decide +kernel
theorem d_D_lookAtChange_39 : decode b_D_lookAtChange 39 = .ok (.invokevirtual 60, 3) := by decide +kernel
theorem d_D_lookAtChange_42 : decode b_D_lookAtChange 42 = .ok (.ifCond .ne 4, 3) := by decide +kernel
theorem d_D_lookAtChange_45 : decode b_D_lookAtChange 45 = .ok (.return_, 1) := by decide +kernel
theorem d_D_lookAtChange_46 : decode b_D_lookAtChange 46 = .ok (.iinc 1 1, 3) := by decide +kernel
theorem d_D_lookAtChange_49 : decode b_D_lookAtChange 49 = .ok (.goto (-32), 3) := by decide +kernel
theorem d_D_lookAtChange_52 : decode b_D_lookAtChange 52 = .ok (.aload_n 0, 1) := by decide +kernel
theorem d_D_lookAtChange_53 : decode b_D_lookAtChange 53 = .ok (.aload_n 0, 1) := by decide +kernel
theorem d_D_lookAtChange_54 : decode b_D_lookAtChange 54 = .ok (.getfield 51, 3) := by decide +kernel
theorem d_D_lookAtChange_57 : decode b_D_lookAtChange 57 = .ok (.putfield 54, 3) := by decide +kernel
theorem d_D_lookAtChange_60 : decode b_D_lookAtChange 60 = .ok (.aload_n 0, 1) := by decide +kernel
theorem d_D_lookAtChange_61 : decode b_D_lookAtChange 61 = .ok (.iconst 0, 1) := by decide +kernel
theorem d_D_lookAtChange_62 : decode b_D_lookAtChange 62 = .ok (.putfield 51, 3) := by decide +kernel
theorem d_D_lookAtChange_65 : decode b_D_lookAtChange 65 = .ok (.return_, 1) := by decide +kernel

set_option maxHeartbeats 4000000 in
set_option maxRecDepth 100000 in
theorem c_D_waits (l : Launch) (Z : qZ) (hZ : qok (pX Z)) (V : qV) (Y : qY)  : CT l y_D_waits { frames := 2, cells := 0, slots := 0, locals := 60 } (pX Z) qN [.ref (al Z 9 0)] V Y (.inl (some (.int (f_waits V)))) V Y := by
  refine CT.of (cc := b_D_waits) (maxL := 1) (ret := (some .boolean)) hZ (by decide) w_388 (Nat.le_of_ble_eq_true rfl) ?_
  intro p e s m below meth c C hr hex hlt
  refine gq_aload_n C d_D_waits_0 rfl ?_
  refine gq_get C (g := 9) (j := 0) (ci := 2) (k := 0) (v := .ref (al Z 8 4)) (qm (by decide) (by decide)) rfl rfl in_D (by decide) w_132 rfl d_D_waits_1 ?_
  refine gq_callV C (st := []) (fun _ h => h) (c_C_shown l Z hZ _ _ 4 (by decide)) (qm (by decide) (by decide)) rfl rfl w_389 w_390 w_391 w_392 w_4 ⟨by decide, by decide, (by decide +kernel : (parseMethodDescriptor y_C_shown.desc).map (fun d => d.parameters.length) = some 0)⟩ ⟨by decide, by decide⟩ ⟨by decide, by decide⟩ rfl (Nat.le_of_ble_eq_true rfl) d_D_waits_4 ?_
  refine gq_aload_n C d_D_waits_7 rfl ?_
  refine gq_get C (g := 9) (j := 0) (ci := 2) (k := 4) (v := .int (V 9 0 4)) (qm (by decide) (by decide)) rfl rfl in_D (by decide) w_140 rfl d_D_waits_8 ?_
  refine gq_icmp_ge C (tgt := 18) d_D_waits_11 rfl (fun hb11 => ?_) (fun hb11 => ?_)
  · skip
    refine gq_iconst C (v := 0) d_D_waits_18 (by decide) ?_
    exact gq_zretE C hr (by decide) (by unfold f_waits; simp [*]) rfl rfl (by decide) (by decide) d_D_waits_19
  · skip
    refine gq_iconst C (v := 1) d_D_waits_14 (by decide) ?_
    refine gq_goto C (tgt := 19) d_D_waits_15 rfl ?_
    exact gq_zretE C hr (by decide) (by unfold f_waits; simp [*]) rfl rfl (by decide) (by decide) d_D_waits_19

set_option maxHeartbeats 4000000 in
set_option maxRecDepth 100000 in
theorem c_D_bookFor (l : Launch) (Z : qZ) (hZ : qok (pX Z)) (V : qV) (Y : qY) (t : Nat) (ht : t < 4) : CT l y_D_bookFor { frames := 1, cells := 0, slots := 0, locals := 40 } (pX Z) qN [.ref (al Z 9 0), .ref (al Z 11 t)] V Y (.inl (some (.int (f_bookFor V t)))) V Y := by
  refine CT.of (cc := b_D_bookFor) (maxL := 2) (ret := (some .int)) hZ (by decide) w_528 (Nat.le_of_ble_eq_true rfl) ?_
  intro p e s m below meth c C hr hex hlt
  refine gq_aload_n C d_D_bookFor_0 rfl ?_
  refine gq_get C (g := 9) (j := 0) (ci := 2) (k := 3) (v := .int (V 9 0 3)) (qm (by decide) (by decide)) rfl rfl in_D (by decide) w_138 rfl d_D_bookFor_1 ?_
  refine gq_if_ne C (tgt := 12) d_D_bookFor_4 rfl (fun hb4 => ?_) (fun hb4 => ?_)
  · skip
    refine gq_aload_n C d_D_bookFor_12 rfl ?_
    refine gq_get C (g := 11) (j := t) (ci := 4) (k := 0) (v := .int (V 11 t 0)) (qm (by decide) ht) rfl rfl in_N (by decide) w_115 rfl d_D_bookFor_13 ?_
    refine gq_aload_n C d_D_bookFor_16 rfl ?_
    refine gq_get C (g := 9) (j := 0) (ci := 2) (k := 3) (v := .int (V 9 0 3)) (qm (by decide) (by decide)) rfl rfl in_D (by decide) w_138 rfl d_D_bookFor_17 ?_
    refine gq_icmp_lt C (tgt := 30) d_D_bookFor_20 rfl (fun hb20 => ?_) (fun hb20 => ?_)
    · skip
      refine gq_iconst C (v := 0) d_D_bookFor_30 (by decide) ?_
      exact gq_iretE C hr (by unfold f_bookFor; simp [*]) rfl rfl (by decide) (by decide) d_D_bookFor_31
    · skip
      refine gq_aload_n C d_D_bookFor_23 rfl ?_
      refine gq_get C (g := 9) (j := 0) (ci := 2) (k := 3) (v := .int (V 9 0 3)) (qm (by decide) (by decide)) rfl rfl in_D (by decide) w_138 rfl d_D_bookFor_24 ?_
      refine gq_goto C (tgt := 31) d_D_bookFor_27 rfl ?_
      exact gq_iretE C hr (by unfold f_bookFor; simp [*]) rfl rfl (by decide) (by decide) d_D_bookFor_31
  · skip
    refine gq_aload_n C d_D_bookFor_7 rfl ?_
    refine gq_get C (g := 9) (j := 0) (ci := 2) (k := 2) (v := .int (V 9 0 2)) (qm (by decide) (by decide)) rfl rfl in_D (by decide) w_136 rfl d_D_bookFor_8 ?_
    exact gq_iretE C hr (by unfold f_bookFor; simp [*]) rfl rfl (by decide) (by decide) d_D_bookFor_11

set_option maxHeartbeats 4000000 in
set_option maxRecDepth 100000 in
theorem c_D_forgetAndWait (l : Launch) (Z : qZ) (hZ : qok (pX Z)) (V : qV) (Y : qY)  : CT l y_D_forgetAndWait { frames := 2, cells := 0, slots := 0, locals := 60 } (pX Z) (qA (pX Z)) [.ref (al Z 9 0)] V Y (.inl none) (qv (f_forget (f_forget (f_forget (f_forget V 0) 1) 2) 3) 9 0 4 (V 8 4 0 / 100 + 63)) Y := by
  refine CT.of (cc := b_D_forgetAndWait) (maxL := 2) (ret := none) hZ (by decide) w_650 (Nat.le_of_ble_eq_true rfl) ?_
  intro p e s m below meth c C hr hex hlt
  refine gq_iconst C (v := 0) d_D_forgetAndWait_0 (by decide) ?_
  refine gq_istore_n C (lo' := [(1, .int 0), (0, .ref (al Z 9 0))]) d_D_forgetAndWait_1 rfl (by decide) rfl ?_
  refine gq_iload_n C d_D_forgetAndWait_2 rfl ?_
  refine gq_iconst C (v := 4) d_D_forgetAndWait_3 (by decide) ?_
  refine gq_icmp_ge C (tgt := 22) d_D_forgetAndWait_4 rfl (fun hb => by first | contradiction | exact absurd hb (by decide)) (fun hb4 => ?_)
  refine gq_aload_n C d_D_forgetAndWait_7 rfl ?_
  refine gq_get C (g := 9) (j := 0) (ci := 2) (k := 1) (v := .ref (al Z 10 0)) (qm (by decide) (by decide)) rfl rfl in_D (by decide) w_134 rfl d_D_forgetAndWait_8 ?_
  refine gq_iload_n C d_D_forgetAndWait_11 rfl ?_
  refine gq_aald C (g := 10) (j := 0) (a := 0) (t0 := 5) (b := al Z 11 0) (qm (by decide) (by decide)) rfl rfl rfl (by decide) (by decide) rfl d_D_forgetAndWait_12 ?_
  refine gq_callV C (st := []) (fun _ h => h) (c_N_forget l Z hZ _ _ 0 (by decide)) (qm (by decide) (by decide)) rfl rfl w_651 w_652 w_653 w_654 w_6 ⟨by decide, by decide, (by decide +kernel : (parseMethodDescriptor y_N_forget.desc).map (fun d => d.parameters.length) = some 0)⟩ ⟨by decide, by decide⟩ ⟨by decide, by decide⟩ rfl (Nat.le_of_ble_eq_true rfl) d_D_forgetAndWait_13 ?_
  refine gq_iinc C (k := 0) (w := 1) (lo' := [(1, .int 1), (0, .ref (al Z 9 0))]) d_D_forgetAndWait_16 rfl (by decide) (by decide) rfl ?_
  refine gq_goto C (tgt := 2) d_D_forgetAndWait_19 rfl ?_
  refine gq_iload_n C d_D_forgetAndWait_2 rfl ?_
  refine gq_iconst C (v := 4) d_D_forgetAndWait_3 (by decide) ?_
  refine gq_icmp_ge C (tgt := 22) d_D_forgetAndWait_4 rfl (fun hb => by first | contradiction | exact absurd hb (by decide)) (fun hb4 => ?_)
  refine gq_aload_n C d_D_forgetAndWait_7 rfl ?_
  refine gq_get C (g := 9) (j := 0) (ci := 2) (k := 1) (v := .ref (al Z 10 0)) (qm (by decide) (by decide)) rfl rfl in_D (by decide) w_134 rfl d_D_forgetAndWait_8 ?_
  refine gq_iload_n C d_D_forgetAndWait_11 rfl ?_
  refine gq_aald C (g := 10) (j := 0) (a := 1) (t0 := 5) (b := al Z 11 1) (qm (by decide) (by decide)) rfl rfl rfl (by decide) (by decide) rfl d_D_forgetAndWait_12 ?_
  refine gq_callV C (st := []) (fun _ h => h) (c_N_forget l Z hZ _ _ 1 (by decide)) (qm (by decide) (by decide)) rfl rfl w_651 w_652 w_653 w_654 w_6 ⟨by decide, by decide, (by decide +kernel : (parseMethodDescriptor y_N_forget.desc).map (fun d => d.parameters.length) = some 0)⟩ ⟨by decide, by decide⟩ ⟨by decide, by decide⟩ rfl (Nat.le_of_ble_eq_true rfl) d_D_forgetAndWait_13 ?_
  refine gq_iinc C (k := 0) (w := 2) (lo' := [(1, .int 2), (0, .ref (al Z 9 0))]) d_D_forgetAndWait_16 rfl (by decide) (by decide) rfl ?_
  refine gq_goto C (tgt := 2) d_D_forgetAndWait_19 rfl ?_
  refine gq_iload_n C d_D_forgetAndWait_2 rfl ?_
  refine gq_iconst C (v := 4) d_D_forgetAndWait_3 (by decide) ?_
  refine gq_icmp_ge C (tgt := 22) d_D_forgetAndWait_4 rfl (fun hb => by first | contradiction | exact absurd hb (by decide)) (fun hb4 => ?_)
  refine gq_aload_n C d_D_forgetAndWait_7 rfl ?_
  refine gq_get C (g := 9) (j := 0) (ci := 2) (k := 1) (v := .ref (al Z 10 0)) (qm (by decide) (by decide)) rfl rfl in_D (by decide) w_134 rfl d_D_forgetAndWait_8 ?_
  refine gq_iload_n C d_D_forgetAndWait_11 rfl ?_
  refine gq_aald C (g := 10) (j := 0) (a := 2) (t0 := 5) (b := al Z 11 2) (qm (by decide) (by decide)) rfl rfl rfl (by decide) (by decide) rfl d_D_forgetAndWait_12 ?_
  refine gq_callV C (st := []) (fun _ h => h) (c_N_forget l Z hZ _ _ 2 (by decide)) (qm (by decide) (by decide)) rfl rfl w_651 w_652 w_653 w_654 w_6 ⟨by decide, by decide, (by decide +kernel : (parseMethodDescriptor y_N_forget.desc).map (fun d => d.parameters.length) = some 0)⟩ ⟨by decide, by decide⟩ ⟨by decide, by decide⟩ rfl (Nat.le_of_ble_eq_true rfl) d_D_forgetAndWait_13 ?_
  refine gq_iinc C (k := 0) (w := 3) (lo' := [(1, .int 3), (0, .ref (al Z 9 0))]) d_D_forgetAndWait_16 rfl (by decide) (by decide) rfl ?_
  refine gq_goto C (tgt := 2) d_D_forgetAndWait_19 rfl ?_
  refine gq_iload_n C d_D_forgetAndWait_2 rfl ?_
  refine gq_iconst C (v := 4) d_D_forgetAndWait_3 (by decide) ?_
  refine gq_icmp_ge C (tgt := 22) d_D_forgetAndWait_4 rfl (fun hb => by first | contradiction | exact absurd hb (by decide)) (fun hb4 => ?_)
  refine gq_aload_n C d_D_forgetAndWait_7 rfl ?_
  refine gq_get C (g := 9) (j := 0) (ci := 2) (k := 1) (v := .ref (al Z 10 0)) (qm (by decide) (by decide)) rfl rfl in_D (by decide) w_134 rfl d_D_forgetAndWait_8 ?_
  refine gq_iload_n C d_D_forgetAndWait_11 rfl ?_
  refine gq_aald C (g := 10) (j := 0) (a := 3) (t0 := 5) (b := al Z 11 3) (qm (by decide) (by decide)) rfl rfl rfl (by decide) (by decide) rfl d_D_forgetAndWait_12 ?_
  refine gq_callV C (st := []) (fun _ h => h) (c_N_forget l Z hZ _ _ 3 (by decide)) (qm (by decide) (by decide)) rfl rfl w_651 w_652 w_653 w_654 w_6 ⟨by decide, by decide, (by decide +kernel : (parseMethodDescriptor y_N_forget.desc).map (fun d => d.parameters.length) = some 0)⟩ ⟨by decide, by decide⟩ ⟨by decide, by decide⟩ rfl (Nat.le_of_ble_eq_true rfl) d_D_forgetAndWait_13 ?_
  refine gq_iinc C (k := 0) (w := 4) (lo' := [(1, .int 4), (0, .ref (al Z 9 0))]) d_D_forgetAndWait_16 rfl (by decide) (by decide) rfl ?_
  refine gq_goto C (tgt := 2) d_D_forgetAndWait_19 rfl ?_
  refine gq_iload_n C d_D_forgetAndWait_2 rfl ?_
  refine gq_iconst C (v := 4) d_D_forgetAndWait_3 (by decide) ?_
  refine gq_icmp_ge C (tgt := 22) d_D_forgetAndWait_4 rfl (fun hb4 => ?_) (fun hb => by first | contradiction | exact absurd hb (by decide))
  refine gq_aload_n C d_D_forgetAndWait_22 rfl ?_
  refine gq_aload_n C d_D_forgetAndWait_23 rfl ?_
  refine gq_get C (g := 9) (j := 0) (ci := 2) (k := 0) (v := .ref (al Z 8 4)) (qm (by decide) (by decide)) rfl rfl in_D (by decide) w_132 rfl d_D_forgetAndWait_24 ?_
  refine gq_callV C (st := [.ref (al Z 9 0)]) (fun _ h => h.elim) (c_C_shown l Z hZ _ _ 4 (by decide)) (qm (by decide) (by decide)) rfl rfl w_389 w_390 w_391 w_392 w_4 ⟨by decide, by decide, (by decide +kernel : (parseMethodDescriptor y_C_shown.desc).map (fun d => d.parameters.length) = some 0)⟩ ⟨by decide, by decide⟩ ⟨by decide, by decide⟩ rfl (Nat.le_of_ble_eq_true rfl) d_D_forgetAndWait_27 ?_
  refine G.eqS (st' := [.int ((V 8 4 0) / 100), .ref (al Z 9 0)]) rfl ?_
  refine gq_bipush C (v := 63) d_D_forgetAndWait_30 (by decide) ?_
  refine gq_iadd C d_D_forgetAndWait_32 ?_
  refine gq_put C (fun _ h => h) (g := 9) (j := 0) (ci := 2) (k := 4) ft_D k_D n_D (qm (by decide) (by decide)) rfl rfl in_D (by decide) w_140 rfl (k_D 4 (by decide)) rfl rfl (Nat.le_of_ble_eq_true rfl) rfl d_D_forgetAndWait_33 ?_
  exact gq_vretE C hr (by rfl) rfl (by decide) (by decide) d_D_forgetAndWait_36

set_option maxHeartbeats 4000000 in
set_option maxRecDepth 100000 in
theorem c_D_lookAtChange (l : Launch) (Z : qZ) (hZ : qok (pX Z)) (V : qV) (Y : qY)  : CT l y_D_lookAtChange { frames := 3, cells := 0, slots := 0, locals := 80 } (pX Z) (qA (pX Z)) [.ref (al Z 9 0)] V Y (.inl none) (f_look V) Y := by
  refine CT.of (cc := b_D_lookAtChange) (maxL := 2) (ret := none) hZ (by decide) w_384 (Nat.le_of_ble_eq_true rfl) ?_
  intro p e s m below meth c C hr hex hlt
  refine gq_aload_n C d_D_lookAtChange_0 rfl ?_
  refine gq_get C (g := 9) (j := 0) (ci := 2) (k := 3) (v := .int (V 9 0 3)) (qm (by decide) (by decide)) rfl rfl in_D (by decide) w_138 rfl d_D_lookAtChange_1 ?_
  refine gq_if_eq C (tgt := 14) d_D_lookAtChange_4 rfl (fun hb4 => ?_) (fun hb4 => ?_)
  · skip
    exact gq_vretE C hr (by unfold f_look; simp [*]) rfl (by decide) (by decide) d_D_lookAtChange_14
  · skip
    refine gq_aload_n C d_D_lookAtChange_7 rfl ?_
    refine gq_callV C (st := []) (fun _ h => h.elim) (c_D_waits l Z hZ _ _) (qm (by decide) (by decide)) rfl rfl w_385 w_386 w_387 w_388 w_5 ⟨by decide, by decide, (by decide +kernel : (parseMethodDescriptor y_D_waits.desc).map (fun d => d.parameters.length) = some 0)⟩ ⟨by decide, by decide⟩ ⟨by decide, by decide⟩ rfl (Nat.le_of_ble_eq_true rfl) d_D_lookAtChange_8 ?_
    refine gq_if_eq C (tgt := 15) d_D_lookAtChange_11 rfl (fun hb11 => ?_) (fun hb11 => ?_)
    · skip
      refine gq_iconst C (v := 0) d_D_lookAtChange_15 (by decide) ?_
      refine gq_istore_n C (lo' := [(1, .int 0), (0, .ref (al Z 9 0))]) d_D_lookAtChange_16 rfl (by decide) rfl ?_
      refine gq_iload_n C d_D_lookAtChange_17 rfl ?_
      refine gq_iconst C (v := 4) d_D_lookAtChange_18 (by decide) ?_
      refine gq_icmp_ge C (tgt := 52) d_D_lookAtChange_19 rfl (fun hb => by first | contradiction | exact absurd hb (by decide)) (fun hb19 => ?_)
      refine gq_aload_n C d_D_lookAtChange_22 rfl ?_
      refine gq_get C (g := 9) (j := 0) (ci := 2) (k := 1) (v := .ref (al Z 10 0)) (qm (by decide) (by decide)) rfl rfl in_D (by decide) w_134 rfl d_D_lookAtChange_23 ?_
      refine gq_iload_n C d_D_lookAtChange_26 rfl ?_
      refine gq_aald C (g := 10) (j := 0) (a := 0) (t0 := 5) (b := al Z 11 0) (qm (by decide) (by decide)) rfl rfl rfl (by decide) (by decide) rfl d_D_lookAtChange_27 ?_
      refine gq_aload_n C d_D_lookAtChange_28 rfl ?_
      refine gq_get C (g := 9) (j := 0) (ci := 2) (k := 3) (v := .int (V 9 0 3)) (qm (by decide) (by decide)) rfl rfl in_D (by decide) w_138 rfl d_D_lookAtChange_29 ?_
      refine gq_aload_n C d_D_lookAtChange_32 rfl ?_
      refine gq_get C (g := 9) (j := 0) (ci := 2) (k := 0) (v := .ref (al Z 8 4)) (qm (by decide) (by decide)) rfl rfl in_D (by decide) w_132 rfl d_D_lookAtChange_33 ?_
      refine gq_callV C (st := [.int (V 9 0 3), .ref (al Z 11 0)]) (fun _ h => h.elim) (c_C_shown l Z hZ _ _ 4 (by decide)) (qm (by decide) (by decide)) rfl rfl w_389 w_390 w_391 w_392 w_4 ⟨by decide, by decide, (by decide +kernel : (parseMethodDescriptor y_C_shown.desc).map (fun d => d.parameters.length) = some 0)⟩ ⟨by decide, by decide⟩ ⟨by decide, by decide⟩ rfl (Nat.le_of_ble_eq_true rfl) d_D_lookAtChange_36 ?_
      refine gq_callV C (st := []) (fun _ h => h.elim) (c_N_allows l Z hZ _ _ 0 (by decide) _ _) (qm (by decide) (by decide)) rfl rfl w_393 w_394 w_395 w_396 w_6 ⟨by decide, by decide, (by decide +kernel : (parseMethodDescriptor y_N_allows.desc).map (fun d => d.parameters.length) = some 2)⟩ ⟨by decide, by decide⟩ ⟨by decide, by decide⟩ rfl (Nat.le_of_ble_eq_true rfl) d_D_lookAtChange_39 ?_
      refine gq_if_ne C (tgt := 46) d_D_lookAtChange_42 rfl (fun hb42 => ?_) (fun hb42 => ?_)
      · skip
        refine gq_iinc C (k := 0) (w := 1) (lo' := [(1, .int 1), (0, .ref (al Z 9 0))]) d_D_lookAtChange_46 rfl (by decide) (by decide) rfl ?_
        refine gq_goto C (tgt := 17) d_D_lookAtChange_49 rfl ?_
        refine gq_iload_n C d_D_lookAtChange_17 rfl ?_
        refine gq_iconst C (v := 4) d_D_lookAtChange_18 (by decide) ?_
        refine gq_icmp_ge C (tgt := 52) d_D_lookAtChange_19 rfl (fun hb => by first | contradiction | exact absurd hb (by decide)) (fun hb19 => ?_)
        refine gq_aload_n C d_D_lookAtChange_22 rfl ?_
        refine gq_get C (g := 9) (j := 0) (ci := 2) (k := 1) (v := .ref (al Z 10 0)) (qm (by decide) (by decide)) rfl rfl in_D (by decide) w_134 rfl d_D_lookAtChange_23 ?_
        refine gq_iload_n C d_D_lookAtChange_26 rfl ?_
        refine gq_aald C (g := 10) (j := 0) (a := 1) (t0 := 5) (b := al Z 11 1) (qm (by decide) (by decide)) rfl rfl rfl (by decide) (by decide) rfl d_D_lookAtChange_27 ?_
        refine gq_aload_n C d_D_lookAtChange_28 rfl ?_
        refine gq_get C (g := 9) (j := 0) (ci := 2) (k := 3) (v := .int (V 9 0 3)) (qm (by decide) (by decide)) rfl rfl in_D (by decide) w_138 rfl d_D_lookAtChange_29 ?_
        refine gq_aload_n C d_D_lookAtChange_32 rfl ?_
        refine gq_get C (g := 9) (j := 0) (ci := 2) (k := 0) (v := .ref (al Z 8 4)) (qm (by decide) (by decide)) rfl rfl in_D (by decide) w_132 rfl d_D_lookAtChange_33 ?_
        refine gq_callV C (st := [.int (V 9 0 3), .ref (al Z 11 1)]) (fun _ h => h.elim) (c_C_shown l Z hZ _ _ 4 (by decide)) (qm (by decide) (by decide)) rfl rfl w_389 w_390 w_391 w_392 w_4 ⟨by decide, by decide, (by decide +kernel : (parseMethodDescriptor y_C_shown.desc).map (fun d => d.parameters.length) = some 0)⟩ ⟨by decide, by decide⟩ ⟨by decide, by decide⟩ rfl (Nat.le_of_ble_eq_true rfl) d_D_lookAtChange_36 ?_
        refine gq_callV C (st := []) (fun _ h => h.elim) (c_N_allows l Z hZ _ _ 1 (by decide) _ _) (qm (by decide) (by decide)) rfl rfl w_393 w_394 w_395 w_396 w_6 ⟨by decide, by decide, (by decide +kernel : (parseMethodDescriptor y_N_allows.desc).map (fun d => d.parameters.length) = some 2)⟩ ⟨by decide, by decide⟩ ⟨by decide, by decide⟩ rfl (Nat.le_of_ble_eq_true rfl) d_D_lookAtChange_39 ?_
        refine gq_if_ne C (tgt := 46) d_D_lookAtChange_42 rfl (fun hb42 => ?_) (fun hb42 => ?_)
        · skip
          refine gq_iinc C (k := 0) (w := 2) (lo' := [(1, .int 2), (0, .ref (al Z 9 0))]) d_D_lookAtChange_46 rfl (by decide) (by decide) rfl ?_
          refine gq_goto C (tgt := 17) d_D_lookAtChange_49 rfl ?_
          refine gq_iload_n C d_D_lookAtChange_17 rfl ?_
          refine gq_iconst C (v := 4) d_D_lookAtChange_18 (by decide) ?_
          refine gq_icmp_ge C (tgt := 52) d_D_lookAtChange_19 rfl (fun hb => by first | contradiction | exact absurd hb (by decide)) (fun hb19 => ?_)
          refine gq_aload_n C d_D_lookAtChange_22 rfl ?_
          refine gq_get C (g := 9) (j := 0) (ci := 2) (k := 1) (v := .ref (al Z 10 0)) (qm (by decide) (by decide)) rfl rfl in_D (by decide) w_134 rfl d_D_lookAtChange_23 ?_
          refine gq_iload_n C d_D_lookAtChange_26 rfl ?_
          refine gq_aald C (g := 10) (j := 0) (a := 2) (t0 := 5) (b := al Z 11 2) (qm (by decide) (by decide)) rfl rfl rfl (by decide) (by decide) rfl d_D_lookAtChange_27 ?_
          refine gq_aload_n C d_D_lookAtChange_28 rfl ?_
          refine gq_get C (g := 9) (j := 0) (ci := 2) (k := 3) (v := .int (V 9 0 3)) (qm (by decide) (by decide)) rfl rfl in_D (by decide) w_138 rfl d_D_lookAtChange_29 ?_
          refine gq_aload_n C d_D_lookAtChange_32 rfl ?_
          refine gq_get C (g := 9) (j := 0) (ci := 2) (k := 0) (v := .ref (al Z 8 4)) (qm (by decide) (by decide)) rfl rfl in_D (by decide) w_132 rfl d_D_lookAtChange_33 ?_
          refine gq_callV C (st := [.int (V 9 0 3), .ref (al Z 11 2)]) (fun _ h => h.elim) (c_C_shown l Z hZ _ _ 4 (by decide)) (qm (by decide) (by decide)) rfl rfl w_389 w_390 w_391 w_392 w_4 ⟨by decide, by decide, (by decide +kernel : (parseMethodDescriptor y_C_shown.desc).map (fun d => d.parameters.length) = some 0)⟩ ⟨by decide, by decide⟩ ⟨by decide, by decide⟩ rfl (Nat.le_of_ble_eq_true rfl) d_D_lookAtChange_36 ?_
          refine gq_callV C (st := []) (fun _ h => h.elim) (c_N_allows l Z hZ _ _ 2 (by decide) _ _) (qm (by decide) (by decide)) rfl rfl w_393 w_394 w_395 w_396 w_6 ⟨by decide, by decide, (by decide +kernel : (parseMethodDescriptor y_N_allows.desc).map (fun d => d.parameters.length) = some 2)⟩ ⟨by decide, by decide⟩ ⟨by decide, by decide⟩ rfl (Nat.le_of_ble_eq_true rfl) d_D_lookAtChange_39 ?_
          refine gq_if_ne C (tgt := 46) d_D_lookAtChange_42 rfl (fun hb42 => ?_) (fun hb42 => ?_)
          · skip
            refine gq_iinc C (k := 0) (w := 3) (lo' := [(1, .int 3), (0, .ref (al Z 9 0))]) d_D_lookAtChange_46 rfl (by decide) (by decide) rfl ?_
            refine gq_goto C (tgt := 17) d_D_lookAtChange_49 rfl ?_
            refine gq_iload_n C d_D_lookAtChange_17 rfl ?_
            refine gq_iconst C (v := 4) d_D_lookAtChange_18 (by decide) ?_
            refine gq_icmp_ge C (tgt := 52) d_D_lookAtChange_19 rfl (fun hb => by first | contradiction | exact absurd hb (by decide)) (fun hb19 => ?_)
            refine gq_aload_n C d_D_lookAtChange_22 rfl ?_
            refine gq_get C (g := 9) (j := 0) (ci := 2) (k := 1) (v := .ref (al Z 10 0)) (qm (by decide) (by decide)) rfl rfl in_D (by decide) w_134 rfl d_D_lookAtChange_23 ?_
            refine gq_iload_n C d_D_lookAtChange_26 rfl ?_
            refine gq_aald C (g := 10) (j := 0) (a := 3) (t0 := 5) (b := al Z 11 3) (qm (by decide) (by decide)) rfl rfl rfl (by decide) (by decide) rfl d_D_lookAtChange_27 ?_
            refine gq_aload_n C d_D_lookAtChange_28 rfl ?_
            refine gq_get C (g := 9) (j := 0) (ci := 2) (k := 3) (v := .int (V 9 0 3)) (qm (by decide) (by decide)) rfl rfl in_D (by decide) w_138 rfl d_D_lookAtChange_29 ?_
            refine gq_aload_n C d_D_lookAtChange_32 rfl ?_
            refine gq_get C (g := 9) (j := 0) (ci := 2) (k := 0) (v := .ref (al Z 8 4)) (qm (by decide) (by decide)) rfl rfl in_D (by decide) w_132 rfl d_D_lookAtChange_33 ?_
            refine gq_callV C (st := [.int (V 9 0 3), .ref (al Z 11 3)]) (fun _ h => h.elim) (c_C_shown l Z hZ _ _ 4 (by decide)) (qm (by decide) (by decide)) rfl rfl w_389 w_390 w_391 w_392 w_4 ⟨by decide, by decide, (by decide +kernel : (parseMethodDescriptor y_C_shown.desc).map (fun d => d.parameters.length) = some 0)⟩ ⟨by decide, by decide⟩ ⟨by decide, by decide⟩ rfl (Nat.le_of_ble_eq_true rfl) d_D_lookAtChange_36 ?_
            refine gq_callV C (st := []) (fun _ h => h.elim) (c_N_allows l Z hZ _ _ 3 (by decide) _ _) (qm (by decide) (by decide)) rfl rfl w_393 w_394 w_395 w_396 w_6 ⟨by decide, by decide, (by decide +kernel : (parseMethodDescriptor y_N_allows.desc).map (fun d => d.parameters.length) = some 2)⟩ ⟨by decide, by decide⟩ ⟨by decide, by decide⟩ rfl (Nat.le_of_ble_eq_true rfl) d_D_lookAtChange_39 ?_
            refine gq_if_ne C (tgt := 46) d_D_lookAtChange_42 rfl (fun hb42 => ?_) (fun hb42 => ?_)
            · skip
              refine gq_iinc C (k := 0) (w := 4) (lo' := [(1, .int 4), (0, .ref (al Z 9 0))]) d_D_lookAtChange_46 rfl (by decide) (by decide) rfl ?_
              refine gq_goto C (tgt := 17) d_D_lookAtChange_49 rfl ?_
              refine gq_iload_n C d_D_lookAtChange_17 rfl ?_
              refine gq_iconst C (v := 4) d_D_lookAtChange_18 (by decide) ?_
              refine gq_icmp_ge C (tgt := 52) d_D_lookAtChange_19 rfl (fun hb19 => ?_) (fun hb => by first | contradiction | exact absurd hb (by decide))
              refine gq_aload_n C d_D_lookAtChange_52 rfl ?_
              refine gq_aload_n C d_D_lookAtChange_53 rfl ?_
              refine gq_get C (g := 9) (j := 0) (ci := 2) (k := 3) (v := .int (V 9 0 3)) (qm (by decide) (by decide)) rfl rfl in_D (by decide) w_138 rfl d_D_lookAtChange_54 ?_
              refine gq_put C (fun _ h => h) (g := 9) (j := 0) (ci := 2) (k := 2) ft_D k_D n_D (qm (by decide) (by decide)) rfl rfl in_D (by decide) w_136 rfl (k_D 2 (by decide)) rfl rfl (Nat.le_of_ble_eq_true rfl) rfl d_D_lookAtChange_57 ?_
              refine gq_aload_n C d_D_lookAtChange_60 rfl ?_
              refine gq_iconst C (v := 0) d_D_lookAtChange_61 (by decide) ?_
              refine gq_put C (fun _ h => h) (g := 9) (j := 0) (ci := 2) (k := 3) ft_D k_D n_D (qm (by decide) (by decide)) rfl rfl in_D (by decide) w_138 rfl (k_D 3 (by decide)) rfl rfl (Nat.le_of_ble_eq_true rfl) rfl d_D_lookAtChange_62 ?_
              exact gq_vretE C hr (by unfold f_look; simp [*]) rfl (by decide) (by decide) d_D_lookAtChange_65
            · skip
              exact gq_vretE C hr (by unfold f_look; simp [*]) rfl (by decide) (by decide) d_D_lookAtChange_45
          · skip
            exact gq_vretE C hr (by unfold f_look; simp [*]) rfl (by decide) (by decide) d_D_lookAtChange_45
        · skip
          exact gq_vretE C hr (by unfold f_look; simp [*]) rfl (by decide) (by decide) d_D_lookAtChange_45
      · skip
        exact gq_vretE C hr (by unfold f_look; simp [*]) rfl (by decide) (by decide) d_D_lookAtChange_45
    · skip
      exact gq_vretE C hr (by unfold f_look; simp [*]) rfl (by decide) (by decide) d_D_lookAtChange_14

set_option maxHeartbeats 4000000 in
set_option maxRecDepth 100000 in
theorem c_D_grant (l : Launch) (Z : qZ) (hZ : qok (pX Z)) (V : qV) (Y : qY) (t : Nat) (ht : t < 4) (a : Int32) : CT l y_D_grant { frames := 3, cells := 0, slots := 0, locals := 80 } (pX Z) (qA (pX Z)) [.ref (al Z 9 0), .int (nI t), .int a] V Y (.inl (some (.int (f_grantB V t a)))) (f_grant V t a) Y := by
  refine CT.of (cc := b_D_grant) (maxL := 5) (ret := (some .int)) hZ (by decide) w_524 (Nat.le_of_ble_eq_true rfl) ?_
  intro p e s m below meth c C hr hex hlt
  refine gq_aload_n C d_D_grant_0 rfl ?_
  refine gq_get C (g := 9) (j := 0) (ci := 2) (k := 1) (v := .ref (al Z 10 0)) (qm (by decide) (by decide)) rfl rfl in_D (by decide) w_134 rfl d_D_grant_1 ?_
  refine gq_iload_n C d_D_grant_4 rfl ?_
  refine gq_aald C (g := 10) (j := 0) (a := t) (t0 := 5) (b := al Z 11 t) (qm (by decide) (by decide)) rfl rfl rfl ht (by decide) rfl d_D_grant_5 ?_
  refine gq_astore_n C (lo' := [(3, .ref (al Z 11 t)), (0, .ref (al Z 9 0)), (1, .int (nI t)), (2, .int a)]) d_D_grant_6 rfl (by decide) rfl ?_
  refine gq_aload_n C d_D_grant_7 rfl ?_
  refine gq_callV C (st := []) (fun _ h => h.elim) (c_D_waits l Z hZ _ _) (qm (by decide) (by decide)) rfl rfl w_385 w_386 w_387 w_388 w_5 ⟨by decide, by decide, (by decide +kernel : (parseMethodDescriptor y_D_waits.desc).map (fun d => d.parameters.length) = some 0)⟩ ⟨by decide, by decide⟩ ⟨by decide, by decide⟩ rfl (Nat.le_of_ble_eq_true rfl) d_D_grant_8 ?_
  refine gq_if_ne C (tgt := 22) d_D_grant_11 rfl (fun hb11 => ?_) (fun hb11 => ?_)
  · skip
    refine gq_iconst C (v := 0) d_D_grant_22 (by decide) ?_
    exact gq_iretE C hr (by unfold f_grantB; simp [*]) (by unfold f_grant f_grantB; simp [*]) rfl (by decide) (by decide) d_D_grant_23
  · skip
    refine gq_iload_n C d_D_grant_14 rfl ?_
    refine gq_aload_n C d_D_grant_15 rfl ?_
    refine gq_get C (g := 11) (j := t) (ci := 4) (k := 1) (v := .int (V 11 t 1)) (qm (by decide) ht) rfl rfl in_N (by decide) w_117 rfl d_D_grant_16 ?_
    refine gq_icmp_ge C (tgt := 24) d_D_grant_19 rfl (fun hb19 => ?_) (fun hb19 => ?_)
    · skip
      refine gq_aload_n C d_D_grant_24 rfl ?_
      refine gq_aload_n C d_D_grant_25 rfl ?_
      refine gq_callV C (st := []) (fun _ h => h.elim) (c_D_bookFor l Z hZ _ _ t ht) (qm (by decide) (by decide)) rfl rfl w_525 w_527 ws_D_bookFor w_528 w_5 ⟨by decide, by decide, (by decide +kernel : (parseMethodDescriptor y_D_bookFor.desc).map (fun d => d.parameters.length) = some 1)⟩ ⟨by decide, by decide⟩ ⟨by decide, by decide⟩ rfl (Nat.le_of_ble_eq_true rfl) d_D_grant_26 ?_
      refine gq_istore C (lo' := [(4, .int (f_bookFor V t)), (3, .ref (al Z 11 t)), (0, .ref (al Z 9 0)), (1, .int (nI t)), (2, .int a)]) d_D_grant_29 (by decide) rfl ?_
      refine gq_iload C d_D_grant_31 rfl ?_
      refine gq_if_eq C (tgt := 50) d_D_grant_33 rfl (fun hb33 => ?_) (fun hb33 => ?_)
      · skip
        refine gq_iload C d_D_grant_50 rfl ?_
        exact gq_iretE C hr (by unfold f_grantB; simp [*]) (by unfold f_grant f_grantB; simp [*]) rfl (by decide) (by decide) d_D_grant_52
      · skip
        refine gq_aload_n C d_D_grant_36 rfl ?_
        refine gq_iload_n C d_D_grant_37 rfl ?_
        refine gq_iload C d_D_grant_38 rfl ?_
        refine gq_aload_n C d_D_grant_40 rfl ?_
        refine gq_get C (g := 9) (j := 0) (ci := 2) (k := 0) (v := .ref (al Z 8 4)) (qm (by decide) (by decide)) rfl rfl in_D (by decide) w_132 rfl d_D_grant_41 ?_
        refine gq_callV C (st := [.int (f_bookFor V t), .int a, .ref (al Z 11 t)]) (fun _ h => h.elim) (c_C_shown l Z hZ _ _ 4 (by decide)) (qm (by decide) (by decide)) rfl rfl w_389 w_390 w_391 w_392 w_4 ⟨by decide, by decide, (by decide +kernel : (parseMethodDescriptor y_C_shown.desc).map (fun d => d.parameters.length) = some 0)⟩ ⟨by decide, by decide⟩ ⟨by decide, by decide⟩ rfl (Nat.le_of_ble_eq_true rfl) d_D_grant_44 ?_
        refine gq_callV C (st := []) (fun _ h => h) (c_N_noteGrant l Z hZ _ _ t ht _ _ _) (qm (by decide) ht) rfl rfl w_529 w_530 w_531 w_532 w_6 ⟨by decide, by decide, (by decide +kernel : (parseMethodDescriptor y_N_noteGrant.desc).map (fun d => d.parameters.length) = some 3)⟩ ⟨by decide, by decide⟩ ⟨by decide, by decide⟩ rfl (Nat.le_of_ble_eq_true rfl) d_D_grant_47 ?_
        refine gq_iload C d_D_grant_50 rfl ?_
        exact gq_iretE C hr (by unfold f_grantB; simp [*]) (by unfold f_grant f_grantB; simp [*]) rfl (by decide) (by decide) d_D_grant_52
    · skip
      refine gq_iconst C (v := 0) d_D_grant_22 (by decide) ?_
      exact gq_iretE C hr (by unfold f_grantB; simp [*]) (by unfold f_grant f_grantB; simp [*]) rfl (by decide) (by decide) d_D_grant_23
