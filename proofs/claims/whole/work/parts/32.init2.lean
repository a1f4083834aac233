theorem k_arr1 (z b r : Nat) : va_up (fun j => if j < r then some (z + (b + j)) else none) r (some (z + (b + r))) = fun j => if j < r + 1 then some (z + (b + j)) else none := by
  funext j
  unfold va_up
  by_cases h : j = r
  · subst h; rw [if_pos rfl, if_pos (by omega)]
  · rw [if_neg h]
    dsimp only
    by_cases h2 : j < r
    · rw [if_pos h2, if_pos (by omega)]
    · rw [if_neg h2, if_neg (by omega)]
theorem k_arrN (z b k r : Nat) : va_up (fun j => if j < r then some (z + (b + k * j)) else none) r (some (z + (b + k * r))) = fun j => if j < r + 1 then some (z + (b + k * j)) else none := by
  funext j
  unfold va_up
  by_cases h : j = r
  · subst h; rw [if_pos rfl, if_pos (by omega)]
  · rw [if_neg h]
    dsimp only
    by_cases h2 : j < r
    · rw [if_pos h2, if_pos (by omega)]
    · rw [if_neg h2, if_neg (by omega)]

theorem d_D_init_0 : decode b_D_init 0 = .ok (.aload_n 0, 1) := by decide +kernel
theorem d_D_init_1 : decode b_D_init 1 = .ok (.invokespecial 3, 3) := by decide +kernel
theorem d_D_init_4 : decode b_D_init 4 = .ok (.aload_n 0, 1) := by decide +kernel
theorem d_D_init_5 : decode b_D_init 5 = .ok (.new 9, 3) := by decide +kernel
theorem d_D_init_8 : decode b_D_init 8 = .ok (.dup, 1) := by decide +kernel
theorem d_D_init_9 : decode b_D_init 9 = .ok (.invokespecial 11, 3) := by decide +kernel
theorem d_D_init_12 : decode b_D_init 12 = .ok (.putfield 12, 3) := by decide +kernel
theorem d_D_init_15 : decode b_D_init 15 = .ok (.aload_n 0, 1) := by decide +kernel
theorem d_D_init_16 : decode b_D_init 16 = .ok (.iconst 4, 1) := by decide +kernel
theorem d_D_init_17 : decode b_D_init 17 = .ok (.anewarray 18, 3) := by decide +kernel
theorem d_D_init_20 : decode b_D_init 20 = .ok (.putfield 20, 3) := by decide +kernel
theorem d_D_init_23 : decode b_D_init 23 = .ok (.iconst 0, 1) := by decide +kernel
theorem d_D_init_24 : decode b_D_init 24 = .ok (.istore_n 1, 1) := by decide +kernel
theorem d_D_init_25 : decode b_D_init 25 = .ok (.iload_n 1, 1) := by decide +kernel
theorem d_D_init_26 : decode b_D_init 26 = .ok (.iconst 4, 1) := by decide +kernel
theorem d_D_init_27 : decode b_D_init 27 = .ok (.if_icmp .ge 22, 3) := by decide +kernel
theorem d_D_init_30 : decode b_D_init 30 = .ok (.aload_n 0, 1) := by decide +kernel
theorem d_D_init_31 : decode b_D_init 31 = .ok (.getfield 20, 3) := by decide +kernel
theorem d_D_init_34 : decode b_D_init 34 = .ok (.iload_n 1, 1) := by decide +kernel
theorem d_D_init_35 : decode b_D_init 35 = .ok (.new 18, 3) := by decide +kernel
theorem d_D_init_38 : decode b_D_init 38 = .ok (.dup, 1) := by decide +kernel
theorem d_D_init_39 : decode b_D_init 39 = .ok (.invokespecial 24, 3) := by decide +kernel
theorem d_D_init_42 : decode b_D_init 42 = .ok (.aastore, 1) := by decide +kernel
theorem d_D_init_43 : decode b_D_init 43 = .ok (.iinc 1 1, 3) := by decide +kernel
theorem d_D_init_46 : decode b_D_init 46 = .ok (.goto (-21), 3) := by decide +kernel
theorem d_D_init_49 : decode b_D_init 49 = .ok (.return_, 1) := by decide +kernel

set_option maxHeartbeats 800000 in
set_option maxRecDepth 100000 in
theorem c_D_init (l : Launch) (D : va_G) (tc : Nat → ClassId) (z : Nat) (E0 : Nat → va_E) {N k : Nat} (hN : N = 52) (hkk : k = 51) (hE : E0 k = .inr (2, [.null, .null, .int 0, .int 0, .int 0])) : CK l y_D_init { frames := 2, cells := 6, slots := 26, locals := 80 } D (kty tc) z [.ref (z + k)] N E0 (N + 6) (fun E' => E' 51 = .inr (2, [.ref (z + 52), .ref (z + 53), .int 0, .int 0, .int 0]) ∧ E' 52 = .inr (1, [.int 0, .int 100]) ∧ E' 53 = .inl (tc 5, 4, .inr (.inr (.inr (.inr (fun j => if j < 4 then some (z + (54 + j)) else none))))) ∧ (∀ j, j < 4 → E' (54 + j) = .inr (4, [.int 0, .int 0, .int 0, .int 0, .int 0])) ∧ ∀ i, i < 51 → E' i = E0 i) := by
  subst hN
  subst hkk
  refine CK.of (cc := b_D_init) (maxL := 2) (by decide) rfl w_103 (Nat.le_of_ble_eq_true rfl) ?_
  intro p e s m below meth c C hr hin
  have loop : ∀ (q r : Nat) (E : Nat → va_E), r + q = 4 → E 51 = .inr (2, [.ref (z + 52), .ref (z + 53), .int 0, .int 0, .int 0]) → E 52 = .inr (1, [.int 0, .int 100]) → E 53 = .inl (tc 5, 4, .inr (.inr (.inr (.inr (fun j => if j < r then some (z + (54 + j)) else none))))) → (∀ j, j < r → E (54 + j) = .inr (4, [.int 0, .int 0, .int 0, .int 0, .int 0])) → (∀ i, i < 51 → E i = E0 i) → GK p l e { frames := 2, cells := 6, slots := 26, locals := 80 } s m ([.ref (z + 51)] : List Value).toArray below meth c (KQ below D z { frames := 2, cells := 6, slots := 26, locals := 80 } 58 (fun E' => E' 51 = .inr (2, [.ref (z + 52), .ref (z + 53), .int 0, .int 0, .int 0]) ∧ E' 52 = .inr (1, [.int 0, .int 100]) ∧ E' 53 = .inl (tc 5, 4, .inr (.inr (.inr (.inr (fun j => if j < 4 then some (z + (54 + j)) else none))))) ∧ (∀ j, j < 4 → E' (54 + j) = .inr (4, [.int 0, .int 0, .int 0, .int 0, .int 0])) ∧ ∀ i, i < 51 → E' i = E0 i) s) D z 2 (54 + r) E (2 + r) (6 + 5 * r) 25 [(1, .int (nI r)), (0, .ref (z + 51))] [] := by
    intro q
    induction q with
    | zero =>
      intro r E hq hK h52 hA hO hF
      obtain rfl : r = 4 := by omega
      refine bk_iload_n C d_D_init_25 rfl ?_
      refine bk_iconst C (v := 4) d_D_init_26 (by decide) ?_
      refine bk_icmp_ge C (tgt := 49) d_D_init_27 rfl (fun _ => ?_) (fun hb => absurd (by decide) hb)
      exact bk_ret C hr (by decide) (by decide) d_D_init_49 ⟨hK, h52, hA, hO, hF⟩
    | succ q ih =>
      intro r E hq hK h52 hA hO hF
      refine bk_iload_n C d_D_init_25 rfl ?_
      refine bk_iconst C (v := 4) d_D_init_26 (by decide) ?_
      refine bk_icmp_ge C (tgt := 49) d_D_init_27 rfl (fun hb => absurd hb (nI_ge (b := 4) (by omega) (by decide))) (fun _ => ?_)
      refine bk_aload_n C d_D_init_30 rfl ?_
      refine bk_get C (j := 51) (ci := 2) (k := 1) (fs := [.ref (z + 52), .ref (z + 53), .int 0, .int 0, .int 0]) (v := .ref (z + 53)) (by omega) (by first | (rw [hK]; done) | (rw [hK]; rfl)) rfl in_D (by decide) w_134 rfl d_D_init_31 ?_
      refine bk_iload_n C d_D_init_34 rfl ?_
      refine bk_new C (ci := 4) (fs := [.int 0, .int 0, .int 0, .int 0, .int 0]) ft_N k_N in_N w_107 w_109 w_6 rfl (fun j hj => by match j, hj with | 0, _ => rfl | 1, _ => rfl | 2, _ => rfl | 3, _ => rfl | 4, _ => rfl) (by first | decide | omega | (dsimp only; omega)) (by first | decide | omega | (dsimp only; omega)) d_D_init_35 ?_
      refine bk_dup C d_D_init_38 rfl ?_
      refine bk_callN C (c_N_init l D tc z _ (N := 54 + r + 1) (k := 54 + r) (by omega) (by first | (rw [va_up_self]; done) | (rw [va_up_self]; rfl))) rfl C.2.2.2.2.2.2.2.2.2.2.2 w_111 w_112 w_6 ⟨by decide, by decide, (by decide +kernel)⟩ ⟨by decide, by decide⟩ ⟨(by first | decide | omega | (dsimp only; omega)), (by first | decide | omega | (dsimp only; omega))⟩ (Nat.le_of_ble_eq_true rfl) d_D_init_39 (fun E1 hc1 => ?_)
      refine bk_aast C (ja := 53) (jv := 54 + r) (a := r) (n := 4) (t0 := 5) (ci := 4) (cT := tc 5) (r := (R_N, T_N, 5)) (vs := [.int 0, .int 0, .int 0, .int 0, .int 0]) (f := fun j => if j < r then some (z + (54 + j)) else none) (by omega) (by omega) (by first | (rw [hc1 _ (by omega) (by omega), va_up_ne _ _ (by omega), hA]; done) | (rw [hc1 _ (by omega) (by omega), va_up_ne _ _ (by omega), hA]; rfl)) (by first | (rw [hc1 _ (by omega) (by omega), va_up_self]; done) | (rw [hc1 _ (by omega) (by omega), va_up_self]; rfl)) rfl rfl rfl (by omega) (by decide) d_D_init_42 ?_
      refine bk_iinc C (k := 0) (w := nI (r + 1)) (lo' := [(1, .int (nI (r + 1))), (0, .ref (z + 51))]) d_D_init_43 rfl (nI_1 r) (by decide) rfl ?_
      refine bk_goto C (tgt := 25) d_D_init_46 rfl ?_
      refine GK.wide (k := 2 + (r + 1)) (n := 6 + 5 * (r + 1)) (by dsimp only; omega) (by dsimp only; omega) ?_
      refine GK.eqN (N' := 54 + (r + 1)) (st' := []) (by omega) rfl ?_
      refine ih (r + 1) _ (by omega) (by rw [va_up_ne _ _ (by omega), hc1 _ (by omega) (by omega), va_up_ne _ _ (by omega)]; exact hK) (by rw [va_up_ne _ _ (by omega), hc1 _ (by omega) (by omega), va_up_ne _ _ (by omega)]; exact h52) (by rw [va_up_self, k_arr1]) (fun j hj => ?_) (fun i hi => by rw [va_up_ne _ _ (by omega), hc1 _ (by omega) (by omega), va_up_ne _ _ (by omega)]; exact hF i hi)
      by_cases hjr : j = r
      · subst hjr
        rw [va_up_ne _ _ (by omega), hc1 _ (by omega) (by omega), va_up_self]
      · rw [va_up_ne _ _ (by omega), hc1 _ (by omega) (by omega), va_up_ne _ _ (by omega)]
        exact hO j (by omega)
  refine bk_aload_n C d_D_init_0 rfl ?_
  refine bk_obj C w_104 w_25 w_26 d_D_init_1 (by decide) (by decide) ?_
  refine bk_aload_n C d_D_init_4 rfl ?_
  refine bk_new C (ci := 1) (fs := [.int 0, .int 0]) ft_C k_C in_C w_105 w_56 w_4 rfl (fun j hj => by match j, hj with | 0, _ => rfl | 1, _ => rfl) (by first | decide | omega | (dsimp only; omega)) (by first | decide | omega | (dsimp only; omega)) d_D_init_5 ?_
  refine GK.eqN (N' := 53) (st' := [.ref (z + 52), .ref (z + 51)]) (by omega) rfl ?_
  refine bk_dup C d_D_init_8 rfl ?_
  refine bk_call C (c_C_init l D tc z _ (N := 53) (k := 52) (by omega) (by first | (rw [va_up_self]; done) | (rw [va_up_self]; rfl))) rfl w_106 w_58 w_59 w_4 ⟨by decide, by decide, (by decide +kernel)⟩ ⟨by decide, by decide⟩ ⟨(by first | decide | omega | (dsimp only; omega)), (by first | decide | omega | (dsimp only; omega))⟩ (Nat.le_of_ble_eq_true rfl) d_D_init_9 (fun E1 hc1 => ?_)
  refine bk_put C hin (j := 51) (ci := 2) (k := 0) (fs := [.null, .null, .int 0, .int 0, .int 0]) ft_D k_D n_D (by omega) (by first | (rw [hc1.2 _ (by omega) (by omega), va_up_ne _ _ (by omega), hE]; done) | (rw [hc1.2 _ (by omega) (by omega), va_up_ne _ _ (by omega), hE]; rfl)) rfl in_D (by decide) w_132 rfl (k_D 0 (by decide)) rfl rfl (Nat.le_of_ble_eq_true rfl) d_D_init_12 ?_
  refine bk_aload_n C d_D_init_15 rfl ?_
  refine bk_iconst C (v := 4) d_D_init_16 (by decide) ?_
  refine bk_newq C (N0 := 4) (t0 := 5) (cT := tc 5) w_107 C.2.2.2.2.2.2.2.2.2.1 rfl (by decide) (by decide) (by decide) (by first | decide | omega | (dsimp only; omega)) (by first | decide | omega | (dsimp only; omega)) d_D_init_17 ?_
  refine GK.eqN (N' := 54) (st' := [.ref (z + 53), .ref (z + 51)]) (by omega) rfl ?_
  refine bk_put C hin (j := 51) (ci := 2) (k := 1) (fs := [.ref (z + 52), .null, .int 0, .int 0, .int 0]) ft_D k_D n_D (by omega) (by first | (rw [va_up_ne _ _ (by omega), va_up_self]; done) | (rw [va_up_ne _ _ (by omega), va_up_self]; rfl)) rfl in_D (by decide) w_134 rfl (k_D 1 (by decide)) rfl rfl (Nat.le_of_ble_eq_true rfl) d_D_init_20 ?_
  refine bk_iconst C (v := 0) d_D_init_23 (by decide) ?_
  refine bk_istore_n C (lo' := [(1, .int 0), (0, .ref (z + 51))]) d_D_init_24 rfl (by decide) rfl ?_
  exact loop 4 0 _ rfl (by first | (rw [va_up_self]; done) | (rw [va_up_self]; rfl)) (by first | (rw [va_up_ne _ _ (by omega), va_up_ne _ _ (by omega), va_up_ne _ _ (by omega), hc1.1]; done) | (rw [va_up_ne _ _ (by omega), va_up_ne _ _ (by omega), va_up_ne _ _ (by omega), hc1.1]; rfl)) (by rw [va_up_ne _ _ (by omega), va_up_self]; rfl) (fun j hj => absurd hj (by omega)) (fun i hi => by rw [va_up_ne _ _ (by omega), va_up_ne _ _ (by omega), va_up_ne _ _ (by omega), hc1.2 _ (by omega) (by omega), va_up_ne _ _ (by omega)])

def TI (tc : Nat → ClassId) (z i : Nat) : va_E :=
  if i < 5 then (if i = 1 then .inr (5, [.ref (z + 2), .ref (z + 3), .ref (z + 4)]) else if i = 2 then .inl (tc 0, 8, .inl (fun _ => 0)) else .inl (tc 0, 16, .inl (fun _ => 0)))
  else if i < 6 then .inl (tc 3, 9, .inr (.inr (.inr (.inr (fun j => if j < 9 then some (z + (6 + 4 * j)) else none)))))
  else if i < 42 then (if (i - 6) % 4 = 0 then .inr (5, [.ref (z + (i + 1)), .ref (z + (i + 2)), .ref (z + (i + 3))]) else if (i - 6) % 4 = 1 then .inl (tc 0, 8, .inl (fun _ => 0)) else .inl (tc 0, 16, .inl (fun _ => 0)))
  else if i < 43 then .inl (tc 4, 4, .inr (.inr (.inr (.inr (fun j => if j < 4 then some (z + (43 + 2 * j)) else none)))))
  else if i < 51 then (if (i - 43) % 2 = 0 then .inr (6, [.ref (z + (i + 1)), .int 0, .int 0, .int 0, .int 0, .int 0, .int 0, .int 0]) else .inr (1, [.int 0, .int 100]))
  else if i < 52 then .inr (2, [.ref (z + 52), .ref (z + 53), .int 0, .int 0, .int 0])
  else if i < 53 then .inr (1, [.int 0, .int 100])
  else if i < 54 then .inl (tc 5, 4, .inr (.inr (.inr (.inr (fun j => if j < 4 then some (z + (54 + j)) else none)))))
  else if i < 58 then .inr (4, [.int 0, .int 0, .int 0, .int 0, .int 0])
  else if i < 59 then .inr (3, [.ref (z + 59), .ref (z + 60), .ref (z + 61), .ref (z + 62), .int 0])
  else if i < 63 then .inl (tc 0, 40, .inl (fun _ => 0))
  else if i < 64 then .inl (tc 6, 40, .inr (.inr (.inr (.inr (fun j => if j < 40 then some (z + (64 + 2 * j)) else none)))))
  else if i < 144 then (if (i - 64) % 2 = 0 then .inr (0, [.int 0, .int 0, .int 0, .ref (z + (i + 1))]) else .inl (tc 0, 8, .inl (fun _ => 0)))
  else .inl (tc 1, 31, .inr (.inl (fun _ => 0)))

theorem ti_rw {tc : Nat → ClassId} {z i : Nat} {a b : va_E} (h : a = b) (e : TI tc z i = b) : a = TI tc z i := h.trans e.symm
set_option maxHeartbeats 400000 in
theorem ti_L0 {tc : Nat → ClassId} {z r : Nat} (h : r < 9) : TI tc z (6 + 4 * r) = .inr (5, [.ref (z + (6 + 4 * r + 1)), .ref (z + (6 + 4 * r + 2)), .ref (z + (6 + 4 * r + 3))]) ∧ TI tc z (6 + 4 * r + 1) = .inl (tc 0, 8, .inl (fun _ => 0)) ∧ TI tc z (6 + 4 * r + 2) = .inl (tc 0, 16, .inl (fun _ => 0)) ∧ TI tc z (6 + 4 * r + 3) = .inl (tc 0, 16, .inl (fun _ => 0)) := by
  refine ⟨?_, ?_, ?_, ?_⟩
  all_goals
    unfold TI
    rw [if_neg (by omega), if_neg (by omega), if_pos (by omega)]
  · rw [if_pos (by omega)]
  · rw [if_neg (by omega), if_pos (by omega)]
  · rw [if_neg (by omega), if_neg (by omega)]
  · rw [if_neg (by omega), if_neg (by omega)]
theorem ti_T0 {tc : Nat → ClassId} {z r : Nat} (h : r < 4) : TI tc z (43 + 2 * r) = .inr (6, [.ref (z + (43 + 2 * r + 1)), .int 0, .int 0, .int 0, .int 0, .int 0, .int 0, .int 0]) ∧ TI tc z (43 + 2 * r + 1) = .inr (1, [.int 0, .int 100]) := by
  refine ⟨?_, ?_⟩
  all_goals
    unfold TI
    rw [if_neg (by omega), if_neg (by omega), if_neg (by omega), if_neg (by omega), if_pos (by omega)]
  · rw [if_pos (by omega)]
  · rw [if_neg (by omega)]
theorem ti_B0 {tc : Nat → ClassId} {z r : Nat} (h : r < 40) : TI tc z (64 + 2 * r) = .inr (0, [.int 0, .int 0, .int 0, .ref (z + (64 + 2 * r + 1))]) ∧ TI tc z (64 + 2 * r + 1) = .inl (tc 0, 8, .inl (fun _ => 0)) := by
  refine ⟨?_, ?_⟩
  all_goals
    unfold TI
    rw [if_neg (by omega), if_neg (by omega), if_neg (by omega), if_neg (by omega), if_neg (by omega), if_neg (by omega), if_neg (by omega), if_neg (by omega), if_neg (by omega), if_neg (by omega), if_neg (by omega), if_neg (by omega), if_pos (by omega)]
  · rw [if_pos (by omega)]
  · rw [if_neg (by omega)]

theorem d_H_init_0 : decode b_H_init 0 = .ok (.aload_n 0, 1) := by decide +kernel
theorem d_H_init_1 : decode b_H_init 1 = .ok (.invokespecial 1, 3) := by decide +kernel
theorem d_H_init_4 : decode b_H_init 4 = .ok (.aload_n 0, 1) := by decide +kernel
theorem d_H_init_5 : decode b_H_init 5 = .ok (.new 7, 3) := by decide +kernel
theorem d_H_init_8 : decode b_H_init 8 = .ok (.dup, 1) := by decide +kernel
theorem d_H_init_9 : decode b_H_init 9 = .ok (.invokespecial 9, 3) := by decide +kernel
theorem d_H_init_12 : decode b_H_init 12 = .ok (.putfield 10, 3) := by decide +kernel
theorem d_H_init_15 : decode b_H_init 15 = .ok (.aload_n 0, 1) := by decide +kernel
theorem d_H_init_16 : decode b_H_init 16 = .ok (.bipush 9, 2) := by decide +kernel
theorem d_H_init_18 : decode b_H_init 18 = .ok (.anewarray 7, 3) := by decide +kernel
theorem d_H_init_21 : decode b_H_init 21 = .ok (.putfield 16, 3) := by decide +kernel
theorem d_H_init_24 : decode b_H_init 24 = .ok (.iconst 0, 1) := by decide +kernel
theorem d_H_init_25 : decode b_H_init 25 = .ok (.istore_n 1, 1) := by decide +kernel
theorem d_H_init_26 : decode b_H_init 26 = .ok (.iload_n 1, 1) := by decide +kernel
theorem d_H_init_27 : decode b_H_init 27 = .ok (.bipush 9, 2) := by decide +kernel
theorem d_H_init_29 : decode b_H_init 29 = .ok (.if_icmp .ge 22, 3) := by decide +kernel
theorem d_H_init_32 : decode b_H_init 32 = .ok (.aload_n 0, 1) := by decide +kernel
theorem d_H_init_33 : decode b_H_init 33 = .ok (.getfield 16, 3) := by decide +kernel
theorem d_H_init_36 : decode b_H_init 36 = .ok (.iload_n 1, 1) := by decide +kernel
theorem d_H_init_37 : decode b_H_init 37 = .ok (.new 7, 3) := by decide +kernel
theorem d_H_init_40 : decode b_H_init 40 = .ok (.dup, 1) := by decide +kernel
theorem d_H_init_41 : decode b_H_init 41 = .ok (.invokespecial 9, 3) := by decide +kernel
theorem d_H_init_44 : decode b_H_init 44 = .ok (.aastore, 1) := by decide +kernel
theorem d_H_init_45 : decode b_H_init 45 = .ok (.iinc 1 1, 3) := by decide +kernel
theorem d_H_init_48 : decode b_H_init 48 = .ok (.goto (-22), 3) := by decide +kernel
theorem d_H_init_51 : decode b_H_init 51 = .ok (.aload_n 0, 1) := by decide +kernel
theorem d_H_init_52 : decode b_H_init 52 = .ok (.iconst 4, 1) := by decide +kernel
theorem d_H_init_53 : decode b_H_init 53 = .ok (.anewarray 20, 3) := by decide +kernel
theorem d_H_init_56 : decode b_H_init 56 = .ok (.putfield 22, 3) := by decide +kernel
theorem d_H_init_59 : decode b_H_init 59 = .ok (.iconst 0, 1) := by decide +kernel
theorem d_H_init_60 : decode b_H_init 60 = .ok (.istore_n 1, 1) := by decide +kernel
theorem d_H_init_61 : decode b_H_init 61 = .ok (.iload_n 1, 1) := by decide +kernel
theorem d_H_init_62 : decode b_H_init 62 = .ok (.iconst 4, 1) := by decide +kernel
theorem d_H_init_63 : decode b_H_init 63 = .ok (.if_icmp .ge 22, 3) := by decide +kernel
theorem d_H_init_66 : decode b_H_init 66 = .ok (.aload_n 0, 1) := by decide +kernel
theorem d_H_init_67 : decode b_H_init 67 = .ok (.getfield 22, 3) := by decide +kernel
theorem d_H_init_70 : decode b_H_init 70 = .ok (.iload_n 1, 1) := by decide +kernel
theorem d_H_init_71 : decode b_H_init 71 = .ok (.new 20, 3) := by decide +kernel
theorem d_H_init_74 : decode b_H_init 74 = .ok (.dup, 1) := by decide +kernel
theorem d_H_init_75 : decode b_H_init 75 = .ok (.invokespecial 26, 3) := by decide +kernel
theorem d_H_init_78 : decode b_H_init 78 = .ok (.aastore, 1) := by decide +kernel
theorem d_H_init_79 : decode b_H_init 79 = .ok (.iinc 1 1, 3) := by decide +kernel
theorem d_H_init_82 : decode b_H_init 82 = .ok (.goto (-21), 3) := by decide +kernel
theorem d_H_init_85 : decode b_H_init 85 = .ok (.aload_n 0, 1) := by decide +kernel
theorem d_H_init_86 : decode b_H_init 86 = .ok (.new 27, 3) := by decide +kernel
theorem d_H_init_89 : decode b_H_init 89 = .ok (.dup, 1) := by decide +kernel
theorem d_H_init_90 : decode b_H_init 90 = .ok (.invokespecial 29, 3) := by decide +kernel
theorem d_H_init_93 : decode b_H_init 93 = .ok (.putfield 30, 3) := by decide +kernel
theorem d_H_init_96 : decode b_H_init 96 = .ok (.aload_n 0, 1) := by decide +kernel
theorem d_H_init_97 : decode b_H_init 97 = .ok (.new 34, 3) := by decide +kernel
theorem d_H_init_100 : decode b_H_init 100 = .ok (.dup, 1) := by decide +kernel
theorem d_H_init_101 : decode b_H_init 101 = .ok (.invokespecial 36, 3) := by decide +kernel
theorem d_H_init_104 : decode b_H_init 104 = .ok (.putfield 37, 3) := by decide +kernel
theorem d_H_init_107 : decode b_H_init 107 = .ok (.aload_n 0, 1) := by decide +kernel
theorem d_H_init_108 : decode b_H_init 108 = .ok (.bipush 40, 2) := by decide +kernel
theorem d_H_init_110 : decode b_H_init 110 = .ok (.anewarray 41, 3) := by decide +kernel
theorem d_H_init_113 : decode b_H_init 113 = .ok (.putfield 43, 3) := by decide +kernel
theorem d_H_init_116 : decode b_H_init 116 = .ok (.iconst 0, 1) := by decide +kernel
theorem d_H_init_117 : decode b_H_init 117 = .ok (.istore_n 1, 1) := by decide +kernel
theorem d_H_init_118 : decode b_H_init 118 = .ok (.iload_n 1, 1) := by decide +kernel
theorem d_H_init_119 : decode b_H_init 119 = .ok (.bipush 40, 2) := by decide +kernel
theorem d_H_init_121 : decode b_H_init 121 = .ok (.if_icmp .ge 22, 3) := by decide +kernel
theorem d_H_init_124 : decode b_H_init 124 = .ok (.aload_n 0, 1) := by decide +kernel
theorem d_H_init_125 : decode b_H_init 125 = .ok (.getfield 43, 3) := by decide +kernel
theorem d_H_init_128 : decode b_H_init 128 = .ok (.iload_n 1, 1) := by decide +kernel
theorem d_H_init_129 : decode b_H_init 129 = .ok (.new 41, 3) := by decide +kernel
theorem d_H_init_132 : decode b_H_init 132 = .ok (.dup, 1) := by decide +kernel
theorem d_H_init_133 : decode b_H_init 133 = .ok (.invokespecial 47, 3) := by decide +kernel
theorem d_H_init_136 : decode b_H_init 136 = .ok (.aastore, 1) := by decide +kernel
theorem d_H_init_137 : decode b_H_init 137 = .ok (.iinc 1 1, 3) := by decide +kernel
theorem d_H_init_140 : decode b_H_init 140 = .ok (.goto (-22), 3) := by decide +kernel
theorem d_H_init_143 : decode b_H_init 143 = .ok (.aload_n 0, 1) := by decide +kernel
theorem d_H_init_144 : decode b_H_init 144 = .ok (.bipush 31, 2) := by decide +kernel
theorem d_H_init_146 : decode b_H_init 146 = .ok (.newarray .long, 2) := by decide +kernel
theorem d_H_init_148 : decode b_H_init 148 = .ok (.putfield 48, 3) := by decide +kernel
theorem d_H_init_151 : decode b_H_init 151 = .ok (.return_, 1) := by decide +kernel

set_option maxHeartbeats 800000 in
set_option maxRecDepth 100000 in
theorem c_H_init (l : Launch) (D : va_G) (tc : Nat → ClassId) (z : Nat) (E0 : Nat → va_E) {N k : Nat} (hN : N = 1) (hkk : k = 0) (hE : E0 k = .inr (7, [.null, .null, .int 0, .null, .null, .null, .null, .int 0, .null])) : CK l y_H_init { frames := 3, cells := 144, slots := 1230, locals := 101 } D (kty tc) z [.ref (z + k)] N E0 (N + 144) (fun E' => E' 0 = .inr (7, [.ref (z + 1), .ref (z + 5), .int 0, .ref (z + 42), .ref (z + 51), .ref (z + 58), .ref (z + 63), .int 0, .ref (z + 144)]) ∧ ∀ i, 0 < i → i < 145 → E' i = TI tc z i) := by
  subst hN
  subst hkk
  refine CK.of (cc := b_H_init) (maxL := 2) (by decide) rfl w_23 (Nat.le_of_ble_eq_true rfl) ?_
  intro p e s m below meth c C hr hin
  have loop_baskets : ∀ (q r : Nat) (E : Nat → va_E), r + q = 40 → E 0 = .inr (7, [.ref (z + 1), .ref (z + 5), .int 0, .ref (z + 42), .ref (z + 51), .ref (z + 58), .ref (z + 63), .int 0, .null]) → E 63 = .inl (tc 6, 40, .inr (.inr (.inr (.inr (fun j => if j < r then some (z + (64 + 2 * j)) else none))))) → (∀ i, 0 < i → i < 64 + 2 * r → i ≠ 63 → E i = TI tc z i) → GK p l e { frames := 3, cells := 144, slots := 1230, locals := 101 } s m ([.ref (z + 0)] : List Value).toArray below meth c (KQ below D z { frames := 3, cells := 144, slots := 1230, locals := 101 } 145 (fun E' => E' 0 = .inr (7, [.ref (z + 1), .ref (z + 5), .int 0, .ref (z + 42), .ref (z + 51), .ref (z + 58), .ref (z + 63), .int 0, .ref (z + 144)]) ∧ ∀ i, 0 < i → i < 145 → E' i = TI tc z i) s) D z 2 (64 + 2 * r) E (63 + 2 * r) (719 + 12 * r) 118 [(1, .int (nI r)), (0, .ref (z + 0))] [] := by
    intro q
    induction q with
    | zero =>
      intro r E hq hK hA hT
      obtain rfl : r = 40 := by omega
      refine bk_iload_n C d_H_init_118 rfl ?_
      refine bk_bipush C (v := 40) d_H_init_119 (by decide) ?_
      refine bk_icmp_ge C (tgt := 143) d_H_init_121 rfl (fun _ => ?_) (fun hb => absurd (by decide) hb)
      refine GK.eqN (N' := 144) (st' := []) (by omega) rfl ?_
      have hT : ∀ i, 0 < i → i < 144 → E i = TI tc z i := fun i h0 hi => by
        by_cases q : i = 63
        · subst q; exact hA.trans rfl
        · exact hT i h0 (by omega) q
      refine bk_aload_n C d_H_init_143 rfl ?_
      refine bk_bipush C (v := 31) d_H_init_144 (by decide) ?_
      refine bk_newa C (atype := .long) (ty := .long) (a0 := (31, .inr (.inl (fun _ => 0)))) (N0 := 31) (t0 := 1) (cT := tc 1) rfl w_231 rfl (fun _ h => h) (fun _ => rfl) (by decide) (by decide) (by decide) (by first | decide | omega | (dsimp only; omega)) (by first | decide | omega | (dsimp only; omega)) d_H_init_146 ?_
      refine GK.eqN (N' := 145) (st' := [.ref (z + 144), .ref (z + 0)]) (by omega) rfl ?_
      refine bk_put C hin (j := 0) (ci := 7) (k := 8) (fs := [.ref (z + 1), .ref (z + 5), .int 0, .ref (z + 42), .ref (z + 51), .ref (z + 58), .ref (z + 63), .int 0, .null]) ft_H k_H n_H (by omega) (by first | (rw [va_up_ne _ _ (by omega), hK]; done) | (rw [va_up_ne _ _ (by omega), hK]; rfl)) rfl in_H (by decide) w_211 rfl (k_H 8 (by decide)) rfl rfl (Nat.le_of_ble_eq_true rfl) d_H_init_148 ?_
      exact bk_ret C hr (by decide) (by decide) d_H_init_151 ⟨(by first | (rw [va_up_self]; done) | (rw [va_up_self]; rfl)), fun i h0 hi => by
        by_cases hold : i < 144
        · rw [va_up_ne _ _ (by omega), va_up_ne _ _ (by omega)]
          exact hT i h0 hold
        · obtain rfl : i = 144 := by omega
          rw [va_up_ne _ _ (by omega), va_up_self]; rfl⟩
    | succ q ih =>
      intro r E hq hK hA hT
      refine bk_iload_n C d_H_init_118 rfl ?_
      refine bk_bipush C (v := 40) d_H_init_119 (by decide) ?_
      refine bk_icmp_ge C (tgt := 143) d_H_init_121 rfl (fun hb => absurd hb (nI_ge (b := 40) (by omega) (by decide))) (fun _ => ?_)
      refine bk_aload_n C d_H_init_124 rfl ?_
      refine bk_get C (j := 0) (ci := 7) (k := 6) (fs := [.ref (z + 1), .ref (z + 5), .int 0, .ref (z + 42), .ref (z + 51), .ref (z + 58), .ref (z + 63), .int 0, .null]) (v := .ref (z + 63)) (by omega) (by first | (rw [hK]; done) | (rw [hK]; rfl)) rfl in_H (by decide) w_209 rfl d_H_init_125 ?_
      refine bk_iload_n C d_H_init_128 rfl ?_
      refine bk_new C (ci := 0) (fs := [.int 0, .int 0, .int 0, .null]) ft_B k_B in_B w_179 w_181 w_8 rfl (fun j hj => by match j, hj with | 0, _ => rfl | 1, _ => rfl | 2, _ => rfl | 3, _ => rfl) (by first | decide | omega | (dsimp only; omega)) (by first | decide | omega | (dsimp only; omega)) d_H_init_129 ?_
      refine bk_dup C d_H_init_132 rfl ?_
      refine bk_call C (c_B_init l D tc z _ (N := 64 + 2 * r + 1) (k := 64 + 2 * r) (by omega) (by first | (rw [va_up_self]; done) | (rw [va_up_self]; rfl))) rfl w_182 w_183 w_184 w_8 ⟨by decide, by decide, (by decide +kernel)⟩ ⟨by decide, by decide⟩ ⟨(by first | decide | omega | (dsimp only; omega)), (by first | decide | omega | (dsimp only; omega))⟩ (Nat.le_of_ble_eq_true rfl) d_H_init_133 (fun E1 hc1 => ?_)
      refine GK.eqN (N' := 64 + 2 * r + 2) (st' := [.ref (z + (64 + 2 * r)), .int (nI r), .ref (z + 63)]) (by omega) rfl ?_
      refine bk_aast C (ja := 63) (jv := 64 + 2 * r) (a := r) (n := 40) (t0 := 6) (ci := 0) (cT := tc 6) (r := (R_B, T_B, 4)) (vs := [.int 0, .int 0, .int 0, .ref (z + (64 + 2 * r + 1))]) (f := fun j => if j < r then some (z + (64 + 2 * j)) else none) (by omega) (by omega) (by first | (rw [hc1.2.2 _ (by omega) (by omega), va_up_ne _ _ (by omega), hA]; done) | (rw [hc1.2.2 _ (by omega) (by omega), va_up_ne _ _ (by omega), hA]; rfl)) (by first | (rw [hc1.1]; done) | (rw [hc1.1]; rfl)) rfl rfl rfl (by omega) (by decide) d_H_init_136 ?_
      refine bk_iinc C (k := 0) (w := nI (r + 1)) (lo' := [(1, .int (nI (r + 1))), (0, .ref (z + 0))]) d_H_init_137 rfl (nI_1 r) (by decide) rfl ?_
      refine bk_goto C (tgt := 118) d_H_init_140 rfl ?_
      refine GK.wide (k := 63 + 2 * (r + 1)) (n := 719 + 12 * (r + 1)) (by dsimp only; omega) (by dsimp only; omega) ?_
      refine GK.eqN (N' := 64 + 2 * (r + 1)) (st' := []) (by omega) rfl ?_
      refine ih (r + 1) _ (by omega) (by rw [va_up_ne _ _ (by omega), hc1.2.2 _ (by omega) (by omega), va_up_ne _ _ (by omega)]; exact hK) (by rw [va_up_self, k_arrN]) (fun i h0 hi hne => ?_)
      by_cases hold : i < 64 + 2 * r
      · rw [va_up_ne _ _ (by omega), hc1.2.2 _ (by omega) (by omega), va_up_ne _ _ (by omega)]
        exact hT i h0 hold hne
      · have hcase : i = 64 + 2 * r ∨ i = 64 + 2 * r + 1 := by omega
        obtain ⟨e0, e1⟩ := ti_B0 (tc := tc) (z := z) (r := r) (by omega)
        rcases hcase with rfl | rfl
        · rw [va_up_ne _ _ (by omega), hc1.1, e0]
        · rw [va_up_ne _ _ (by omega), hc1.2.1, e1]
  have loop_tills : ∀ (q r : Nat) (E : Nat → va_E), r + q = 4 → E 0 = .inr (7, [.ref (z + 1), .ref (z + 5), .int 0, .ref (z + 42), .null, .null, .null, .int 0, .null]) → E 42 = .inl (tc 4, 4, .inr (.inr (.inr (.inr (fun j => if j < r then some (z + (43 + 2 * j)) else none))))) → (∀ i, 0 < i → i < 43 + 2 * r → i ≠ 42 → E i = TI tc z i) → GK p l e { frames := 3, cells := 144, slots := 1230, locals := 101 } s m ([.ref (z + 0)] : List Value).toArray below meth c (KQ below D z { frames := 3, cells := 144, slots := 1230, locals := 101 } 145 (fun E' => E' 0 = .inr (7, [.ref (z + 1), .ref (z + 5), .int 0, .ref (z + 42), .ref (z + 51), .ref (z + 58), .ref (z + 63), .int 0, .ref (z + 144)]) ∧ ∀ i, 0 < i → i < 145 → E' i = TI tc z i) s) D z 2 (43 + 2 * r) E (42 + 2 * r) (443 + 10 * r) 61 [(1, .int (nI r)), (0, .ref (z + 0))] [] := by
    intro q
    induction q with
    | zero =>
      intro r E hq hK hA hT
      obtain rfl : r = 4 := by omega
      refine bk_iload_n C d_H_init_61 rfl ?_
      refine bk_iconst C (v := 4) d_H_init_62 (by decide) ?_
      refine bk_icmp_ge C (tgt := 85) d_H_init_63 rfl (fun _ => ?_) (fun hb => absurd (by decide) hb)
      refine GK.eqN (N' := 51) (st' := []) (by omega) rfl ?_
      have hT : ∀ i, 0 < i → i < 51 → E i = TI tc z i := fun i h0 hi => by
        by_cases q : i = 42
        · subst q; exact hA.trans rfl
        · exact hT i h0 (by omega) q
      refine bk_aload_n C d_H_init_85 rfl ?_
      refine bk_new C (ci := 2) (fs := [.null, .null, .int 0, .int 0, .int 0]) ft_D k_D in_D w_99 w_100 w_5 rfl (fun j hj => by match j, hj with | 0, _ => rfl | 1, _ => rfl | 2, _ => rfl | 3, _ => rfl | 4, _ => rfl) (by first | decide | omega | (dsimp only; omega)) (by first | decide | omega | (dsimp only; omega)) d_H_init_86 ?_
      refine GK.eqN (N' := 52) (st' := [.ref (z + 51), .ref (z + 0)]) (by omega) rfl ?_
      refine bk_dup C d_H_init_89 rfl ?_
      refine bk_call C (c_D_init l D tc z _ (N := 52) (k := 51) rfl rfl (by first | (rw [va_up_self]; done) | (rw [va_up_self]; rfl))) rfl w_101 w_102 w_103 w_5 ⟨by decide, by decide, (by decide +kernel)⟩ ⟨by decide, by decide⟩ ⟨(by first | decide | omega | (dsimp only; omega)), (by first | decide | omega | (dsimp only; omega))⟩ (Nat.le_of_ble_eq_true rfl) d_H_init_90 (fun E1 hc1 => ?_)
      have hfr1 : ∀ i, i < 51 → i < 51 → E1 i = _ := fun i hi _ => hc1.2.2.2.2 i hi
      refine GK.eqN (N' := 58) (st' := [.ref (z + 51), .ref (z + 0)]) (by omega) rfl ?_
      refine bk_put C hin (j := 0) (ci := 7) (k := 4) (fs := [.ref (z + 1), .ref (z + 5), .int 0, .ref (z + 42), .null, .null, .null, .int 0, .null]) ft_H k_H n_H (by omega) (by first | (rw [hfr1 _ (by omega) (by omega), va_up_ne _ _ (by omega), hK]; done) | (rw [hfr1 _ (by omega) (by omega), va_up_ne _ _ (by omega), hK]; rfl)) rfl in_H (by decide) w_207 rfl (k_H 4 (by decide)) rfl rfl (Nat.le_of_ble_eq_true rfl) d_H_init_93 ?_
      refine bk_aload_n C d_H_init_96 rfl ?_
      refine bk_new C (ci := 3) (fs := [.null, .null, .null, .null, .int 0]) ft_R k_R in_R w_152 w_153 w_7 rfl (fun j hj => by match j, hj with | 0, _ => rfl | 1, _ => rfl | 2, _ => rfl | 3, _ => rfl | 4, _ => rfl) (by first | decide | omega | (dsimp only; omega)) (by first | decide | omega | (dsimp only; omega)) d_H_init_97 ?_
      refine GK.eqN (N' := 59) (st' := [.ref (z + 58), .ref (z + 0)]) (by omega) rfl ?_
      refine bk_dup C d_H_init_100 rfl ?_
      refine bk_call C (c_R_init l D tc z _ (N := 59) (k := 58) (by omega) (by first | (rw [va_up_self]; done) | (rw [va_up_self]; rfl))) rfl w_154 w_155 w_156 w_7 ⟨by decide, by decide, (by decide +kernel)⟩ ⟨by decide, by decide⟩ ⟨(by first | decide | omega | (dsimp only; omega)), (by first | decide | omega | (dsimp only; omega))⟩ (Nat.le_of_ble_eq_true rfl) d_H_init_101 (fun E2 hc2 => ?_)
      refine GK.eqN (N' := 63) (st' := [.ref (z + 58), .ref (z + 0)]) (by omega) rfl ?_
      refine bk_put C hin (j := 0) (ci := 7) (k := 5) (fs := [.ref (z + 1), .ref (z + 5), .int 0, .ref (z + 42), .ref (z + 51), .null, .null, .int 0, .null]) ft_H k_H n_H (by omega) (by first | (rw [hc2.2.2.2.2.2 _ (by omega) (by omega), va_up_ne _ _ (by omega), va_up_self]; done) | (rw [hc2.2.2.2.2.2 _ (by omega) (by omega), va_up_ne _ _ (by omega), va_up_self]; rfl)) rfl in_H (by decide) w_208 rfl (k_H 5 (by decide)) rfl rfl (Nat.le_of_ble_eq_true rfl) d_H_init_104 ?_
      refine bk_aload_n C d_H_init_107 rfl ?_
      refine bk_bipush C (v := 40) d_H_init_108 (by decide) ?_
      refine bk_newq C (N0 := 40) (t0 := 6) (cT := tc 6) w_179 C.2.2.2.2.2.2.2.2.2.2.1 rfl (by decide) (by decide) (by decide) (by first | decide | omega | (dsimp only; omega)) (by first | decide | omega | (dsimp only; omega)) d_H_init_110 ?_
      refine GK.eqN (N' := 64) (st' := [.ref (z + 63), .ref (z + 0)]) (by omega) rfl ?_
      refine bk_put C hin (j := 0) (ci := 7) (k := 6) (fs := [.ref (z + 1), .ref (z + 5), .int 0, .ref (z + 42), .ref (z + 51), .ref (z + 58), .null, .int 0, .null]) ft_H k_H n_H (by omega) (by first | (rw [va_up_ne _ _ (by omega), va_up_self]; done) | (rw [va_up_ne _ _ (by omega), va_up_self]; rfl)) rfl in_H (by decide) w_209 rfl (k_H 6 (by decide)) rfl rfl (Nat.le_of_ble_eq_true rfl) d_H_init_113 ?_
      refine bk_iconst C (v := 0) d_H_init_116 (by decide) ?_
      refine bk_istore_n C (lo' := [(1, .int 0), (0, .ref (z + 0))]) d_H_init_117 rfl (by decide) rfl ?_
      refine loop_baskets 40 0 _ rfl (by first | (rw [va_up_self]; done) | (rw [va_up_self]; rfl)) (by rw [va_up_ne _ _ (by omega), va_up_self]; rfl) (fun i h0 hi hne => ?_)
      by_cases hold : i < 51
      · rw [va_up_ne _ _ (by omega), va_up_ne _ _ (by omega), va_up_ne _ _ (by omega), hc2.2.2.2.2.2 _ (by omega) (by omega), va_up_ne _ _ (by omega), va_up_ne _ _ (by omega), hfr1 _ (by omega) (by omega), va_up_ne _ _ (by omega)]
        exact hT i h0 hold
      · obtain hcase : i = 51 ∨ i = 52 ∨ i = 53 ∨ i = 54 ∨ i = 55 ∨ i = 56 ∨ i = 57 ∨ i = 58 ∨ i = 59 ∨ i = 60 ∨ i = 61 ∨ i = 62 := by omega
        rcases hcase with rfl | rfl | rfl | rfl | rfl | rfl | rfl | rfl | rfl | rfl | rfl | rfl
        · rw [va_up_ne _ _ (by omega), va_up_ne _ _ (by omega), va_up_ne _ _ (by omega), hc2.2.2.2.2.2 _ (by omega) (by omega), va_up_ne _ _ (by omega), va_up_ne _ _ (by omega), hc1.1]; rfl
        · rw [va_up_ne _ _ (by omega), va_up_ne _ _ (by omega), va_up_ne _ _ (by omega), hc2.2.2.2.2.2 _ (by omega) (by omega), va_up_ne _ _ (by omega), va_up_ne _ _ (by omega), hc1.2.1]; rfl
        · rw [va_up_ne _ _ (by omega), va_up_ne _ _ (by omega), va_up_ne _ _ (by omega), hc2.2.2.2.2.2 _ (by omega) (by omega), va_up_ne _ _ (by omega), va_up_ne _ _ (by omega), hc1.2.2.1]; rfl
        · rw [va_up_ne _ _ (by omega), va_up_ne _ _ (by omega), va_up_ne _ _ (by omega), hc2.2.2.2.2.2 _ (by omega) (by omega), va_up_ne _ _ (by omega), va_up_ne _ _ (by omega)]; exact hc1.2.2.2.1 0 (by omega)
        · rw [va_up_ne _ _ (by omega), va_up_ne _ _ (by omega), va_up_ne _ _ (by omega), hc2.2.2.2.2.2 _ (by omega) (by omega), va_up_ne _ _ (by omega), va_up_ne _ _ (by omega)]; exact hc1.2.2.2.1 1 (by omega)
        · rw [va_up_ne _ _ (by omega), va_up_ne _ _ (by omega), va_up_ne _ _ (by omega), hc2.2.2.2.2.2 _ (by omega) (by omega), va_up_ne _ _ (by omega), va_up_ne _ _ (by omega)]; exact hc1.2.2.2.1 2 (by omega)
        · rw [va_up_ne _ _ (by omega), va_up_ne _ _ (by omega), va_up_ne _ _ (by omega), hc2.2.2.2.2.2 _ (by omega) (by omega), va_up_ne _ _ (by omega), va_up_ne _ _ (by omega)]; exact hc1.2.2.2.1 3 (by omega)
        · rw [va_up_ne _ _ (by omega), va_up_ne _ _ (by omega), va_up_ne _ _ (by omega), hc2.1]; rfl
        · rw [va_up_ne _ _ (by omega), va_up_ne _ _ (by omega), va_up_ne _ _ (by omega), hc2.2.1]; rfl
        · rw [va_up_ne _ _ (by omega), va_up_ne _ _ (by omega), va_up_ne _ _ (by omega), hc2.2.2.1]; rfl
        · rw [va_up_ne _ _ (by omega), va_up_ne _ _ (by omega), va_up_ne _ _ (by omega), hc2.2.2.2.1]; rfl
        · rw [va_up_ne _ _ (by omega), va_up_ne _ _ (by omega), va_up_ne _ _ (by omega), hc2.2.2.2.2.1]; rfl
    | succ q ih =>
      intro r E hq hK hA hT
      refine bk_iload_n C d_H_init_61 rfl ?_
      refine bk_iconst C (v := 4) d_H_init_62 (by decide) ?_
      refine bk_icmp_ge C (tgt := 85) d_H_init_63 rfl (fun hb => absurd hb (nI_ge (b := 4) (by omega) (by decide))) (fun _ => ?_)
      refine bk_aload_n C d_H_init_66 rfl ?_
      refine bk_get C (j := 0) (ci := 7) (k := 3) (fs := [.ref (z + 1), .ref (z + 5), .int 0, .ref (z + 42), .null, .null, .null, .int 0, .null]) (v := .ref (z + 42)) (by omega) (by first | (rw [hK]; done) | (rw [hK]; rfl)) rfl in_H (by decide) w_206 rfl d_H_init_67 ?_
      refine bk_iload_n C d_H_init_70 rfl ?_
      refine bk_new C (ci := 6) (fs := [.null, .int 0, .int 0, .int 0, .int 0, .int 0, .int 0, .int 0]) ft_T k_T in_T w_48 w_50 w_3 rfl (fun j hj => by match j, hj with | 0, _ => rfl | 1, _ => rfl | 2, _ => rfl | 3, _ => rfl | 4, _ => rfl | 5, _ => rfl | 6, _ => rfl | 7, _ => rfl) (by first | decide | omega | (dsimp only; omega)) (by first | decide | omega | (dsimp only; omega)) d_H_init_71 ?_
      refine bk_dup C d_H_init_74 rfl ?_
      refine bk_call C (c_T_init l D tc z _ (N := 43 + 2 * r + 1) (k := 43 + 2 * r) (by omega) (by first | (rw [va_up_self]; done) | (rw [va_up_self]; rfl))) rfl w_51 w_52 w_53 w_3 ⟨by decide, by decide, (by decide +kernel)⟩ ⟨by decide, by decide⟩ ⟨(by first | decide | omega | (dsimp only; omega)), (by first | decide | omega | (dsimp only; omega))⟩ (Nat.le_of_ble_eq_true rfl) d_H_init_75 (fun E1 hc1 => ?_)
      refine GK.eqN (N' := 43 + 2 * r + 2) (st' := [.ref (z + (43 + 2 * r)), .int (nI r), .ref (z + 42)]) (by omega) rfl ?_
      refine bk_aast C (ja := 42) (jv := 43 + 2 * r) (a := r) (n := 4) (t0 := 4) (ci := 6) (cT := tc 4) (r := (R_T, T_T, 8)) (vs := [.ref (z + (43 + 2 * r + 1)), .int 0, .int 0, .int 0, .int 0, .int 0, .int 0, .int 0]) (f := fun j => if j < r then some (z + (43 + 2 * j)) else none) (by omega) (by omega) (by first | (rw [hc1.2.2 _ (by omega) (by omega), va_up_ne _ _ (by omega), hA]; done) | (rw [hc1.2.2 _ (by omega) (by omega), va_up_ne _ _ (by omega), hA]; rfl)) (by first | (rw [hc1.1]; done) | (rw [hc1.1]; rfl)) rfl rfl rfl (by omega) (by decide) d_H_init_78 ?_
      refine bk_iinc C (k := 0) (w := nI (r + 1)) (lo' := [(1, .int (nI (r + 1))), (0, .ref (z + 0))]) d_H_init_79 rfl (nI_1 r) (by decide) rfl ?_
      refine bk_goto C (tgt := 61) d_H_init_82 rfl ?_
      refine GK.wide (k := 42 + 2 * (r + 1)) (n := 443 + 10 * (r + 1)) (by dsimp only; omega) (by dsimp only; omega) ?_
      refine GK.eqN (N' := 43 + 2 * (r + 1)) (st' := []) (by omega) rfl ?_
      refine ih (r + 1) _ (by omega) (by rw [va_up_ne _ _ (by omega), hc1.2.2 _ (by omega) (by omega), va_up_ne _ _ (by omega)]; exact hK) (by rw [va_up_self, k_arrN]) (fun i h0 hi hne => ?_)
      by_cases hold : i < 43 + 2 * r
      · rw [va_up_ne _ _ (by omega), hc1.2.2 _ (by omega) (by omega), va_up_ne _ _ (by omega)]
        exact hT i h0 hold hne
      · have hcase : i = 43 + 2 * r ∨ i = 43 + 2 * r + 1 := by omega
        obtain ⟨e0, e1⟩ := ti_T0 (tc := tc) (z := z) (r := r) (by omega)
        rcases hcase with rfl | rfl
        · rw [va_up_ne _ _ (by omega), hc1.1, e0]
        · rw [va_up_ne _ _ (by omega), hc1.2.1, e1]
  have loop_books : ∀ (q r : Nat) (E : Nat → va_E), r + q = 9 → E 0 = .inr (7, [.ref (z + 1), .ref (z + 5), .int 0, .null, .null, .null, .null, .int 0, .null]) → E 5 = .inl (tc 3, 9, .inr (.inr (.inr (.inr (fun j => if j < r then some (z + (6 + 4 * j)) else none))))) → (∀ i, 0 < i → i < 6 + 4 * r → i ≠ 5 → E i = TI tc z i) → GK p l e { frames := 3, cells := 144, slots := 1230, locals := 101 } s m ([.ref (z + 0)] : List Value).toArray below meth c (KQ below D z { frames := 3, cells := 144, slots := 1230, locals := 101 } 145 (fun E' => E' 0 = .inr (7, [.ref (z + 1), .ref (z + 5), .int 0, .ref (z + 42), .ref (z + 51), .ref (z + 58), .ref (z + 63), .int 0, .ref (z + 144)]) ∧ ∀ i, 0 < i → i < 145 → E' i = TI tc z i) s) D z 2 (6 + 4 * r) E (5 + 4 * r) (52 + 43 * r) 26 [(1, .int (nI r)), (0, .ref (z + 0))] [] := by
    intro q
    induction q with
    | zero =>
      intro r E hq hK hA hT
      obtain rfl : r = 9 := by omega
      refine bk_iload_n C d_H_init_26 rfl ?_
      refine bk_bipush C (v := 9) d_H_init_27 (by decide) ?_
      refine bk_icmp_ge C (tgt := 51) d_H_init_29 rfl (fun _ => ?_) (fun hb => absurd (by decide) hb)
      refine GK.eqN (N' := 42) (st' := []) (by omega) rfl ?_
      have hT : ∀ i, 0 < i → i < 42 → E i = TI tc z i := fun i h0 hi => by
        by_cases q : i = 5
        · subst q; exact hA.trans rfl
        · exact hT i h0 (by omega) q
      refine bk_aload_n C d_H_init_51 rfl ?_
      refine bk_iconst C (v := 4) d_H_init_52 (by decide) ?_
      refine bk_newq C (N0 := 4) (t0 := 4) (cT := tc 4) w_48 C.2.2.2.2.2.2.2.2.1 rfl (by decide) (by decide) (by decide) (by first | decide | omega | (dsimp only; omega)) (by first | decide | omega | (dsimp only; omega)) d_H_init_53 ?_
      refine GK.eqN (N' := 43) (st' := [.ref (z + 42), .ref (z + 0)]) (by omega) rfl ?_
      refine bk_put C hin (j := 0) (ci := 7) (k := 3) (fs := [.ref (z + 1), .ref (z + 5), .int 0, .null, .null, .null, .null, .int 0, .null]) ft_H k_H n_H (by omega) (by first | (rw [va_up_ne _ _ (by omega), hK]; done) | (rw [va_up_ne _ _ (by omega), hK]; rfl)) rfl in_H (by decide) w_206 rfl (k_H 3 (by decide)) rfl rfl (Nat.le_of_ble_eq_true rfl) d_H_init_56 ?_
      refine bk_iconst C (v := 0) d_H_init_59 (by decide) ?_
      refine bk_istore_n C (lo' := [(1, .int 0), (0, .ref (z + 0))]) d_H_init_60 rfl (by decide) rfl ?_
      refine loop_tills 4 0 _ rfl (by first | (rw [va_up_self]; done) | (rw [va_up_self]; rfl)) (by rw [va_up_ne _ _ (by omega), va_up_self]; rfl) (fun i h0 hi hne => ?_)
      by_cases hold : i < 42
      · rw [va_up_ne _ _ (by omega), va_up_ne _ _ (by omega)]
        exact hT i h0 hold
      · omega
    | succ q ih =>
      intro r E hq hK hA hT
      refine bk_iload_n C d_H_init_26 rfl ?_
      refine bk_bipush C (v := 9) d_H_init_27 (by decide) ?_
      refine bk_icmp_ge C (tgt := 51) d_H_init_29 rfl (fun hb => absurd hb (nI_ge (b := 9) (by omega) (by decide))) (fun _ => ?_)
      refine bk_aload_n C d_H_init_32 rfl ?_
      refine bk_get C (j := 0) (ci := 7) (k := 1) (fs := [.ref (z + 1), .ref (z + 5), .int 0, .null, .null, .null, .null, .int 0, .null]) (v := .ref (z + 5)) (by omega) (by first | (rw [hK]; done) | (rw [hK]; rfl)) rfl in_H (by decide) w_204 rfl d_H_init_33 ?_
      refine bk_iload_n C d_H_init_36 rfl ?_
      refine bk_new C (ci := 5) (fs := [.null, .null, .null]) ft_L k_L in_L w_27 w_28 w_2 rfl (fun j hj => by match j, hj with | 0, _ => rfl | 1, _ => rfl | 2, _ => rfl) (by first | decide | omega | (dsimp only; omega)) (by first | decide | omega | (dsimp only; omega)) d_H_init_37 ?_
      refine bk_dup C d_H_init_40 rfl ?_
      refine bk_call C (c_L_init l D tc z _ (N := 6 + 4 * r + 1) (k := 6 + 4 * r) (by omega) (by first | (rw [va_up_self]; done) | (rw [va_up_self]; rfl))) rfl w_29 w_30 w_31 w_2 ⟨by decide, by decide, (by decide +kernel)⟩ ⟨by decide, by decide⟩ ⟨(by first | decide | omega | (dsimp only; omega)), (by first | decide | omega | (dsimp only; omega))⟩ (Nat.le_of_ble_eq_true rfl) d_H_init_41 (fun E1 hc1 => ?_)
      refine GK.eqN (N' := 6 + 4 * r + 4) (st' := [.ref (z + (6 + 4 * r)), .int (nI r), .ref (z + 5)]) (by omega) rfl ?_
      refine bk_aast C (ja := 5) (jv := 6 + 4 * r) (a := r) (n := 9) (t0 := 3) (ci := 5) (cT := tc 3) (r := (R_L, T_L, 3)) (vs := [.ref (z + (6 + 4 * r + 1)), .ref (z + (6 + 4 * r + 2)), .ref (z + (6 + 4 * r + 3))]) (f := fun j => if j < r then some (z + (6 + 4 * j)) else none) (by omega) (by omega) (by first | (rw [hc1.2.2.2.2 _ (by omega) (by omega), va_up_ne _ _ (by omega), hA]; done) | (rw [hc1.2.2.2.2 _ (by omega) (by omega), va_up_ne _ _ (by omega), hA]; rfl)) (by first | (rw [hc1.1]; done) | (rw [hc1.1]; rfl)) rfl rfl rfl (by omega) (by decide) d_H_init_44 ?_
      refine bk_iinc C (k := 0) (w := nI (r + 1)) (lo' := [(1, .int (nI (r + 1))), (0, .ref (z + 0))]) d_H_init_45 rfl (nI_1 r) (by decide) rfl ?_
      refine bk_goto C (tgt := 26) d_H_init_48 rfl ?_
      refine GK.wide (k := 5 + 4 * (r + 1)) (n := 52 + 43 * (r + 1)) (by dsimp only; omega) (by dsimp only; omega) ?_
      refine GK.eqN (N' := 6 + 4 * (r + 1)) (st' := []) (by omega) rfl ?_
      refine ih (r + 1) _ (by omega) (by rw [va_up_ne _ _ (by omega), hc1.2.2.2.2 _ (by omega) (by omega), va_up_ne _ _ (by omega)]; exact hK) (by rw [va_up_self, k_arrN]) (fun i h0 hi hne => ?_)
      by_cases hold : i < 6 + 4 * r
      · rw [va_up_ne _ _ (by omega), hc1.2.2.2.2 _ (by omega) (by omega), va_up_ne _ _ (by omega)]
        exact hT i h0 hold hne
      · have hcase : i = 6 + 4 * r ∨ i = 6 + 4 * r + 1 ∨ i = 6 + 4 * r + 2 ∨ i = 6 + 4 * r + 3 := by omega
        obtain ⟨e0, e1, e2, e3⟩ := ti_L0 (tc := tc) (z := z) (r := r) (by omega)
        rcases hcase with rfl | rfl | rfl | rfl
        · rw [va_up_ne _ _ (by omega), hc1.1, e0]
        · rw [va_up_ne _ _ (by omega), hc1.2.1, e1]
        · rw [va_up_ne _ _ (by omega), hc1.2.2.1, e2]
        · rw [va_up_ne _ _ (by omega), hc1.2.2.2.1, e3]
  refine bk_aload_n C d_H_init_0 rfl ?_
  refine bk_obj C w_24 w_25 w_26 d_H_init_1 (by decide) (by decide) ?_
  refine bk_aload_n C d_H_init_4 rfl ?_
  refine bk_new C (ci := 5) (fs := [.null, .null, .null]) ft_L k_L in_L w_27 w_28 w_2 rfl (fun j hj => by match j, hj with | 0, _ => rfl | 1, _ => rfl | 2, _ => rfl) (by first | decide | omega | (dsimp only; omega)) (by first | decide | omega | (dsimp only; omega)) d_H_init_5 ?_
  refine GK.eqN (N' := 2) (st' := [.ref (z + 1), .ref (z + 0)]) (by omega) rfl ?_
  refine bk_dup C d_H_init_8 rfl ?_
  refine bk_call C (c_L_init l D tc z _ (N := 2) (k := 1) (by omega) (by first | (rw [va_up_self]; done) | (rw [va_up_self]; rfl))) rfl w_29 w_30 w_31 w_2 ⟨by decide, by decide, (by decide +kernel)⟩ ⟨by decide, by decide⟩ ⟨(by first | decide | omega | (dsimp only; omega)), (by first | decide | omega | (dsimp only; omega))⟩ (Nat.le_of_ble_eq_true rfl) d_H_init_9 (fun E1 hc1 => ?_)
  refine GK.eqN (N' := 5) (st' := [.ref (z + 1), .ref (z + 0)]) (by omega) rfl ?_
  refine bk_put C hin (j := 0) (ci := 7) (k := 0) (fs := [.null, .null, .int 0, .null, .null, .null, .null, .int 0, .null]) ft_H k_H n_H (by omega) (by first | (rw [hc1.2.2.2.2 _ (by omega) (by omega), va_up_ne _ _ (by omega), hE]; done) | (rw [hc1.2.2.2.2 _ (by omega) (by omega), va_up_ne _ _ (by omega), hE]; rfl)) rfl in_H (by decide) w_203 rfl (k_H 0 (by decide)) rfl rfl (Nat.le_of_ble_eq_true rfl) d_H_init_12 ?_
  refine bk_aload_n C d_H_init_15 rfl ?_
  refine bk_bipush C (v := 9) d_H_init_16 (by decide) ?_
  refine bk_newq C (N0 := 9) (t0 := 3) (cT := tc 3) w_27 C.2.2.2.2.2.2.2.1 rfl (by decide) (by decide) (by decide) (by first | decide | omega | (dsimp only; omega)) (by first | decide | omega | (dsimp only; omega)) d_H_init_18 ?_
  refine GK.eqN (N' := 6) (st' := [.ref (z + 5), .ref (z + 0)]) (by omega) rfl ?_
  refine bk_put C hin (j := 0) (ci := 7) (k := 1) (fs := [.ref (z + 1), .null, .int 0, .null, .null, .null, .null, .int 0, .null]) ft_H k_H n_H (by omega) (by first | (rw [va_up_ne _ _ (by omega), va_up_self]; done) | (rw [va_up_ne _ _ (by omega), va_up_self]; rfl)) rfl in_H (by decide) w_204 rfl (k_H 1 (by decide)) rfl rfl (Nat.le_of_ble_eq_true rfl) d_H_init_21 ?_
  refine bk_iconst C (v := 0) d_H_init_24 (by decide) ?_
  refine bk_istore_n C (lo' := [(1, .int 0), (0, .ref (z + 0))]) d_H_init_25 rfl (by decide) rfl ?_
  refine loop_books 9 0 _ rfl (by first | (rw [va_up_self]; done) | (rw [va_up_self]; rfl)) (by rw [va_up_ne _ _ (by omega), va_up_self]; rfl) (fun i h0 hi hne => ?_)
  have hcase : i = 1 ∨ i = 2 ∨ i = 3 ∨ i = 4 := by omega
  rcases hcase with rfl | rfl | rfl | rfl
  · rw [va_up_ne _ _ (by omega), va_up_ne _ _ (by omega), va_up_ne _ _ (by omega), hc1.1]; rfl
  · rw [va_up_ne _ _ (by omega), va_up_ne _ _ (by omega), va_up_ne _ _ (by omega), hc1.2.1]; rfl
  · rw [va_up_ne _ _ (by omega), va_up_ne _ _ (by omega), va_up_ne _ _ (by omega), hc1.2.2.1]; rfl
  · rw [va_up_ne _ _ (by omega), va_up_ne _ _ (by omega), va_up_ne _ _ (by omega), hc1.2.2.2.1]; rfl
