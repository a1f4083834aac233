/-! The constructors -/
abbrev kty (tc : Nat → ClassId) : List (ClassId × FieldType) := [(tc 0, .int), (tc 1, .long), (tc 2, .boolean), (tc 3, .object "PriceHouse$PriceList"), (tc 4, .object "PriceHouse$Till"), (tc 5, .object "PriceHouse$Note"), (tc 6, .object "PriceHouse$Basket")]

theorem d_C_init_0 : decode b_C_init 0 = .ok (.aload_n 0, 1) := by decide +kernel
theorem d_C_init_1 : decode b_C_init 1 = .ok (.invokespecial 1, 3) := by decide +kernel
theorem d_C_init_4 : decode b_C_init 4 = .ok (.aload_n 0, 1) := by decide +kernel
theorem d_C_init_5 : decode b_C_init 5 = .ok (.bipush 100, 2) := by decide +kernel
theorem d_C_init_7 : decode b_C_init 7 = .ok (.putfield 7, 3) := by decide +kernel
theorem d_C_init_10 : decode b_C_init 10 = .ok (.return_, 1) := by decide +kernel

set_option maxHeartbeats 400000 in
set_option maxRecDepth 100000 in
theorem c_C_init (l : Launch) (D : va_G) (tc : Nat → ClassId) (z : Nat) (E : Nat → va_E) {N k : Nat} (hk : k < N) (hE : E k = .inr (1, [.int 0, .int 0])) : CK l y_C_init { frames := 1, cells := 0, slots := 0, locals := 60 } D (kty tc) z [.ref (z + k)] N E (N + 0) (fun E' => E' k = .inr (1, [.int 0, .int 100]) ∧ ∀ i, i < N → i ≠ k → E' i = E i) := by
  refine CK.of (cc := b_C_init) (maxL := 1) (by decide) rfl w_59 (Nat.le_of_ble_eq_true rfl) ?_
  intro p e s m below meth c C hr hin
  refine bk_aload_n C d_C_init_0 rfl ?_
  refine bk_obj C w_60 w_25 w_26 d_C_init_1 (by decide) (by decide) ?_
  refine bk_aload_n C d_C_init_4 rfl ?_
  refine bk_bipush C (v := 100) d_C_init_5 (by decide) ?_
  refine bk_put C hin (j := k) (ci := 1) (k := 1) (fs := [.int 0, .int 0]) ft_C k_C n_C (by omega) (by first | (rw [hE]; done) | (rw [hE]; rfl)) rfl in_C (by decide) w_62 rfl (k_C 1 (by decide)) rfl rfl (Nat.le_of_ble_eq_true rfl) d_C_init_7 ?_
  exact bk_ret C hr (by decide) (by decide) d_C_init_10 ⟨(by first | (rw [va_up_self]; done) | (rw [va_up_self]; rfl)), (fun i hi hik => by rw [va_up_ne _ _ (by omega)])⟩

theorem d_N_init_0 : decode b_N_init 0 = .ok (.aload_n 0, 1) := by decide +kernel
theorem d_N_init_1 : decode b_N_init 1 = .ok (.invokespecial 3, 3) := by decide +kernel
theorem d_N_init_4 : decode b_N_init 4 = .ok (.return_, 1) := by decide +kernel

set_option maxHeartbeats 400000 in
set_option maxRecDepth 100000 in
theorem c_N_init (l : Launch) (D : va_G) (tc : Nat → ClassId) (z : Nat) (E : Nat → va_E) {N k : Nat} (hk : k < N) (hE : E k = .inr (4, [.int 0, .int 0, .int 0, .int 0, .int 0])) : CK l y_N_init { frames := 1, cells := 0, slots := 0, locals := 60 } D (kty tc) z [.ref (z + k)] N E (N + 0) (fun E' => ∀ i, i < N → i < N → E' i = E i) := by
  refine CK.of (cc := b_N_init) (maxL := 1) (by decide) rfl w_112 (Nat.le_of_ble_eq_true rfl) ?_
  intro p e s m below meth c C hr hin
  refine bk_aload_n C d_N_init_0 rfl ?_
  refine bk_obj C w_113 w_25 w_26 d_N_init_1 (by decide) (by decide) ?_
  exact bk_ret C hr (by decide) (by decide) d_N_init_4 (fun i hi hik => by rfl)

theorem d_L_init_0 : decode b_L_init 0 = .ok (.aload_n 0, 1) := by decide +kernel
theorem d_L_init_1 : decode b_L_init 1 = .ok (.invokespecial 3, 3) := by decide +kernel
theorem d_L_init_4 : decode b_L_init 4 = .ok (.aload_n 0, 1) := by decide +kernel
theorem d_L_init_5 : decode b_L_init 5 = .ok (.bipush 8, 2) := by decide +kernel
theorem d_L_init_7 : decode b_L_init 7 = .ok (.newarray .int, 2) := by decide +kernel
theorem d_L_init_9 : decode b_L_init 9 = .ok (.putfield 9, 3) := by decide +kernel
theorem d_L_init_12 : decode b_L_init 12 = .ok (.aload_n 0, 1) := by decide +kernel
theorem d_L_init_13 : decode b_L_init 13 = .ok (.bipush 16, 2) := by decide +kernel
theorem d_L_init_15 : decode b_L_init 15 = .ok (.newarray .int, 2) := by decide +kernel
theorem d_L_init_17 : decode b_L_init 17 = .ok (.putfield 15, 3) := by decide +kernel
theorem d_L_init_20 : decode b_L_init 20 = .ok (.aload_n 0, 1) := by decide +kernel
theorem d_L_init_21 : decode b_L_init 21 = .ok (.bipush 16, 2) := by decide +kernel
theorem d_L_init_23 : decode b_L_init 23 = .ok (.newarray .int, 2) := by decide +kernel
theorem d_L_init_25 : decode b_L_init 25 = .ok (.putfield 18, 3) := by decide +kernel
theorem d_L_init_28 : decode b_L_init 28 = .ok (.return_, 1) := by decide +kernel

set_option maxHeartbeats 400000 in
set_option maxRecDepth 100000 in
theorem c_L_init (l : Launch) (D : va_G) (tc : Nat → ClassId) (z : Nat) (E : Nat → va_E) {N k : Nat} (hk : k < N) (hE : E k = .inr (5, [.null, .null, .null])) : CK l y_L_init { frames := 1, cells := 3, slots := 40, locals := 60 } D (kty tc) z [.ref (z + k)] N E (N + 3) (fun E' => E' k = .inr (5, [.ref (z + N), .ref (z + (N + 1)), .ref (z + (N + 2))]) ∧ E' N = .inl (tc 0, 8, .inl (fun _ => 0)) ∧ E' (N + 1) = .inl (tc 0, 16, .inl (fun _ => 0)) ∧ E' (N + 2) = .inl (tc 0, 16, .inl (fun _ => 0)) ∧ ∀ i, i < N → i ≠ k → E' i = E i) := by
  refine CK.of (cc := b_L_init) (maxL := 1) (by decide) rfl w_31 (Nat.le_of_ble_eq_true rfl) ?_
  intro p e s m below meth c C hr hin
  refine bk_aload_n C d_L_init_0 rfl ?_
  refine bk_obj C w_32 w_25 w_26 d_L_init_1 (by decide) (by decide) ?_
  refine bk_aload_n C d_L_init_4 rfl ?_
  refine bk_bipush C (v := 8) d_L_init_5 (by decide) ?_
  refine bk_newa C (atype := .int) (ty := .int) (a0 := (8, .inl (fun _ => 0))) (N0 := 8) (t0 := 0) (cT := tc 0) rfl w_46 rfl (fun _ h => h) (fun _ => rfl) (by decide) (by decide) (by decide) (by first | decide | omega | (dsimp only; omega)) (by first | decide | omega | (dsimp only; omega)) d_L_init_7 ?_
  refine bk_put C hin (j := k) (ci := 5) (k := 0) (fs := [.null, .null, .null]) ft_L k_L n_L (by omega) (by first | (rw [va_up_ne _ _ (by omega), hE]; done) | (rw [va_up_ne _ _ (by omega), hE]; rfl)) rfl in_L (by decide) w_33 rfl (k_L 0 (by decide)) rfl rfl (Nat.le_of_ble_eq_true rfl) d_L_init_9 ?_
  refine bk_aload_n C d_L_init_12 rfl ?_
  refine bk_bipush C (v := 16) d_L_init_13 (by decide) ?_
  refine bk_newa C (atype := .int) (ty := .int) (a0 := (16, .inl (fun _ => 0))) (N0 := 16) (t0 := 0) (cT := tc 0) rfl w_46 rfl (fun _ h => h) (fun _ => rfl) (by decide) (by decide) (by decide) (by first | decide | omega | (dsimp only; omega)) (by first | decide | omega | (dsimp only; omega)) d_L_init_15 ?_
  refine GK.eqN (N' := N + 2) (st' := [.ref (z + (N + 1)), .ref (z + k)]) (by omega) rfl ?_
  refine bk_put C hin (j := k) (ci := 5) (k := 1) (fs := [.ref (z + N), .null, .null]) ft_L k_L n_L (by omega) (by first | (rw [va_up_ne _ _ (by omega), va_up_self]; done) | (rw [va_up_ne _ _ (by omega), va_up_self]; rfl)) rfl in_L (by decide) w_35 rfl (k_L 1 (by decide)) rfl rfl (Nat.le_of_ble_eq_true rfl) d_L_init_17 ?_
  refine bk_aload_n C d_L_init_20 rfl ?_
  refine bk_bipush C (v := 16) d_L_init_21 (by decide) ?_
  refine bk_newa C (atype := .int) (ty := .int) (a0 := (16, .inl (fun _ => 0))) (N0 := 16) (t0 := 0) (cT := tc 0) rfl w_46 rfl (fun _ h => h) (fun _ => rfl) (by decide) (by decide) (by decide) (by first | decide | omega | (dsimp only; omega)) (by first | decide | omega | (dsimp only; omega)) d_L_init_23 ?_
  refine GK.eqN (N' := N + 3) (st' := [.ref (z + (N + 2)), .ref (z + k)]) (by omega) rfl ?_
  refine bk_put C hin (j := k) (ci := 5) (k := 2) (fs := [.ref (z + N), .ref (z + (N + 1)), .null]) ft_L k_L n_L (by omega) (by first | (rw [va_up_ne _ _ (by omega), va_up_self]; done) | (rw [va_up_ne _ _ (by omega), va_up_self]; rfl)) rfl in_L (by decide) w_37 rfl (k_L 2 (by decide)) rfl rfl (Nat.le_of_ble_eq_true rfl) d_L_init_25 ?_
  exact bk_ret C hr (by decide) (by decide) d_L_init_28 ⟨(by first | (rw [va_up_self]; done) | (rw [va_up_self]; rfl)), (by first | (rw [va_up_ne _ _ (by omega), va_up_ne _ _ (by omega), va_up_ne _ _ (by omega), va_up_ne _ _ (by omega), va_up_ne _ _ (by omega), va_up_self]; done) | (rw [va_up_ne _ _ (by omega), va_up_ne _ _ (by omega), va_up_ne _ _ (by omega), va_up_ne _ _ (by omega), va_up_ne _ _ (by omega), va_up_self]; rfl)), (by first | (rw [va_up_ne _ _ (by omega), va_up_ne _ _ (by omega), va_up_ne _ _ (by omega), va_up_self]; done) | (rw [va_up_ne _ _ (by omega), va_up_ne _ _ (by omega), va_up_ne _ _ (by omega), va_up_self]; rfl)), (by first | (rw [va_up_ne _ _ (by omega), va_up_self]; done) | (rw [va_up_ne _ _ (by omega), va_up_self]; rfl)), (fun i hi hik => by rw [va_up_ne _ _ (by omega), va_up_ne _ _ (by omega), va_up_ne _ _ (by omega), va_up_ne _ _ (by omega), va_up_ne _ _ (by omega), va_up_ne _ _ (by omega)])⟩

theorem d_B_init_0 : decode b_B_init 0 = .ok (.aload_n 0, 1) := by decide +kernel
theorem d_B_init_1 : decode b_B_init 1 = .ok (.invokespecial 3, 3) := by decide +kernel
theorem d_B_init_4 : decode b_B_init 4 = .ok (.aload_n 0, 1) := by decide +kernel
theorem d_B_init_5 : decode b_B_init 5 = .ok (.bipush 8, 2) := by decide +kernel
theorem d_B_init_7 : decode b_B_init 7 = .ok (.newarray .int, 2) := by decide +kernel
theorem d_B_init_9 : decode b_B_init 9 = .ok (.putfield 9, 3) := by decide +kernel
theorem d_B_init_12 : decode b_B_init 12 = .ok (.return_, 1) := by decide +kernel

set_option maxHeartbeats 400000 in
set_option maxRecDepth 100000 in
theorem c_B_init (l : Launch) (D : va_G) (tc : Nat → ClassId) (z : Nat) (E : Nat → va_E) {N k : Nat} (hk : k < N) (hE : E k = .inr (0, [.int 0, .int 0, .int 0, .null])) : CK l y_B_init { frames := 1, cells := 1, slots := 8, locals := 60 } D (kty tc) z [.ref (z + k)] N E (N + 1) (fun E' => E' k = .inr (0, [.int 0, .int 0, .int 0, .ref (z + N)]) ∧ E' N = .inl (tc 0, 8, .inl (fun _ => 0)) ∧ ∀ i, i < N → i ≠ k → E' i = E i) := by
  refine CK.of (cc := b_B_init) (maxL := 1) (by decide) rfl w_184 (Nat.le_of_ble_eq_true rfl) ?_
  intro p e s m below meth c C hr hin
  refine bk_aload_n C d_B_init_0 rfl ?_
  refine bk_obj C w_185 w_25 w_26 d_B_init_1 (by decide) (by decide) ?_
  refine bk_aload_n C d_B_init_4 rfl ?_
  refine bk_bipush C (v := 8) d_B_init_5 (by decide) ?_
  refine bk_newa C (atype := .int) (ty := .int) (a0 := (8, .inl (fun _ => 0))) (N0 := 8) (t0 := 0) (cT := tc 0) rfl w_46 rfl (fun _ h => h) (fun _ => rfl) (by decide) (by decide) (by decide) (by first | decide | omega | (dsimp only; omega)) (by first | decide | omega | (dsimp only; omega)) d_B_init_7 ?_
  refine bk_put C hin (j := k) (ci := 0) (k := 3) (fs := [.int 0, .int 0, .int 0, .null]) ft_B k_B n_B (by omega) (by first | (rw [va_up_ne _ _ (by omega), hE]; done) | (rw [va_up_ne _ _ (by omega), hE]; rfl)) rfl in_B (by decide) w_192 rfl (k_B 3 (by decide)) rfl rfl (Nat.le_of_ble_eq_true rfl) d_B_init_9 ?_
  exact bk_ret C hr (by decide) (by decide) d_B_init_12 ⟨(by first | (rw [va_up_self]; done) | (rw [va_up_self]; rfl)), (by first | (rw [va_up_ne _ _ (by omega), va_up_self]; done) | (rw [va_up_ne _ _ (by omega), va_up_self]; rfl)), (fun i hi hik => by rw [va_up_ne _ _ (by omega), va_up_ne _ _ (by omega)])⟩

theorem d_T_init_0 : decode b_T_init 0 = .ok (.aload_n 0, 1) := by decide +kernel
theorem d_T_init_1 : decode b_T_init 1 = .ok (.invokespecial 3, 3) := by decide +kernel
theorem d_T_init_4 : decode b_T_init 4 = .ok (.aload_n 0, 1) := by decide +kernel
theorem d_T_init_5 : decode b_T_init 5 = .ok (.new 9, 3) := by decide +kernel
theorem d_T_init_8 : decode b_T_init 8 = .ok (.dup, 1) := by decide +kernel
theorem d_T_init_9 : decode b_T_init 9 = .ok (.invokespecial 11, 3) := by decide +kernel
theorem d_T_init_12 : decode b_T_init 12 = .ok (.putfield 12, 3) := by decide +kernel
theorem d_T_init_15 : decode b_T_init 15 = .ok (.return_, 1) := by decide +kernel

set_option maxHeartbeats 400000 in
set_option maxRecDepth 100000 in
theorem c_T_init (l : Launch) (D : va_G) (tc : Nat → ClassId) (z : Nat) (E : Nat → va_E) {N k : Nat} (hk : k < N) (hE : E k = .inr (6, [.null, .int 0, .int 0, .int 0, .int 0, .int 0, .int 0, .int 0])) : CK l y_T_init { frames := 2, cells := 1, slots := 2, locals := 80 } D (kty tc) z [.ref (z + k)] N E (N + 1) (fun E' => E' k = .inr (6, [.ref (z + N), .int 0, .int 0, .int 0, .int 0, .int 0, .int 0, .int 0]) ∧ E' N = .inr (1, [.int 0, .int 100]) ∧ ∀ i, i < N → i ≠ k → E' i = E i) := by
  refine CK.of (cc := b_T_init) (maxL := 1) (by decide) rfl w_53 (Nat.le_of_ble_eq_true rfl) ?_
  intro p e s m below meth c C hr hin
  refine bk_aload_n C d_T_init_0 rfl ?_
  refine bk_obj C w_54 w_25 w_26 d_T_init_1 (by decide) (by decide) ?_
  refine bk_aload_n C d_T_init_4 rfl ?_
  refine bk_new C (ci := 1) (fs := [.int 0, .int 0]) ft_C k_C in_C w_55 w_56 w_4 rfl (fun j hj => by match j, hj with | 0, _ => rfl | 1, _ => rfl) (by first | decide | omega | (dsimp only; omega)) (by first | decide | omega | (dsimp only; omega)) d_T_init_5 ?_
  refine bk_dup C d_T_init_8 rfl ?_
  refine bk_call C (c_C_init l D tc z _ (N := N + 1) (k := N) (by omega) (by first | (rw [va_up_self]; done) | (rw [va_up_self]; rfl))) rfl w_57 w_58 w_59 w_4 ⟨by decide, by decide, (by decide +kernel)⟩ ⟨by decide, by decide⟩ ⟨(by first | decide | omega | (dsimp only; omega)), (by first | decide | omega | (dsimp only; omega))⟩ (Nat.le_of_ble_eq_true rfl) d_T_init_9 (fun E1 hc1 => ?_)
  refine bk_put C hin (j := k) (ci := 6) (k := 0) (fs := [.null, .int 0, .int 0, .int 0, .int 0, .int 0, .int 0, .int 0]) ft_T k_T n_T (by omega) (by first | (rw [hc1.2 _ (by omega) (by omega), va_up_ne _ _ (by omega), hE]; done) | (rw [hc1.2 _ (by omega) (by omega), va_up_ne _ _ (by omega), hE]; rfl)) rfl in_T (by decide) w_69 rfl (k_T 0 (by decide)) rfl rfl (Nat.le_of_ble_eq_true rfl) d_T_init_12 ?_
  exact bk_ret C hr (by decide) (by decide) d_T_init_15 ⟨(by first | (rw [va_up_self]; done) | (rw [va_up_self]; rfl)), (by first | (rw [va_up_ne _ _ (by omega), hc1.1]; done) | (rw [va_up_ne _ _ (by omega), hc1.1]; rfl)), (fun i hi hik => by rw [va_up_ne _ _ (by omega), hc1.2 _ (by omega) (by omega), va_up_ne _ _ (by omega)])⟩

theorem d_R_init_0 : decode b_R_init 0 = .ok (.aload_n 0, 1) := by decide +kernel
theorem d_R_init_1 : decode b_R_init 1 = .ok (.invokespecial 3, 3) := by decide +kernel
theorem d_R_init_4 : decode b_R_init 4 = .ok (.aload_n 0, 1) := by decide +kernel
theorem d_R_init_5 : decode b_R_init 5 = .ok (.bipush 40, 2) := by decide +kernel
theorem d_R_init_7 : decode b_R_init 7 = .ok (.newarray .int, 2) := by decide +kernel
theorem d_R_init_9 : decode b_R_init 9 = .ok (.putfield 9, 3) := by decide +kernel
theorem d_R_init_12 : decode b_R_init 12 = .ok (.aload_n 0, 1) := by decide +kernel
theorem d_R_init_13 : decode b_R_init 13 = .ok (.bipush 40, 2) := by decide +kernel
theorem d_R_init_15 : decode b_R_init 15 = .ok (.newarray .int, 2) := by decide +kernel
theorem d_R_init_17 : decode b_R_init 17 = .ok (.putfield 15, 3) := by decide +kernel
theorem d_R_init_20 : decode b_R_init 20 = .ok (.aload_n 0, 1) := by decide +kernel
theorem d_R_init_21 : decode b_R_init 21 = .ok (.bipush 40, 2) := by decide +kernel
theorem d_R_init_23 : decode b_R_init 23 = .ok (.newarray .int, 2) := by decide +kernel
theorem d_R_init_25 : decode b_R_init 25 = .ok (.putfield 18, 3) := by decide +kernel
theorem d_R_init_28 : decode b_R_init 28 = .ok (.aload_n 0, 1) := by decide +kernel
theorem d_R_init_29 : decode b_R_init 29 = .ok (.bipush 40, 2) := by decide +kernel
theorem d_R_init_31 : decode b_R_init 31 = .ok (.newarray .int, 2) := by decide +kernel
theorem d_R_init_33 : decode b_R_init 33 = .ok (.putfield 21, 3) := by decide +kernel
theorem d_R_init_36 : decode b_R_init 36 = .ok (.return_, 1) := by decide +kernel

set_option maxHeartbeats 400000 in
set_option maxRecDepth 100000 in
theorem c_R_init (l : Launch) (D : va_G) (tc : Nat → ClassId) (z : Nat) (E : Nat → va_E) {N k : Nat} (hk : k < N) (hE : E k = .inr (3, [.null, .null, .null, .null, .int 0])) : CK l y_R_init { frames := 1, cells := 4, slots := 160, locals := 60 } D (kty tc) z [.ref (z + k)] N E (N + 4) (fun E' => E' k = .inr (3, [.ref (z + N), .ref (z + (N + 1)), .ref (z + (N + 2)), .ref (z + (N + 3)), .int 0]) ∧ E' N = .inl (tc 0, 40, .inl (fun _ => 0)) ∧ E' (N + 1) = .inl (tc 0, 40, .inl (fun _ => 0)) ∧ E' (N + 2) = .inl (tc 0, 40, .inl (fun _ => 0)) ∧ E' (N + 3) = .inl (tc 0, 40, .inl (fun _ => 0)) ∧ ∀ i, i < N → i ≠ k → E' i = E i) := by
  refine CK.of (cc := b_R_init) (maxL := 1) (by decide) rfl w_156 (Nat.le_of_ble_eq_true rfl) ?_
  intro p e s m below meth c C hr hin
  refine bk_aload_n C d_R_init_0 rfl ?_
  refine bk_obj C w_157 w_25 w_26 d_R_init_1 (by decide) (by decide) ?_
  refine bk_aload_n C d_R_init_4 rfl ?_
  refine bk_bipush C (v := 40) d_R_init_5 (by decide) ?_
  refine bk_newa C (atype := .int) (ty := .int) (a0 := (40, .inl (fun _ => 0))) (N0 := 40) (t0 := 0) (cT := tc 0) rfl w_46 rfl (fun _ h => h) (fun _ => rfl) (by decide) (by decide) (by decide) (by first | decide | omega | (dsimp only; omega)) (by first | decide | omega | (dsimp only; omega)) d_R_init_7 ?_
  refine bk_put C hin (j := k) (ci := 3) (k := 0) (fs := [.null, .null, .null, .null, .int 0]) ft_R k_R n_R (by omega) (by first | (rw [va_up_ne _ _ (by omega), hE]; done) | (rw [va_up_ne _ _ (by omega), hE]; rfl)) rfl in_R (by decide) w_158 rfl (k_R 0 (by decide)) rfl rfl (Nat.le_of_ble_eq_true rfl) d_R_init_9 ?_
  refine bk_aload_n C d_R_init_12 rfl ?_
  refine bk_bipush C (v := 40) d_R_init_13 (by decide) ?_
  refine bk_newa C (atype := .int) (ty := .int) (a0 := (40, .inl (fun _ => 0))) (N0 := 40) (t0 := 0) (cT := tc 0) rfl w_46 rfl (fun _ h => h) (fun _ => rfl) (by decide) (by decide) (by decide) (by first | decide | omega | (dsimp only; omega)) (by first | decide | omega | (dsimp only; omega)) d_R_init_15 ?_
  refine GK.eqN (N' := N + 2) (st' := [.ref (z + (N + 1)), .ref (z + k)]) (by omega) rfl ?_
  refine bk_put C hin (j := k) (ci := 3) (k := 1) (fs := [.ref (z + N), .null, .null, .null, .int 0]) ft_R k_R n_R (by omega) (by first | (rw [va_up_ne _ _ (by omega), va_up_self]; done) | (rw [va_up_ne _ _ (by omega), va_up_self]; rfl)) rfl in_R (by decide) w_160 rfl (k_R 1 (by decide)) rfl rfl (Nat.le_of_ble_eq_true rfl) d_R_init_17 ?_
  refine bk_aload_n C d_R_init_20 rfl ?_
  refine bk_bipush C (v := 40) d_R_init_21 (by decide) ?_
  refine bk_newa C (atype := .int) (ty := .int) (a0 := (40, .inl (fun _ => 0))) (N0 := 40) (t0 := 0) (cT := tc 0) rfl w_46 rfl (fun _ h => h) (fun _ => rfl) (by decide) (by decide) (by decide) (by first | decide | omega | (dsimp only; omega)) (by first | decide | omega | (dsimp only; omega)) d_R_init_23 ?_
  refine GK.eqN (N' := N + 3) (st' := [.ref (z + (N + 2)), .ref (z + k)]) (by omega) rfl ?_
  refine bk_put C hin (j := k) (ci := 3) (k := 2) (fs := [.ref (z + N), .ref (z + (N + 1)), .null, .null, .int 0]) ft_R k_R n_R (by omega) (by first | (rw [va_up_ne _ _ (by omega), va_up_self]; done) | (rw [va_up_ne _ _ (by omega), va_up_self]; rfl)) rfl in_R (by decide) w_162 rfl (k_R 2 (by decide)) rfl rfl (Nat.le_of_ble_eq_true rfl) d_R_init_25 ?_
  refine bk_aload_n C d_R_init_28 rfl ?_
  refine bk_bipush C (v := 40) d_R_init_29 (by decide) ?_
  refine bk_newa C (atype := .int) (ty := .int) (a0 := (40, .inl (fun _ => 0))) (N0 := 40) (t0 := 0) (cT := tc 0) rfl w_46 rfl (fun _ h => h) (fun _ => rfl) (by decide) (by decide) (by decide) (by first | decide | omega | (dsimp only; omega)) (by first | decide | omega | (dsimp only; omega)) d_R_init_31 ?_
  refine GK.eqN (N' := N + 4) (st' := [.ref (z + (N + 3)), .ref (z + k)]) (by omega) rfl ?_
  refine bk_put C hin (j := k) (ci := 3) (k := 3) (fs := [.ref (z + N), .ref (z + (N + 1)), .ref (z + (N + 2)), .null, .int 0]) ft_R k_R n_R (by omega) (by first | (rw [va_up_ne _ _ (by omega), va_up_self]; done) | (rw [va_up_ne _ _ (by omega), va_up_self]; rfl)) rfl in_R (by decide) w_164 rfl (k_R 3 (by decide)) rfl rfl (Nat.le_of_ble_eq_true rfl) d_R_init_33 ?_
  exact bk_ret C hr (by decide) (by decide) d_R_init_36 ⟨(by first | (rw [va_up_self]; done) | (rw [va_up_self]; rfl)), (by first | (rw [va_up_ne _ _ (by omega), va_up_ne _ _ (by omega), va_up_ne _ _ (by omega), va_up_ne _ _ (by omega), va_up_ne _ _ (by omega), va_up_ne _ _ (by omega), va_up_ne _ _ (by omega), va_up_self]; done) | (rw [va_up_ne _ _ (by omega), va_up_ne _ _ (by omega), va_up_ne _ _ (by omega), va_up_ne _ _ (by omega), va_up_ne _ _ (by omega), va_up_ne _ _ (by omega), va_up_ne _ _ (by omega), va_up_self]; rfl)), (by first | (rw [va_up_ne _ _ (by omega), va_up_ne _ _ (by omega), va_up_ne _ _ (by omega), va_up_ne _ _ (by omega), va_up_ne _ _ (by omega), va_up_self]; done) | (rw [va_up_ne _ _ (by omega), va_up_ne _ _ (by omega), va_up_ne _ _ (by omega), va_up_ne _ _ (by omega), va_up_ne _ _ (by omega), va_up_self]; rfl)), (by first | (rw [va_up_ne _ _ (by omega), va_up_ne _ _ (by omega), va_up_ne _ _ (by omega), va_up_self]; done) | (rw [va_up_ne _ _ (by omega), va_up_ne _ _ (by omega), va_up_ne _ _ (by omega), va_up_self]; rfl)), (by first | (rw [va_up_ne _ _ (by omega), va_up_self]; done) | (rw [va_up_ne _ _ (by omega), va_up_self]; rfl)), (fun i hi hik => by rw [va_up_ne _ _ (by omega), va_up_ne _ _ (by omega), va_up_ne _ _ (by omega), va_up_ne _ _ (by omega), va_up_ne _ _ (by omega), va_up_ne _ _ (by omega), va_up_ne _ _ (by omega), va_up_ne _ _ (by omega)])⟩
