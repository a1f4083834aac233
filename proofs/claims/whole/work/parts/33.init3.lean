theorem d_M_init_0 : decode b_M_init 0 = .ok (.aload_n 0, 1) := by decide +kernel
theorem d_M_init_1 : decode b_M_init 1 = .ok (.invokespecial 1, 3) := by decide +kernel
theorem d_M_init_4 : decode b_M_init 4 = .ok (.aload_n 0, 1) := by decide +kernel
theorem d_M_init_5 : decode b_M_init 5 = .ok (.iconst 0, 1) := by decide +kernel
theorem d_M_init_6 : decode b_M_init 6 = .ok (.putfield 7, 3) := by decide +kernel
theorem d_M_init_9 : decode b_M_init 9 = .ok (.aload_n 0, 1) := by decide +kernel
theorem d_M_init_10 : decode b_M_init 10 = .ok (.iconst 0, 1) := by decide +kernel
theorem d_M_init_11 : decode b_M_init 11 = .ok (.putfield 13, 3) := by decide +kernel
theorem d_M_init_14 : decode b_M_init 14 = .ok (.aload_n 0, 1) := by decide +kernel
theorem d_M_init_15 : decode b_M_init 15 = .ok (.bipush 80, 2) := by decide +kernel
theorem d_M_init_17 : decode b_M_init 17 = .ok (.newarray .int, 2) := by decide +kernel
theorem d_M_init_19 : decode b_M_init 19 = .ok (.putfield 16, 3) := by decide +kernel
theorem d_M_init_22 : decode b_M_init 22 = .ok (.aload_n 0, 1) := by decide +kernel
theorem d_M_init_23 : decode b_M_init 23 = .ok (.sipush 160, 3) := by decide +kernel
theorem d_M_init_26 : decode b_M_init 26 = .ok (.newarray .int, 2) := by decide +kernel
theorem d_M_init_28 : decode b_M_init 28 = .ok (.putfield 20, 3) := by decide +kernel
theorem d_M_init_31 : decode b_M_init 31 = .ok (.aload_n 0, 1) := by decide +kernel
theorem d_M_init_32 : decode b_M_init 32 = .ok (.sipush 160, 3) := by decide +kernel
theorem d_M_init_35 : decode b_M_init 35 = .ok (.newarray .int, 2) := by decide +kernel
theorem d_M_init_37 : decode b_M_init 37 = .ok (.putfield 23, 3) := by decide +kernel
theorem d_M_init_40 : decode b_M_init 40 = .ok (.aload_n 0, 1) := by decide +kernel
theorem d_M_init_41 : decode b_M_init 41 = .ok (.iconst 5, 1) := by decide +kernel
theorem d_M_init_42 : decode b_M_init 42 = .ok (.newarray .int, 2) := by decide +kernel
theorem d_M_init_44 : decode b_M_init 44 = .ok (.putfield 26, 3) := by decide +kernel
theorem d_M_init_47 : decode b_M_init 47 = .ok (.aload_n 0, 1) := by decide +kernel
theorem d_M_init_48 : decode b_M_init 48 = .ok (.iconst 5, 1) := by decide +kernel
theorem d_M_init_49 : decode b_M_init 49 = .ok (.newarray .int, 2) := by decide +kernel
theorem d_M_init_51 : decode b_M_init 51 = .ok (.putfield 29, 3) := by decide +kernel
theorem d_M_init_54 : decode b_M_init 54 = .ok (.aload_n 0, 1) := by decide +kernel
theorem d_M_init_55 : decode b_M_init 55 = .ok (.iconst 4, 1) := by decide +kernel
theorem d_M_init_56 : decode b_M_init 56 = .ok (.newarray .int, 2) := by decide +kernel
theorem d_M_init_58 : decode b_M_init 58 = .ok (.putfield 32, 3) := by decide +kernel
theorem d_M_init_61 : decode b_M_init 61 = .ok (.aload_n 0, 1) := by decide +kernel
theorem d_M_init_62 : decode b_M_init 62 = .ok (.iconst 4, 1) := by decide +kernel
theorem d_M_init_63 : decode b_M_init 63 = .ok (.newarray .int, 2) := by decide +kernel
theorem d_M_init_65 : decode b_M_init 65 = .ok (.putfield 35, 3) := by decide +kernel
theorem d_M_init_68 : decode b_M_init 68 = .ok (.aload_n 0, 1) := by decide +kernel
theorem d_M_init_69 : decode b_M_init 69 = .ok (.iconst 4, 1) := by decide +kernel
theorem d_M_init_70 : decode b_M_init 70 = .ok (.newarray .int, 2) := by decide +kernel
theorem d_M_init_72 : decode b_M_init 72 = .ok (.putfield 38, 3) := by decide +kernel
theorem d_M_init_75 : decode b_M_init 75 = .ok (.aload_n 0, 1) := by decide +kernel
theorem d_M_init_76 : decode b_M_init 76 = .ok (.iconst 4, 1) := by decide +kernel
theorem d_M_init_77 : decode b_M_init 77 = .ok (.newarray .boolean, 2) := by decide +kernel
theorem d_M_init_79 : decode b_M_init 79 = .ok (.putfield 41, 3) := by decide +kernel
theorem d_M_init_82 : decode b_M_init 82 = .ok (.aload_n 0, 1) := by decide +kernel
theorem d_M_init_83 : decode b_M_init 83 = .ok (.iconst 4, 1) := by decide +kernel
theorem d_M_init_84 : decode b_M_init 84 = .ok (.newarray .int, 2) := by decide +kernel
theorem d_M_init_86 : decode b_M_init 86 = .ok (.putfield 45, 3) := by decide +kernel
theorem d_M_init_89 : decode b_M_init 89 = .ok (.aload_n 0, 1) := by decide +kernel
theorem d_M_init_90 : decode b_M_init 90 = .ok (.iconst 4, 1) := by decide +kernel
theorem d_M_init_91 : decode b_M_init 91 = .ok (.newarray .int, 2) := by decide +kernel
theorem d_M_init_93 : decode b_M_init 93 = .ok (.putfield 48, 3) := by decide +kernel
theorem d_M_init_96 : decode b_M_init 96 = .ok (.aload_n 0, 1) := by decide +kernel
theorem d_M_init_97 : decode b_M_init 97 = .ok (.iconst 0, 1) := by decide +kernel
theorem d_M_init_98 : decode b_M_init 98 = .ok (.putfield 51, 3) := by decide +kernel
theorem d_M_init_101 : decode b_M_init 101 = .ok (.aload_n 0, 1) := by decide +kernel
theorem d_M_init_102 : decode b_M_init 102 = .ok (.iconst 0, 1) := by decide +kernel
theorem d_M_init_103 : decode b_M_init 103 = .ok (.putfield 54, 3) := by decide +kernel
theorem d_M_init_106 : decode b_M_init 106 = .ok (.aload_n 0, 1) := by decide +kernel
theorem d_M_init_107 : decode b_M_init 107 = .ok (.iconst 0, 1) := by decide +kernel
theorem d_M_init_108 : decode b_M_init 108 = .ok (.putfield 57, 3) := by decide +kernel
theorem d_M_init_111 : decode b_M_init 111 = .ok (.aload_n 0, 1) := by decide +kernel
theorem d_M_init_112 : decode b_M_init 112 = .ok (.iconst 0, 1) := by decide +kernel
theorem d_M_init_113 : decode b_M_init 113 = .ok (.putfield 61, 3) := by decide +kernel
theorem d_M_init_116 : decode b_M_init 116 = .ok (.aload_n 0, 1) := by decide +kernel
theorem d_M_init_117 : decode b_M_init 117 = .ok (.iconst 4, 1) := by decide +kernel
theorem d_M_init_118 : decode b_M_init 118 = .ok (.newarray .int, 2) := by decide +kernel
theorem d_M_init_120 : decode b_M_init 120 = .ok (.putfield 64, 3) := by decide +kernel
theorem d_M_init_123 : decode b_M_init 123 = .ok (.aload_n 0, 1) := by decide +kernel
theorem d_M_init_124 : decode b_M_init 124 = .ok (.iconst 4, 1) := by decide +kernel
theorem d_M_init_125 : decode b_M_init 125 = .ok (.newarray .boolean, 2) := by decide +kernel
theorem d_M_init_127 : decode b_M_init 127 = .ok (.putfield 67, 3) := by decide +kernel
theorem d_M_init_130 : decode b_M_init 130 = .ok (.aload_n 0, 1) := by decide +kernel
theorem d_M_init_131 : decode b_M_init 131 = .ok (.iconst 4, 1) := by decide +kernel
theorem d_M_init_132 : decode b_M_init 132 = .ok (.newarray .int, 2) := by decide +kernel
theorem d_M_init_134 : decode b_M_init 134 = .ok (.putfield 70, 3) := by decide +kernel
theorem d_M_init_137 : decode b_M_init 137 = .ok (.aload_n 0, 1) := by decide +kernel
theorem d_M_init_138 : decode b_M_init 138 = .ok (.iconst 4, 1) := by decide +kernel
theorem d_M_init_139 : decode b_M_init 139 = .ok (.newarray .int, 2) := by decide +kernel
theorem d_M_init_141 : decode b_M_init 141 = .ok (.putfield 73, 3) := by decide +kernel
theorem d_M_init_144 : decode b_M_init 144 = .ok (.aload_n 0, 1) := by decide +kernel
theorem d_M_init_145 : decode b_M_init 145 = .ok (.iconst 4, 1) := by decide +kernel
theorem d_M_init_146 : decode b_M_init 146 = .ok (.newarray .int, 2) := by decide +kernel
theorem d_M_init_148 : decode b_M_init 148 = .ok (.putfield 76, 3) := by decide +kernel
theorem d_M_init_151 : decode b_M_init 151 = .ok (.aload_n 0, 1) := by decide +kernel
theorem d_M_init_152 : decode b_M_init 152 = .ok (.iconst 0, 1) := by decide +kernel
theorem d_M_init_153 : decode b_M_init 153 = .ok (.putfield 79, 3) := by decide +kernel
theorem d_M_init_156 : decode b_M_init 156 = .ok (.aload_n 0, 1) := by decide +kernel
theorem d_M_init_157 : decode b_M_init 157 = .ok (.sipush 160, 3) := by decide +kernel
theorem d_M_init_160 : decode b_M_init 160 = .ok (.newarray .int, 2) := by decide +kernel
theorem d_M_init_162 : decode b_M_init 162 = .ok (.putfield 82, 3) := by decide +kernel
theorem d_M_init_165 : decode b_M_init 165 = .ok (.aload_n 0, 1) := by decide +kernel
theorem d_M_init_166 : decode b_M_init 166 = .ok (.iconst 0, 1) := by decide +kernel
theorem d_M_init_167 : decode b_M_init 167 = .ok (.putfield 85, 3) := by decide +kernel
theorem d_M_init_170 : decode b_M_init 170 = .ok (.aload_n 0, 1) := by decide +kernel
theorem d_M_init_171 : decode b_M_init 171 = .ok (.bipush 40, 2) := by decide +kernel
theorem d_M_init_173 : decode b_M_init 173 = .ok (.newarray .int, 2) := by decide +kernel
theorem d_M_init_175 : decode b_M_init 175 = .ok (.putfield 88, 3) := by decide +kernel
theorem d_M_init_178 : decode b_M_init 178 = .ok (.aload_n 0, 1) := by decide +kernel
theorem d_M_init_179 : decode b_M_init 179 = .ok (.bipush 40, 2) := by decide +kernel
theorem d_M_init_181 : decode b_M_init 181 = .ok (.newarray .int, 2) := by decide +kernel
theorem d_M_init_183 : decode b_M_init 183 = .ok (.putfield 91, 3) := by decide +kernel
theorem d_M_init_186 : decode b_M_init 186 = .ok (.aload_n 0, 1) := by decide +kernel
theorem d_M_init_187 : decode b_M_init 187 = .ok (.bipush 40, 2) := by decide +kernel
theorem d_M_init_189 : decode b_M_init 189 = .ok (.newarray .boolean, 2) := by decide +kernel
theorem d_M_init_191 : decode b_M_init 191 = .ok (.putfield 94, 3) := by decide +kernel
theorem d_M_init_194 : decode b_M_init 194 = .ok (.aload_n 0, 1) := by decide +kernel
theorem d_M_init_195 : decode b_M_init 195 = .ok (.sipush 320, 3) := by decide +kernel
theorem d_M_init_198 : decode b_M_init 198 = .ok (.newarray .int, 2) := by decide +kernel
theorem d_M_init_200 : decode b_M_init 200 = .ok (.putfield 97, 3) := by decide +kernel
theorem d_M_init_203 : decode b_M_init 203 = .ok (.aload_n 0, 1) := by decide +kernel
theorem d_M_init_204 : decode b_M_init 204 = .ok (.bipush 31, 2) := by decide +kernel
theorem d_M_init_206 : decode b_M_init 206 = .ok (.newarray .long, 2) := by decide +kernel
theorem d_M_init_208 : decode b_M_init 208 = .ok (.putfield 100, 3) := by decide +kernel
theorem d_M_init_211 : decode b_M_init 211 = .ok (.iconst 0, 1) := by decide +kernel
theorem d_M_init_212 : decode b_M_init 212 = .ok (.istore_n 1, 1) := by decide +kernel
theorem d_M_init_213 : decode b_M_init 213 = .ok (.iload_n 1, 1) := by decide +kernel
theorem d_M_init_214 : decode b_M_init 214 = .ok (.iconst 5, 1) := by decide +kernel
theorem d_M_init_215 : decode b_M_init 215 = .ok (.if_icmp .ge 17, 3) := by decide +kernel
theorem d_M_init_218 : decode b_M_init 218 = .ok (.aload_n 0, 1) := by decide +kernel
theorem d_M_init_219 : decode b_M_init 219 = .ok (.getfield 29, 3) := by decide +kernel
theorem d_M_init_222 : decode b_M_init 222 = .ok (.iload_n 1, 1) := by decide +kernel
theorem d_M_init_223 : decode b_M_init 223 = .ok (.bipush 100, 2) := by decide +kernel
theorem d_M_init_225 : decode b_M_init 225 = .ok (.iastore, 1) := by decide +kernel
theorem d_M_init_226 : decode b_M_init 226 = .ok (.iinc 1 1, 3) := by decide +kernel
theorem d_M_init_229 : decode b_M_init 229 = .ok (.goto (-16), 3) := by decide +kernel
theorem d_M_init_232 : decode b_M_init 232 = .ok (.iconst 0, 1) := by decide +kernel
theorem d_M_init_233 : decode b_M_init 233 = .ok (.istore_n 1, 1) := by decide +kernel
theorem d_M_init_234 : decode b_M_init 234 = .ok (.iload_n 1, 1) := by decide +kernel
theorem d_M_init_235 : decode b_M_init 235 = .ok (.iconst 4, 1) := by decide +kernel
theorem d_M_init_236 : decode b_M_init 236 = .ok (.if_icmp .ge 16, 3) := by decide +kernel
theorem d_M_init_239 : decode b_M_init 239 = .ok (.aload_n 0, 1) := by decide +kernel
theorem d_M_init_240 : decode b_M_init 240 = .ok (.getfield 41, 3) := by decide +kernel
theorem d_M_init_243 : decode b_M_init 243 = .ok (.iload_n 1, 1) := by decide +kernel
theorem d_M_init_244 : decode b_M_init 244 = .ok (.iconst 1, 1) := by decide +kernel
theorem d_M_init_245 : decode b_M_init 245 = .ok (.bastore, 1) := by decide +kernel
theorem d_M_init_246 : decode b_M_init 246 = .ok (.iinc 1 1, 3) := by decide +kernel
theorem d_M_init_249 : decode b_M_init 249 = .ok (.goto (-15), 3) := by decide +kernel
theorem d_M_init_252 : decode b_M_init 252 = .ok (.return_, 1) := by decide +kernel

def TM (tc : Nat → ClassId) (z : Nat) : Nat → va_E := fun i => match i with
  | 146 => .inl (tc 0, 80, .inl (fun _ => 0))
  | 147 => .inl (tc 0, 160, .inl (fun _ => 0))
  | 148 => .inl (tc 0, 160, .inl (fun _ => 0))
  | 149 => .inl (tc 0, 5, .inl (fun _ => 0))
  | 150 => .inl (tc 0, 5, .inl (upd (upd (upd (upd (upd (fun _ => 0) 0 100) 1 100) 2 100) 3 100) 4 100))
  | 151 => .inl (tc 0, 4, .inl (fun _ => 0))
  | 152 => .inl (tc 0, 4, .inl (fun _ => 0))
  | 153 => .inl (tc 0, 4, .inl (fun _ => 0))
  | 154 => .inl (tc 2, 4, .inl (upd (upd (upd (upd (fun _ => 0) 0 1) 1 1) 2 1) 3 1))
  | 155 => .inl (tc 0, 4, .inl (fun _ => 0))
  | 156 => .inl (tc 0, 4, .inl (fun _ => 0))
  | 157 => .inl (tc 0, 4, .inl (fun _ => 0))
  | 158 => .inl (tc 2, 4, .inl (fun _ => 0))
  | 159 => .inl (tc 0, 4, .inl (fun _ => 0))
  | 160 => .inl (tc 0, 4, .inl (fun _ => 0))
  | 161 => .inl (tc 0, 4, .inl (fun _ => 0))
  | 162 => .inl (tc 0, 160, .inl (fun _ => 0))
  | 163 => .inl (tc 0, 40, .inl (fun _ => 0))
  | 164 => .inl (tc 0, 40, .inl (fun _ => 0))
  | 165 => .inl (tc 2, 40, .inl (fun _ => 0))
  | 166 => .inl (tc 0, 320, .inl (fun _ => 0))
  | 167 => .inl (tc 1, 31, .inr (.inl (fun _ => 0)))
  | _ => .inr (8, [.int 0, .int 0, .ref (z + 146), .ref (z + 147), .ref (z + 148), .ref (z + 149), .ref (z + 150), .ref (z + 151), .ref (z + 152), .ref (z + 153), .ref (z + 154), .ref (z + 155), .ref (z + 156), .int 0, .int 0, .int 0, .int 0, .ref (z + 157), .ref (z + 158), .ref (z + 159), .ref (z + 160), .ref (z + 161), .int 0, .ref (z + 162), .int 0, .ref (z + 163), .ref (z + 164), .ref (z + 165), .ref (z + 166), .ref (z + 167)])

set_option maxHeartbeats 800000 in
set_option maxRecDepth 100000 in
theorem c_M_init (l : Launch) (D : va_G) (tc : Nat → ClassId) (z : Nat) (E0 : Nat → va_E) {N k : Nat} (hN : N = 146) (hkk : k = 145) (hE : E0 k = .inr (8, [.int 0, .int 0, .null, .null, .null, .null, .null, .null, .null, .null, .null, .null, .null, .int 0, .int 0, .int 0, .int 0, .null, .null, .null, .null, .null, .int 0, .null, .int 0, .null, .null, .null, .null, .null])) : CK l y_M_init { frames := 1, cells := 22, slots := 1085, locals := 60 } D (kty tc) z [.ref (z + k)] N E0 (N + 22) (fun E' => (∀ i, 145 ≤ i → i < 168 → E' i = TM tc z i) ∧ ∀ i, i < 145 → i < 145 → E' i = E0 i) := by
  subst hN
  subst hkk
  refine CK.of (cc := b_M_init) (maxL := 2) (by decide) rfl w_659 (Nat.le_of_ble_eq_true rfl) ?_
  intro p e s m below meth c C hr hin
  refine bk_aload_n C d_M_init_0 rfl ?_
  refine bk_obj C w_660 w_25 w_26 d_M_init_1 (by decide) (by decide) ?_
  refine bk_aload_n C d_M_init_4 rfl ?_
  refine bk_iconst C (v := 0) d_M_init_5 (by decide) ?_
  refine bk_put C hin (j := 145) (ci := 8) (k := 0) (fs := [.int 0, .int 0, .null, .null, .null, .null, .null, .null, .null, .null, .null, .null, .null, .int 0, .int 0, .int 0, .int 0, .null, .null, .null, .null, .null, .int 0, .null, .int 0, .null, .null, .null, .null, .null]) ft_M k_M n_M (by omega) (by first | (rw [hE]; done) | (rw [hE]; rfl)) rfl in_M (by decide) w_661 rfl (k_M 0 (by decide)) rfl rfl (Nat.le_of_ble_eq_true rfl) d_M_init_6 ?_
  refine bk_aload_n C d_M_init_9 rfl ?_
  refine bk_iconst C (v := 0) d_M_init_10 (by decide) ?_
  refine bk_put C hin (j := 145) (ci := 8) (k := 1) (fs := [.int 0, .int 0, .null, .null, .null, .null, .null, .null, .null, .null, .null, .null, .null, .int 0, .int 0, .int 0, .int 0, .null, .null, .null, .null, .null, .int 0, .null, .int 0, .null, .null, .null, .null, .null]) ft_M k_M n_M (by omega) (by first | (rw [va_up_self]; done) | (rw [va_up_self]; rfl)) rfl in_M (by decide) w_662 rfl (k_M 1 (by decide)) rfl rfl (Nat.le_of_ble_eq_true rfl) d_M_init_11 ?_
  refine bk_aload_n C d_M_init_14 rfl ?_
  refine bk_bipush C (v := 80) d_M_init_15 (by decide) ?_
  refine bk_newa C (atype := .int) (ty := .int) (a0 := (80, .inl (fun _ => 0))) (N0 := 80) (t0 := 0) (cT := tc 0) rfl w_46 rfl (fun _ h => h) (fun _ => rfl) (by decide) (by decide) (by decide) (by first | decide | omega | (dsimp only; omega)) (by first | decide | omega | (dsimp only; omega)) d_M_init_17 ?_
  refine GK.eqN (N' := 147) (st' := [.ref (z + 146), .ref (z + 145)]) (by omega) rfl ?_
  refine bk_put C hin (j := 145) (ci := 8) (k := 2) (fs := [.int 0, .int 0, .null, .null, .null, .null, .null, .null, .null, .null, .null, .null, .null, .int 0, .int 0, .int 0, .int 0, .null, .null, .null, .null, .null, .int 0, .null, .int 0, .null, .null, .null, .null, .null]) ft_M k_M n_M (by omega) (by first | (rw [va_up_ne _ _ (by omega), va_up_self]; done) | (rw [va_up_ne _ _ (by omega), va_up_self]; rfl)) rfl in_M (by decide) w_663 rfl (k_M 2 (by decide)) rfl rfl (Nat.le_of_ble_eq_true rfl) d_M_init_19 ?_
  refine bk_aload_n C d_M_init_22 rfl ?_
  refine bk_sipush C (v := 160) d_M_init_23 (by decide) ?_
  refine bk_newa C (atype := .int) (ty := .int) (a0 := (160, .inl (fun _ => 0))) (N0 := 160) (t0 := 0) (cT := tc 0) rfl w_46 rfl (fun _ h => h) (fun _ => rfl) (by decide) (by decide) (by decide) (by first | decide | omega | (dsimp only; omega)) (by first | decide | omega | (dsimp only; omega)) d_M_init_26 ?_
  refine GK.eqN (N' := 148) (st' := [.ref (z + 147), .ref (z + 145)]) (by omega) rfl ?_
  refine bk_put C hin (j := 145) (ci := 8) (k := 3) (fs := [.int 0, .int 0, .ref (z + 146), .null, .null, .null, .null, .null, .null, .null, .null, .null, .null, .int 0, .int 0, .int 0, .int 0, .null, .null, .null, .null, .null, .int 0, .null, .int 0, .null, .null, .null, .null, .null]) ft_M k_M n_M (by omega) (by first | (rw [va_up_ne _ _ (by omega), va_up_self]; done) | (rw [va_up_ne _ _ (by omega), va_up_self]; rfl)) rfl in_M (by decide) w_664 rfl (k_M 3 (by decide)) rfl rfl (Nat.le_of_ble_eq_true rfl) d_M_init_28 ?_
  refine bk_aload_n C d_M_init_31 rfl ?_
  refine bk_sipush C (v := 160) d_M_init_32 (by decide) ?_
  refine bk_newa C (atype := .int) (ty := .int) (a0 := (160, .inl (fun _ => 0))) (N0 := 160) (t0 := 0) (cT := tc 0) rfl w_46 rfl (fun _ h => h) (fun _ => rfl) (by decide) (by decide) (by decide) (by first | decide | omega | (dsimp only; omega)) (by first | decide | omega | (dsimp only; omega)) d_M_init_35 ?_
  refine GK.eqN (N' := 149) (st' := [.ref (z + 148), .ref (z + 145)]) (by omega) rfl ?_
  refine bk_put C hin (j := 145) (ci := 8) (k := 4) (fs := [.int 0, .int 0, .ref (z + 146), .ref (z + 147), .null, .null, .null, .null, .null, .null, .null, .null, .null, .int 0, .int 0, .int 0, .int 0, .null, .null, .null, .null, .null, .int 0, .null, .int 0, .null, .null, .null, .null, .null]) ft_M k_M n_M (by omega) (by first | (rw [va_up_ne _ _ (by omega), va_up_self]; done) | (rw [va_up_ne _ _ (by omega), va_up_self]; rfl)) rfl in_M (by decide) w_665 rfl (k_M 4 (by decide)) rfl rfl (Nat.le_of_ble_eq_true rfl) d_M_init_37 ?_
  refine bk_aload_n C d_M_init_40 rfl ?_
  refine bk_iconst C (v := 5) d_M_init_41 (by decide) ?_
  refine bk_newa C (atype := .int) (ty := .int) (a0 := (5, .inl (fun _ => 0))) (N0 := 5) (t0 := 0) (cT := tc 0) rfl w_46 rfl (fun _ h => h) (fun _ => rfl) (by decide) (by decide) (by decide) (by first | decide | omega | (dsimp only; omega)) (by first | decide | omega | (dsimp only; omega)) d_M_init_42 ?_
  refine GK.eqN (N' := 150) (st' := [.ref (z + 149), .ref (z + 145)]) (by omega) rfl ?_
  refine bk_put C hin (j := 145) (ci := 8) (k := 5) (fs := [.int 0, .int 0, .ref (z + 146), .ref (z + 147), .ref (z + 148), .null, .null, .null, .null, .null, .null, .null, .null, .int 0, .int 0, .int 0, .int 0, .null, .null, .null, .null, .null, .int 0, .null, .int 0, .null, .null, .null, .null, .null]) ft_M k_M n_M (by omega) (by first | (rw [va_up_ne _ _ (by omega), va_up_self]; done) | (rw [va_up_ne _ _ (by omega), va_up_self]; rfl)) rfl in_M (by decide) w_666 rfl (k_M 5 (by decide)) rfl rfl (Nat.le_of_ble_eq_true rfl) d_M_init_44 ?_
  refine bk_aload_n C d_M_init_47 rfl ?_
  refine bk_iconst C (v := 5) d_M_init_48 (by decide) ?_
  refine bk_newa C (atype := .int) (ty := .int) (a0 := (5, .inl (fun _ => 0))) (N0 := 5) (t0 := 0) (cT := tc 0) rfl w_46 rfl (fun _ h => h) (fun _ => rfl) (by decide) (by decide) (by decide) (by first | decide | omega | (dsimp only; omega)) (by first | decide | omega | (dsimp only; omega)) d_M_init_49 ?_
  refine GK.eqN (N' := 151) (st' := [.ref (z + 150), .ref (z + 145)]) (by omega) rfl ?_
  refine bk_put C hin (j := 145) (ci := 8) (k := 6) (fs := [.int 0, .int 0, .ref (z + 146), .ref (z + 147), .ref (z + 148), .ref (z + 149), .null, .null, .null, .null, .null, .null, .null, .int 0, .int 0, .int 0, .int 0, .null, .null, .null, .null, .null, .int 0, .null, .int 0, .null, .null, .null, .null, .null]) ft_M k_M n_M (by omega) (by first | (rw [va_up_ne _ _ (by omega), va_up_self]; done) | (rw [va_up_ne _ _ (by omega), va_up_self]; rfl)) rfl in_M (by decide) w_667 rfl (k_M 6 (by decide)) rfl rfl (Nat.le_of_ble_eq_true rfl) d_M_init_51 ?_
  refine bk_aload_n C d_M_init_54 rfl ?_
  refine bk_iconst C (v := 4) d_M_init_55 (by decide) ?_
  refine bk_newa C (atype := .int) (ty := .int) (a0 := (4, .inl (fun _ => 0))) (N0 := 4) (t0 := 0) (cT := tc 0) rfl w_46 rfl (fun _ h => h) (fun _ => rfl) (by decide) (by decide) (by decide) (by first | decide | omega | (dsimp only; omega)) (by first | decide | omega | (dsimp only; omega)) d_M_init_56 ?_
  refine GK.eqN (N' := 152) (st' := [.ref (z + 151), .ref (z + 145)]) (by omega) rfl ?_
  refine bk_put C hin (j := 145) (ci := 8) (k := 7) (fs := [.int 0, .int 0, .ref (z + 146), .ref (z + 147), .ref (z + 148), .ref (z + 149), .ref (z + 150), .null, .null, .null, .null, .null, .null, .int 0, .int 0, .int 0, .int 0, .null, .null, .null, .null, .null, .int 0, .null, .int 0, .null, .null, .null, .null, .null]) ft_M k_M n_M (by omega) (by first | (rw [va_up_ne _ _ (by omega), va_up_self]; done) | (rw [va_up_ne _ _ (by omega), va_up_self]; rfl)) rfl in_M (by decide) w_668 rfl (k_M 7 (by decide)) rfl rfl (Nat.le_of_ble_eq_true rfl) d_M_init_58 ?_
  refine bk_aload_n C d_M_init_61 rfl ?_
  refine bk_iconst C (v := 4) d_M_init_62 (by decide) ?_
  refine bk_newa C (atype := .int) (ty := .int) (a0 := (4, .inl (fun _ => 0))) (N0 := 4) (t0 := 0) (cT := tc 0) rfl w_46 rfl (fun _ h => h) (fun _ => rfl) (by decide) (by decide) (by decide) (by first | decide | omega | (dsimp only; omega)) (by first | decide | omega | (dsimp only; omega)) d_M_init_63 ?_
  refine GK.eqN (N' := 153) (st' := [.ref (z + 152), .ref (z + 145)]) (by omega) rfl ?_
  refine bk_put C hin (j := 145) (ci := 8) (k := 8) (fs := [.int 0, .int 0, .ref (z + 146), .ref (z + 147), .ref (z + 148), .ref (z + 149), .ref (z + 150), .ref (z + 151), .null, .null, .null, .null, .null, .int 0, .int 0, .int 0, .int 0, .null, .null, .null, .null, .null, .int 0, .null, .int 0, .null, .null, .null, .null, .null]) ft_M k_M n_M (by omega) (by first | (rw [va_up_ne _ _ (by omega), va_up_self]; done) | (rw [va_up_ne _ _ (by omega), va_up_self]; rfl)) rfl in_M (by decide) w_669 rfl (k_M 8 (by decide)) rfl rfl (Nat.le_of_ble_eq_true rfl) d_M_init_65 ?_
  refine bk_aload_n C d_M_init_68 rfl ?_
  refine bk_iconst C (v := 4) d_M_init_69 (by decide) ?_
  refine bk_newa C (atype := .int) (ty := .int) (a0 := (4, .inl (fun _ => 0))) (N0 := 4) (t0 := 0) (cT := tc 0) rfl w_46 rfl (fun _ h => h) (fun _ => rfl) (by decide) (by decide) (by decide) (by first | decide | omega | (dsimp only; omega)) (by first | decide | omega | (dsimp only; omega)) d_M_init_70 ?_
  refine GK.eqN (N' := 154) (st' := [.ref (z + 153), .ref (z + 145)]) (by omega) rfl ?_
  refine bk_put C hin (j := 145) (ci := 8) (k := 9) (fs := [.int 0, .int 0, .ref (z + 146), .ref (z + 147), .ref (z + 148), .ref (z + 149), .ref (z + 150), .ref (z + 151), .ref (z + 152), .null, .null, .null, .null, .int 0, .int 0, .int 0, .int 0, .null, .null, .null, .null, .null, .int 0, .null, .int 0, .null, .null, .null, .null, .null]) ft_M k_M n_M (by omega) (by first | (rw [va_up_ne _ _ (by omega), va_up_self]; done) | (rw [va_up_ne _ _ (by omega), va_up_self]; rfl)) rfl in_M (by decide) w_670 rfl (k_M 9 (by decide)) rfl rfl (Nat.le_of_ble_eq_true rfl) d_M_init_72 ?_
  refine bk_aload_n C d_M_init_75 rfl ?_
  refine bk_iconst C (v := 4) d_M_init_76 (by decide) ?_
  refine bk_newa C (atype := .boolean) (ty := .boolean) (a0 := (4, .inl (fun _ => 0))) (N0 := 4) (t0 := 2) (cT := tc 2) rfl w_752 rfl (fun _ h => h) (fun _ => rfl) (by decide) (by decide) (by decide) (by first | decide | omega | (dsimp only; omega)) (by first | decide | omega | (dsimp only; omega)) d_M_init_77 ?_
  refine GK.eqN (N' := 155) (st' := [.ref (z + 154), .ref (z + 145)]) (by omega) rfl ?_
  refine bk_put C hin (j := 145) (ci := 8) (k := 10) (fs := [.int 0, .int 0, .ref (z + 146), .ref (z + 147), .ref (z + 148), .ref (z + 149), .ref (z + 150), .ref (z + 151), .ref (z + 152), .ref (z + 153), .null, .null, .null, .int 0, .int 0, .int 0, .int 0, .null, .null, .null, .null, .null, .int 0, .null, .int 0, .null, .null, .null, .null, .null]) ft_M k_M n_M (by omega) (by first | (rw [va_up_ne _ _ (by omega), va_up_self]; done) | (rw [va_up_ne _ _ (by omega), va_up_self]; rfl)) rfl in_M (by decide) w_671 rfl (k_M 10 (by decide)) rfl rfl (Nat.le_of_ble_eq_true rfl) d_M_init_79 ?_
  refine bk_aload_n C d_M_init_82 rfl ?_
  refine bk_iconst C (v := 4) d_M_init_83 (by decide) ?_
  refine bk_newa C (atype := .int) (ty := .int) (a0 := (4, .inl (fun _ => 0))) (N0 := 4) (t0 := 0) (cT := tc 0) rfl w_46 rfl (fun _ h => h) (fun _ => rfl) (by decide) (by decide) (by decide) (by first | decide | omega | (dsimp only; omega)) (by first | decide | omega | (dsimp only; omega)) d_M_init_84 ?_
  refine GK.eqN (N' := 156) (st' := [.ref (z + 155), .ref (z + 145)]) (by omega) rfl ?_
  refine bk_put C hin (j := 145) (ci := 8) (k := 11) (fs := [.int 0, .int 0, .ref (z + 146), .ref (z + 147), .ref (z + 148), .ref (z + 149), .ref (z + 150), .ref (z + 151), .ref (z + 152), .ref (z + 153), .ref (z + 154), .null, .null, .int 0, .int 0, .int 0, .int 0, .null, .null, .null, .null, .null, .int 0, .null, .int 0, .null, .null, .null, .null, .null]) ft_M k_M n_M (by omega) (by first | (rw [va_up_ne _ _ (by omega), va_up_self]; done) | (rw [va_up_ne _ _ (by omega), va_up_self]; rfl)) rfl in_M (by decide) w_672 rfl (k_M 11 (by decide)) rfl rfl (Nat.le_of_ble_eq_true rfl) d_M_init_86 ?_
  refine bk_aload_n C d_M_init_89 rfl ?_
  refine bk_iconst C (v := 4) d_M_init_90 (by decide) ?_
  refine bk_newa C (atype := .int) (ty := .int) (a0 := (4, .inl (fun _ => 0))) (N0 := 4) (t0 := 0) (cT := tc 0) rfl w_46 rfl (fun _ h => h) (fun _ => rfl) (by decide) (by decide) (by decide) (by first | decide | omega | (dsimp only; omega)) (by first | decide | omega | (dsimp only; omega)) d_M_init_91 ?_
  refine GK.eqN (N' := 157) (st' := [.ref (z + 156), .ref (z + 145)]) (by omega) rfl ?_
  refine bk_put C hin (j := 145) (ci := 8) (k := 12) (fs := [.int 0, .int 0, .ref (z + 146), .ref (z + 147), .ref (z + 148), .ref (z + 149), .ref (z + 150), .ref (z + 151), .ref (z + 152), .ref (z + 153), .ref (z + 154), .ref (z + 155), .null, .int 0, .int 0, .int 0, .int 0, .null, .null, .null, .null, .null, .int 0, .null, .int 0, .null, .null, .null, .null, .null]) ft_M k_M n_M (by omega) (by first | (rw [va_up_ne _ _ (by omega), va_up_self]; done) | (rw [va_up_ne _ _ (by omega), va_up_self]; rfl)) rfl in_M (by decide) w_673 rfl (k_M 12 (by decide)) rfl rfl (Nat.le_of_ble_eq_true rfl) d_M_init_93 ?_
  refine bk_aload_n C d_M_init_96 rfl ?_
  refine bk_iconst C (v := 0) d_M_init_97 (by decide) ?_
  refine bk_put C hin (j := 145) (ci := 8) (k := 13) (fs := [.int 0, .int 0, .ref (z + 146), .ref (z + 147), .ref (z + 148), .ref (z + 149), .ref (z + 150), .ref (z + 151), .ref (z + 152), .ref (z + 153), .ref (z + 154), .ref (z + 155), .ref (z + 156), .int 0, .int 0, .int 0, .int 0, .null, .null, .null, .null, .null, .int 0, .null, .int 0, .null, .null, .null, .null, .null]) ft_M k_M n_M (by omega) (by first | (rw [va_up_self]; done) | (rw [va_up_self]; rfl)) rfl in_M (by decide) w_674 rfl (k_M 13 (by decide)) rfl rfl (Nat.le_of_ble_eq_true rfl) d_M_init_98 ?_
  refine bk_aload_n C d_M_init_101 rfl ?_
  refine bk_iconst C (v := 0) d_M_init_102 (by decide) ?_
  refine bk_put C hin (j := 145) (ci := 8) (k := 14) (fs := [.int 0, .int 0, .ref (z + 146), .ref (z + 147), .ref (z + 148), .ref (z + 149), .ref (z + 150), .ref (z + 151), .ref (z + 152), .ref (z + 153), .ref (z + 154), .ref (z + 155), .ref (z + 156), .int 0, .int 0, .int 0, .int 0, .null, .null, .null, .null, .null, .int 0, .null, .int 0, .null, .null, .null, .null, .null]) ft_M k_M n_M (by omega) (by first | (rw [va_up_self]; done) | (rw [va_up_self]; rfl)) rfl in_M (by decide) w_675 rfl (k_M 14 (by decide)) rfl rfl (Nat.le_of_ble_eq_true rfl) d_M_init_103 ?_
  refine bk_aload_n C d_M_init_106 rfl ?_
  refine bk_iconst C (v := 0) d_M_init_107 (by decide) ?_
  refine bk_put C hin (j := 145) (ci := 8) (k := 15) (fs := [.int 0, .int 0, .ref (z + 146), .ref (z + 147), .ref (z + 148), .ref (z + 149), .ref (z + 150), .ref (z + 151), .ref (z + 152), .ref (z + 153), .ref (z + 154), .ref (z + 155), .ref (z + 156), .int 0, .int 0, .int 0, .int 0, .null, .null, .null, .null, .null, .int 0, .null, .int 0, .null, .null, .null, .null, .null]) ft_M k_M n_M (by omega) (by first | (rw [va_up_self]; done) | (rw [va_up_self]; rfl)) rfl in_M (by decide) w_676 rfl (k_M 15 (by decide)) rfl rfl (Nat.le_of_ble_eq_true rfl) d_M_init_108 ?_
  refine bk_aload_n C d_M_init_111 rfl ?_
  refine bk_iconst C (v := 0) d_M_init_112 (by decide) ?_
  refine bk_put C hin (j := 145) (ci := 8) (k := 16) (fs := [.int 0, .int 0, .ref (z + 146), .ref (z + 147), .ref (z + 148), .ref (z + 149), .ref (z + 150), .ref (z + 151), .ref (z + 152), .ref (z + 153), .ref (z + 154), .ref (z + 155), .ref (z + 156), .int 0, .int 0, .int 0, .int 0, .null, .null, .null, .null, .null, .int 0, .null, .int 0, .null, .null, .null, .null, .null]) ft_M k_M n_M (by omega) (by first | (rw [va_up_self]; done) | (rw [va_up_self]; rfl)) rfl in_M (by decide) w_677 rfl (k_M 16 (by decide)) rfl rfl (Nat.le_of_ble_eq_true rfl) d_M_init_113 ?_
  refine bk_aload_n C d_M_init_116 rfl ?_
  refine bk_iconst C (v := 4) d_M_init_117 (by decide) ?_
  refine bk_newa C (atype := .int) (ty := .int) (a0 := (4, .inl (fun _ => 0))) (N0 := 4) (t0 := 0) (cT := tc 0) rfl w_46 rfl (fun _ h => h) (fun _ => rfl) (by decide) (by decide) (by decide) (by first | decide | omega | (dsimp only; omega)) (by first | decide | omega | (dsimp only; omega)) d_M_init_118 ?_
  refine GK.eqN (N' := 158) (st' := [.ref (z + 157), .ref (z + 145)]) (by omega) rfl ?_
  refine bk_put C hin (j := 145) (ci := 8) (k := 17) (fs := [.int 0, .int 0, .ref (z + 146), .ref (z + 147), .ref (z + 148), .ref (z + 149), .ref (z + 150), .ref (z + 151), .ref (z + 152), .ref (z + 153), .ref (z + 154), .ref (z + 155), .ref (z + 156), .int 0, .int 0, .int 0, .int 0, .null, .null, .null, .null, .null, .int 0, .null, .int 0, .null, .null, .null, .null, .null]) ft_M k_M n_M (by omega) (by first | (rw [va_up_ne _ _ (by omega), va_up_self]; done) | (rw [va_up_ne _ _ (by omega), va_up_self]; rfl)) rfl in_M (by decide) w_678 rfl (k_M 17 (by decide)) rfl rfl (Nat.le_of_ble_eq_true rfl) d_M_init_120 ?_
  refine bk_aload_n C d_M_init_123 rfl ?_
  refine bk_iconst C (v := 4) d_M_init_124 (by decide) ?_
  refine bk_newa C (atype := .boolean) (ty := .boolean) (a0 := (4, .inl (fun _ => 0))) (N0 := 4) (t0 := 2) (cT := tc 2) rfl w_752 rfl (fun _ h => h) (fun _ => rfl) (by decide) (by decide) (by decide) (by first | decide | omega | (dsimp only; omega)) (by first | decide | omega | (dsimp only; omega)) d_M_init_125 ?_
  refine GK.eqN (N' := 159) (st' := [.ref (z + 158), .ref (z + 145)]) (by omega) rfl ?_
  refine bk_put C hin (j := 145) (ci := 8) (k := 18) (fs := [.int 0, .int 0, .ref (z + 146), .ref (z + 147), .ref (z + 148), .ref (z + 149), .ref (z + 150), .ref (z + 151), .ref (z + 152), .ref (z + 153), .ref (z + 154), .ref (z + 155), .ref (z + 156), .int 0, .int 0, .int 0, .int 0, .ref (z + 157), .null, .null, .null, .null, .int 0, .null, .int 0, .null, .null, .null, .null, .null]) ft_M k_M n_M (by omega) (by first | (rw [va_up_ne _ _ (by omega), va_up_self]; done) | (rw [va_up_ne _ _ (by omega), va_up_self]; rfl)) rfl in_M (by decide) w_679 rfl (k_M 18 (by decide)) rfl rfl (Nat.le_of_ble_eq_true rfl) d_M_init_127 ?_
  refine bk_aload_n C d_M_init_130 rfl ?_
  refine bk_iconst C (v := 4) d_M_init_131 (by decide) ?_
  refine bk_newa C (atype := .int) (ty := .int) (a0 := (4, .inl (fun _ => 0))) (N0 := 4) (t0 := 0) (cT := tc 0) rfl w_46 rfl (fun _ h => h) (fun _ => rfl) (by decide) (by decide) (by decide) (by first | decide | omega | (dsimp only; omega)) (by first | decide | omega | (dsimp only; omega)) d_M_init_132 ?_
  refine GK.eqN (N' := 160) (st' := [.ref (z + 159), .ref (z + 145)]) (by omega) rfl ?_
  refine bk_put C hin (j := 145) (ci := 8) (k := 19) (fs := [.int 0, .int 0, .ref (z + 146), .ref (z + 147), .ref (z + 148), .ref (z + 149), .ref (z + 150), .ref (z + 151), .ref (z + 152), .ref (z + 153), .ref (z + 154), .ref (z + 155), .ref (z + 156), .int 0, .int 0, .int 0, .int 0, .ref (z + 157), .ref (z + 158), .null, .null, .null, .int 0, .null, .int 0, .null, .null, .null, .null, .null]) ft_M k_M n_M (by omega) (by first | (rw [va_up_ne _ _ (by omega), va_up_self]; done) | (rw [va_up_ne _ _ (by omega), va_up_self]; rfl)) rfl in_M (by decide) w_680 rfl (k_M 19 (by decide)) rfl rfl (Nat.le_of_ble_eq_true rfl) d_M_init_134 ?_
  refine bk_aload_n C d_M_init_137 rfl ?_
  refine bk_iconst C (v := 4) d_M_init_138 (by decide) ?_
  refine bk_newa C (atype := .int) (ty := .int) (a0 := (4, .inl (fun _ => 0))) (N0 := 4) (t0 := 0) (cT := tc 0) rfl w_46 rfl (fun _ h => h) (fun _ => rfl) (by decide) (by decide) (by decide) (by first | decide | omega | (dsimp only; omega)) (by first | decide | omega | (dsimp only; omega)) d_M_init_139 ?_
  refine GK.eqN (N' := 161) (st' := [.ref (z + 160), .ref (z + 145)]) (by omega) rfl ?_
  refine bk_put C hin (j := 145) (ci := 8) (k := 20) (fs := [.int 0, .int 0, .ref (z + 146), .ref (z + 147), .ref (z + 148), .ref (z + 149), .ref (z + 150), .ref (z + 151), .ref (z + 152), .ref (z + 153), .ref (z + 154), .ref (z + 155), .ref (z + 156), .int 0, .int 0, .int 0, .int 0, .ref (z + 157), .ref (z + 158), .ref (z + 159), .null, .null, .int 0, .null, .int 0, .null, .null, .null, .null, .null]) ft_M k_M n_M (by omega) (by first | (rw [va_up_ne _ _ (by omega), va_up_self]; done) | (rw [va_up_ne _ _ (by omega), va_up_self]; rfl)) rfl in_M (by decide) w_681 rfl (k_M 20 (by decide)) rfl rfl (Nat.le_of_ble_eq_true rfl) d_M_init_141 ?_
  refine bk_aload_n C d_M_init_144 rfl ?_
  refine bk_iconst C (v := 4) d_M_init_145 (by decide) ?_
  refine bk_newa C (atype := .int) (ty := .int) (a0 := (4, .inl (fun _ => 0))) (N0 := 4) (t0 := 0) (cT := tc 0) rfl w_46 rfl (fun _ h => h) (fun _ => rfl) (by decide) (by decide) (by decide) (by first | decide | omega | (dsimp only; omega)) (by first | decide | omega | (dsimp only; omega)) d_M_init_146 ?_
  refine GK.eqN (N' := 162) (st' := [.ref (z + 161), .ref (z + 145)]) (by omega) rfl ?_
  refine bk_put C hin (j := 145) (ci := 8) (k := 21) (fs := [.int 0, .int 0, .ref (z + 146), .ref (z + 147), .ref (z + 148), .ref (z + 149), .ref (z + 150), .ref (z + 151), .ref (z + 152), .ref (z + 153), .ref (z + 154), .ref (z + 155), .ref (z + 156), .int 0, .int 0, .int 0, .int 0, .ref (z + 157), .ref (z + 158), .ref (z + 159), .ref (z + 160), .null, .int 0, .null, .int 0, .null, .null, .null, .null, .null]) ft_M k_M n_M (by omega) (by first | (rw [va_up_ne _ _ (by omega), va_up_self]; done) | (rw [va_up_ne _ _ (by omega), va_up_self]; rfl)) rfl in_M (by decide) w_682 rfl (k_M 21 (by decide)) rfl rfl (Nat.le_of_ble_eq_true rfl) d_M_init_148 ?_
  refine bk_aload_n C d_M_init_151 rfl ?_
  refine bk_iconst C (v := 0) d_M_init_152 (by decide) ?_
  refine bk_put C hin (j := 145) (ci := 8) (k := 22) (fs := [.int 0, .int 0, .ref (z + 146), .ref (z + 147), .ref (z + 148), .ref (z + 149), .ref (z + 150), .ref (z + 151), .ref (z + 152), .ref (z + 153), .ref (z + 154), .ref (z + 155), .ref (z + 156), .int 0, .int 0, .int 0, .int 0, .ref (z + 157), .ref (z + 158), .ref (z + 159), .ref (z + 160), .ref (z + 161), .int 0, .null, .int 0, .null, .null, .null, .null, .null]) ft_M k_M n_M (by omega) (by first | (rw [va_up_self]; done) | (rw [va_up_self]; rfl)) rfl in_M (by decide) w_683 rfl (k_M 22 (by decide)) rfl rfl (Nat.le_of_ble_eq_true rfl) d_M_init_153 ?_
  refine bk_aload_n C d_M_init_156 rfl ?_
  refine bk_sipush C (v := 160) d_M_init_157 (by decide) ?_
  refine bk_newa C (atype := .int) (ty := .int) (a0 := (160, .inl (fun _ => 0))) (N0 := 160) (t0 := 0) (cT := tc 0) rfl w_46 rfl (fun _ h => h) (fun _ => rfl) (by decide) (by decide) (by decide) (by first | decide | omega | (dsimp only; omega)) (by first | decide | omega | (dsimp only; omega)) d_M_init_160 ?_
  refine GK.eqN (N' := 163) (st' := [.ref (z + 162), .ref (z + 145)]) (by omega) rfl ?_
  refine bk_put C hin (j := 145) (ci := 8) (k := 23) (fs := [.int 0, .int 0, .ref (z + 146), .ref (z + 147), .ref (z + 148), .ref (z + 149), .ref (z + 150), .ref (z + 151), .ref (z + 152), .ref (z + 153), .ref (z + 154), .ref (z + 155), .ref (z + 156), .int 0, .int 0, .int 0, .int 0, .ref (z + 157), .ref (z + 158), .ref (z + 159), .ref (z + 160), .ref (z + 161), .int 0, .null, .int 0, .null, .null, .null, .null, .null]) ft_M k_M n_M (by omega) (by first | (rw [va_up_ne _ _ (by omega), va_up_self]; done) | (rw [va_up_ne _ _ (by omega), va_up_self]; rfl)) rfl in_M (by decide) w_684 rfl (k_M 23 (by decide)) rfl rfl (Nat.le_of_ble_eq_true rfl) d_M_init_162 ?_
  refine bk_aload_n C d_M_init_165 rfl ?_
  refine bk_iconst C (v := 0) d_M_init_166 (by decide) ?_
  refine bk_put C hin (j := 145) (ci := 8) (k := 24) (fs := [.int 0, .int 0, .ref (z + 146), .ref (z + 147), .ref (z + 148), .ref (z + 149), .ref (z + 150), .ref (z + 151), .ref (z + 152), .ref (z + 153), .ref (z + 154), .ref (z + 155), .ref (z + 156), .int 0, .int 0, .int 0, .int 0, .ref (z + 157), .ref (z + 158), .ref (z + 159), .ref (z + 160), .ref (z + 161), .int 0, .ref (z + 162), .int 0, .null, .null, .null, .null, .null]) ft_M k_M n_M (by omega) (by first | (rw [va_up_self]; done) | (rw [va_up_self]; rfl)) rfl in_M (by decide) w_685 rfl (k_M 24 (by decide)) rfl rfl (Nat.le_of_ble_eq_true rfl) d_M_init_167 ?_
  refine bk_aload_n C d_M_init_170 rfl ?_
  refine bk_bipush C (v := 40) d_M_init_171 (by decide) ?_
  refine bk_newa C (atype := .int) (ty := .int) (a0 := (40, .inl (fun _ => 0))) (N0 := 40) (t0 := 0) (cT := tc 0) rfl w_46 rfl (fun _ h => h) (fun _ => rfl) (by decide) (by decide) (by decide) (by first | decide | omega | (dsimp only; omega)) (by first | decide | omega | (dsimp only; omega)) d_M_init_173 ?_
  refine GK.eqN (N' := 164) (st' := [.ref (z + 163), .ref (z + 145)]) (by omega) rfl ?_
  refine bk_put C hin (j := 145) (ci := 8) (k := 25) (fs := [.int 0, .int 0, .ref (z + 146), .ref (z + 147), .ref (z + 148), .ref (z + 149), .ref (z + 150), .ref (z + 151), .ref (z + 152), .ref (z + 153), .ref (z + 154), .ref (z + 155), .ref (z + 156), .int 0, .int 0, .int 0, .int 0, .ref (z + 157), .ref (z + 158), .ref (z + 159), .ref (z + 160), .ref (z + 161), .int 0, .ref (z + 162), .int 0, .null, .null, .null, .null, .null]) ft_M k_M n_M (by omega) (by first | (rw [va_up_ne _ _ (by omega), va_up_self]; done) | (rw [va_up_ne _ _ (by omega), va_up_self]; rfl)) rfl in_M (by decide) w_686 rfl (k_M 25 (by decide)) rfl rfl (Nat.le_of_ble_eq_true rfl) d_M_init_175 ?_
  refine bk_aload_n C d_M_init_178 rfl ?_
  refine bk_bipush C (v := 40) d_M_init_179 (by decide) ?_
  refine bk_newa C (atype := .int) (ty := .int) (a0 := (40, .inl (fun _ => 0))) (N0 := 40) (t0 := 0) (cT := tc 0) rfl w_46 rfl (fun _ h => h) (fun _ => rfl) (by decide) (by decide) (by decide) (by first | decide | omega | (dsimp only; omega)) (by first | decide | omega | (dsimp only; omega)) d_M_init_181 ?_
  refine GK.eqN (N' := 165) (st' := [.ref (z + 164), .ref (z + 145)]) (by omega) rfl ?_
  refine bk_put C hin (j := 145) (ci := 8) (k := 26) (fs := [.int 0, .int 0, .ref (z + 146), .ref (z + 147), .ref (z + 148), .ref (z + 149), .ref (z + 150), .ref (z + 151), .ref (z + 152), .ref (z + 153), .ref (z + 154), .ref (z + 155), .ref (z + 156), .int 0, .int 0, .int 0, .int 0, .ref (z + 157), .ref (z + 158), .ref (z + 159), .ref (z + 160), .ref (z + 161), .int 0, .ref (z + 162), .int 0, .ref (z + 163), .null, .null, .null, .null]) ft_M k_M n_M (by omega) (by first | (rw [va_up_ne _ _ (by omega), va_up_self]; done) | (rw [va_up_ne _ _ (by omega), va_up_self]; rfl)) rfl in_M (by decide) w_687 rfl (k_M 26 (by decide)) rfl rfl (Nat.le_of_ble_eq_true rfl) d_M_init_183 ?_
  refine bk_aload_n C d_M_init_186 rfl ?_
  refine bk_bipush C (v := 40) d_M_init_187 (by decide) ?_
  refine bk_newa C (atype := .boolean) (ty := .boolean) (a0 := (40, .inl (fun _ => 0))) (N0 := 40) (t0 := 2) (cT := tc 2) rfl w_752 rfl (fun _ h => h) (fun _ => rfl) (by decide) (by decide) (by decide) (by first | decide | omega | (dsimp only; omega)) (by first | decide | omega | (dsimp only; omega)) d_M_init_189 ?_
  refine GK.eqN (N' := 166) (st' := [.ref (z + 165), .ref (z + 145)]) (by omega) rfl ?_
  refine bk_put C hin (j := 145) (ci := 8) (k := 27) (fs := [.int 0, .int 0, .ref (z + 146), .ref (z + 147), .ref (z + 148), .ref (z + 149), .ref (z + 150), .ref (z + 151), .ref (z + 152), .ref (z + 153), .ref (z + 154), .ref (z + 155), .ref (z + 156), .int 0, .int 0, .int 0, .int 0, .ref (z + 157), .ref (z + 158), .ref (z + 159), .ref (z + 160), .ref (z + 161), .int 0, .ref (z + 162), .int 0, .ref (z + 163), .ref (z + 164), .null, .null, .null]) ft_M k_M n_M (by omega) (by first | (rw [va_up_ne _ _ (by omega), va_up_self]; done) | (rw [va_up_ne _ _ (by omega), va_up_self]; rfl)) rfl in_M (by decide) w_688 rfl (k_M 27 (by decide)) rfl rfl (Nat.le_of_ble_eq_true rfl) d_M_init_191 ?_
  refine bk_aload_n C d_M_init_194 rfl ?_
  refine bk_sipush C (v := 320) d_M_init_195 (by decide) ?_
  refine bk_newa C (atype := .int) (ty := .int) (a0 := (320, .inl (fun _ => 0))) (N0 := 320) (t0 := 0) (cT := tc 0) rfl w_46 rfl (fun _ h => h) (fun _ => rfl) (by decide) (by decide) (by decide) (by first | decide | omega | (dsimp only; omega)) (by first | decide | omega | (dsimp only; omega)) d_M_init_198 ?_
  refine GK.eqN (N' := 167) (st' := [.ref (z + 166), .ref (z + 145)]) (by omega) rfl ?_
  refine bk_put C hin (j := 145) (ci := 8) (k := 28) (fs := [.int 0, .int 0, .ref (z + 146), .ref (z + 147), .ref (z + 148), .ref (z + 149), .ref (z + 150), .ref (z + 151), .ref (z + 152), .ref (z + 153), .ref (z + 154), .ref (z + 155), .ref (z + 156), .int 0, .int 0, .int 0, .int 0, .ref (z + 157), .ref (z + 158), .ref (z + 159), .ref (z + 160), .ref (z + 161), .int 0, .ref (z + 162), .int 0, .ref (z + 163), .ref (z + 164), .ref (z + 165), .null, .null]) ft_M k_M n_M (by omega) (by first | (rw [va_up_ne _ _ (by omega), va_up_self]; done) | (rw [va_up_ne _ _ (by omega), va_up_self]; rfl)) rfl in_M (by decide) w_689 rfl (k_M 28 (by decide)) rfl rfl (Nat.le_of_ble_eq_true rfl) d_M_init_200 ?_
  refine bk_aload_n C d_M_init_203 rfl ?_
  refine bk_bipush C (v := 31) d_M_init_204 (by decide) ?_
  refine bk_newa C (atype := .long) (ty := .long) (a0 := (31, .inr (.inl (fun _ => 0)))) (N0 := 31) (t0 := 1) (cT := tc 1) rfl w_231 rfl (fun _ h => h) (fun _ => rfl) (by decide) (by decide) (by decide) (by first | decide | omega | (dsimp only; omega)) (by first | decide | omega | (dsimp only; omega)) d_M_init_206 ?_
  refine GK.eqN (N' := 168) (st' := [.ref (z + 167), .ref (z + 145)]) (by omega) rfl ?_
  refine bk_put C hin (j := 145) (ci := 8) (k := 29) (fs := [.int 0, .int 0, .ref (z + 146), .ref (z + 147), .ref (z + 148), .ref (z + 149), .ref (z + 150), .ref (z + 151), .ref (z + 152), .ref (z + 153), .ref (z + 154), .ref (z + 155), .ref (z + 156), .int 0, .int 0, .int 0, .int 0, .ref (z + 157), .ref (z + 158), .ref (z + 159), .ref (z + 160), .ref (z + 161), .int 0, .ref (z + 162), .int 0, .ref (z + 163), .ref (z + 164), .ref (z + 165), .ref (z + 166), .null]) ft_M k_M n_M (by omega) (by first | (rw [va_up_ne _ _ (by omega), va_up_self]; done) | (rw [va_up_ne _ _ (by omega), va_up_self]; rfl)) rfl in_M (by decide) w_690 rfl (k_M 29 (by decide)) rfl rfl (Nat.le_of_ble_eq_true rfl) d_M_init_208 ?_
  refine bk_iconst C (v := 0) d_M_init_211 (by decide) ?_
  refine bk_istore_n C (lo' := [(1, .int 0), (0, .ref (z + 145))]) d_M_init_212 rfl (by decide) rfl ?_
  refine bk_iload_n C d_M_init_213 rfl ?_
  refine bk_iconst C (v := 5) d_M_init_214 (by decide) ?_
  refine bk_icmp_ge C (tgt := 232) d_M_init_215 rfl (fun hb => absurd hb (by decide)) (fun _ => ?_)
  refine bk_aload_n C d_M_init_218 rfl ?_
  refine bk_get C (j := 145) (ci := 8) (k := 6) (fs := [.int 0, .int 0, .ref (z + 146), .ref (z + 147), .ref (z + 148), .ref (z + 149), .ref (z + 150), .ref (z + 151), .ref (z + 152), .ref (z + 153), .ref (z + 154), .ref (z + 155), .ref (z + 156), .int 0, .int 0, .int 0, .int 0, .ref (z + 157), .ref (z + 158), .ref (z + 159), .ref (z + 160), .ref (z + 161), .int 0, .ref (z + 162), .int 0, .ref (z + 163), .ref (z + 164), .ref (z + 165), .ref (z + 166), .ref (z + 167)]) (v := .ref (z + 150)) (by omega) (by first | (rw [va_up_self]; done) | (rw [va_up_self]; rfl)) rfl in_M (by decide) w_667 rfl d_M_init_219 ?_
  refine bk_iload_n C d_M_init_222 rfl ?_
  refine bk_bipush C (v := 100) d_M_init_223 (by decide) ?_
  refine bk_iast C (ja := 150) (a := 0) (n := 5) (t0 := 0) (cT := tc 0) (f := fun _ => 0) (x := 100) (by omega) (by first | (rw [va_up_ne _ _ (by omega), va_up_ne _ _ (by omega), va_up_ne _ _ (by omega), va_up_ne _ _ (by omega), va_up_ne _ _ (by omega), va_up_ne _ _ (by omega), va_up_ne _ _ (by omega), va_up_ne _ _ (by omega), va_up_ne _ _ (by omega), va_up_ne _ _ (by omega), va_up_ne _ _ (by omega), va_up_ne _ _ (by omega), va_up_ne _ _ (by omega), va_up_ne _ _ (by omega), va_up_ne _ _ (by omega), va_up_ne _ _ (by omega), va_up_ne _ _ (by omega), va_up_ne _ _ (by omega), va_up_ne _ _ (by omega), va_up_ne _ _ (by omega), va_up_ne _ _ (by omega), va_up_ne _ _ (by omega), va_up_ne _ _ (by omega), va_up_ne _ _ (by omega), va_up_ne _ _ (by omega), va_up_ne _ _ (by omega), va_up_ne _ _ (by omega), va_up_ne _ _ (by omega), va_up_ne _ _ (by omega), va_up_ne _ _ (by omega), va_up_ne _ _ (by omega), va_up_ne _ _ (by omega), va_up_ne _ _ (by omega), va_up_ne _ _ (by omega), va_up_ne _ _ (by omega), va_up_ne _ _ (by omega), va_up_ne _ _ (by omega), va_up_ne _ _ (by omega), va_up_ne _ _ (by omega), va_up_ne _ _ (by omega), va_up_ne _ _ (by omega), va_up_self]; done) | (rw [va_up_ne _ _ (by omega), va_up_ne _ _ (by omega), va_up_ne _ _ (by omega), va_up_ne _ _ (by omega), va_up_ne _ _ (by omega), va_up_ne _ _ (by omega), va_up_ne _ _ (by omega), va_up_ne _ _ (by omega), va_up_ne _ _ (by omega), va_up_ne _ _ (by omega), va_up_ne _ _ (by omega), va_up_ne _ _ (by omega), va_up_ne _ _ (by omega), va_up_ne _ _ (by omega), va_up_ne _ _ (by omega), va_up_ne _ _ (by omega), va_up_ne _ _ (by omega), va_up_ne _ _ (by omega), va_up_ne _ _ (by omega), va_up_ne _ _ (by omega), va_up_ne _ _ (by omega), va_up_ne _ _ (by omega), va_up_ne _ _ (by omega), va_up_ne _ _ (by omega), va_up_ne _ _ (by omega), va_up_ne _ _ (by omega), va_up_ne _ _ (by omega), va_up_ne _ _ (by omega), va_up_ne _ _ (by omega), va_up_ne _ _ (by omega), va_up_ne _ _ (by omega), va_up_ne _ _ (by omega), va_up_ne _ _ (by omega), va_up_ne _ _ (by omega), va_up_ne _ _ (by omega), va_up_ne _ _ (by omega), va_up_ne _ _ (by omega), va_up_ne _ _ (by omega), va_up_ne _ _ (by omega), va_up_ne _ _ (by omega), va_up_ne _ _ (by omega), va_up_self]; rfl)) rfl rfl (by decide) (by decide) d_M_init_225 ?_
  refine bk_iinc C (k := 0) (w := 1) (lo' := [(1, .int 1), (0, .ref (z + 145))]) d_M_init_226 rfl (by decide) (by decide) rfl ?_
  refine bk_goto C (tgt := 213) d_M_init_229 rfl ?_
  refine bk_iload_n C d_M_init_213 rfl ?_
  refine bk_iconst C (v := 5) d_M_init_214 (by decide) ?_
  refine bk_icmp_ge C (tgt := 232) d_M_init_215 rfl (fun hb => absurd hb (by decide)) (fun _ => ?_)
  refine bk_aload_n C d_M_init_218 rfl ?_
  refine bk_get C (j := 145) (ci := 8) (k := 6) (fs := [.int 0, .int 0, .ref (z + 146), .ref (z + 147), .ref (z + 148), .ref (z + 149), .ref (z + 150), .ref (z + 151), .ref (z + 152), .ref (z + 153), .ref (z + 154), .ref (z + 155), .ref (z + 156), .int 0, .int 0, .int 0, .int 0, .ref (z + 157), .ref (z + 158), .ref (z + 159), .ref (z + 160), .ref (z + 161), .int 0, .ref (z + 162), .int 0, .ref (z + 163), .ref (z + 164), .ref (z + 165), .ref (z + 166), .ref (z + 167)]) (v := .ref (z + 150)) (by omega) (by first | (rw [va_up_ne _ _ (by omega), va_up_self]; done) | (rw [va_up_ne _ _ (by omega), va_up_self]; rfl)) rfl in_M (by decide) w_667 rfl d_M_init_219 ?_
  refine bk_iload_n C d_M_init_222 rfl ?_
  refine bk_bipush C (v := 100) d_M_init_223 (by decide) ?_
  refine bk_iast C (ja := 150) (a := 1) (n := 5) (t0 := 0) (cT := tc 0) (f := upd (fun _ => 0) 0 100) (x := 100) (by omega) (by first | (rw [va_up_self]; done) | (rw [va_up_self]; rfl)) rfl rfl (by decide) (by decide) d_M_init_225 ?_
  refine bk_iinc C (k := 0) (w := 2) (lo' := [(1, .int 2), (0, .ref (z + 145))]) d_M_init_226 rfl (by decide) (by decide) rfl ?_
  refine bk_goto C (tgt := 213) d_M_init_229 rfl ?_
  refine bk_iload_n C d_M_init_213 rfl ?_
  refine bk_iconst C (v := 5) d_M_init_214 (by decide) ?_
  refine bk_icmp_ge C (tgt := 232) d_M_init_215 rfl (fun hb => absurd hb (by decide)) (fun _ => ?_)
  refine bk_aload_n C d_M_init_218 rfl ?_
  refine bk_get C (j := 145) (ci := 8) (k := 6) (fs := [.int 0, .int 0, .ref (z + 146), .ref (z + 147), .ref (z + 148), .ref (z + 149), .ref (z + 150), .ref (z + 151), .ref (z + 152), .ref (z + 153), .ref (z + 154), .ref (z + 155), .ref (z + 156), .int 0, .int 0, .int 0, .int 0, .ref (z + 157), .ref (z + 158), .ref (z + 159), .ref (z + 160), .ref (z + 161), .int 0, .ref (z + 162), .int 0, .ref (z + 163), .ref (z + 164), .ref (z + 165), .ref (z + 166), .ref (z + 167)]) (v := .ref (z + 150)) (by omega) (by first | (rw [va_up_ne _ _ (by omega), va_up_ne _ _ (by omega), va_up_self]; done) | (rw [va_up_ne _ _ (by omega), va_up_ne _ _ (by omega), va_up_self]; rfl)) rfl in_M (by decide) w_667 rfl d_M_init_219 ?_
  refine bk_iload_n C d_M_init_222 rfl ?_
  refine bk_bipush C (v := 100) d_M_init_223 (by decide) ?_
  refine bk_iast C (ja := 150) (a := 2) (n := 5) (t0 := 0) (cT := tc 0) (f := upd (upd (fun _ => 0) 0 100) 1 100) (x := 100) (by omega) (by first | (rw [va_up_self]; done) | (rw [va_up_self]; rfl)) rfl rfl (by decide) (by decide) d_M_init_225 ?_
  refine bk_iinc C (k := 0) (w := 3) (lo' := [(1, .int 3), (0, .ref (z + 145))]) d_M_init_226 rfl (by decide) (by decide) rfl ?_
  refine bk_goto C (tgt := 213) d_M_init_229 rfl ?_
  refine bk_iload_n C d_M_init_213 rfl ?_
  refine bk_iconst C (v := 5) d_M_init_214 (by decide) ?_
  refine bk_icmp_ge C (tgt := 232) d_M_init_215 rfl (fun hb => absurd hb (by decide)) (fun _ => ?_)
  refine bk_aload_n C d_M_init_218 rfl ?_
  refine bk_get C (j := 145) (ci := 8) (k := 6) (fs := [.int 0, .int 0, .ref (z + 146), .ref (z + 147), .ref (z + 148), .ref (z + 149), .ref (z + 150), .ref (z + 151), .ref (z + 152), .ref (z + 153), .ref (z + 154), .ref (z + 155), .ref (z + 156), .int 0, .int 0, .int 0, .int 0, .ref (z + 157), .ref (z + 158), .ref (z + 159), .ref (z + 160), .ref (z + 161), .int 0, .ref (z + 162), .int 0, .ref (z + 163), .ref (z + 164), .ref (z + 165), .ref (z + 166), .ref (z + 167)]) (v := .ref (z + 150)) (by omega) (by first | (rw [va_up_ne _ _ (by omega), va_up_ne _ _ (by omega), va_up_ne _ _ (by omega), va_up_self]; done) | (rw [va_up_ne _ _ (by omega), va_up_ne _ _ (by omega), va_up_ne _ _ (by omega), va_up_self]; rfl)) rfl in_M (by decide) w_667 rfl d_M_init_219 ?_
  refine bk_iload_n C d_M_init_222 rfl ?_
  refine bk_bipush C (v := 100) d_M_init_223 (by decide) ?_
  refine bk_iast C (ja := 150) (a := 3) (n := 5) (t0 := 0) (cT := tc 0) (f := upd (upd (upd (fun _ => 0) 0 100) 1 100) 2 100) (x := 100) (by omega) (by first | (rw [va_up_self]; done) | (rw [va_up_self]; rfl)) rfl rfl (by decide) (by decide) d_M_init_225 ?_
  refine bk_iinc C (k := 0) (w := 4) (lo' := [(1, .int 4), (0, .ref (z + 145))]) d_M_init_226 rfl (by decide) (by decide) rfl ?_
  refine bk_goto C (tgt := 213) d_M_init_229 rfl ?_
  refine bk_iload_n C d_M_init_213 rfl ?_
  refine bk_iconst C (v := 5) d_M_init_214 (by decide) ?_
  refine bk_icmp_ge C (tgt := 232) d_M_init_215 rfl (fun hb => absurd hb (by decide)) (fun _ => ?_)
  refine bk_aload_n C d_M_init_218 rfl ?_
  refine bk_get C (j := 145) (ci := 8) (k := 6) (fs := [.int 0, .int 0, .ref (z + 146), .ref (z + 147), .ref (z + 148), .ref (z + 149), .ref (z + 150), .ref (z + 151), .ref (z + 152), .ref (z + 153), .ref (z + 154), .ref (z + 155), .ref (z + 156), .int 0, .int 0, .int 0, .int 0, .ref (z + 157), .ref (z + 158), .ref (z + 159), .ref (z + 160), .ref (z + 161), .int 0, .ref (z + 162), .int 0, .ref (z + 163), .ref (z + 164), .ref (z + 165), .ref (z + 166), .ref (z + 167)]) (v := .ref (z + 150)) (by omega) (by first | (rw [va_up_ne _ _ (by omega), va_up_ne _ _ (by omega), va_up_ne _ _ (by omega), va_up_ne _ _ (by omega), va_up_self]; done) | (rw [va_up_ne _ _ (by omega), va_up_ne _ _ (by omega), va_up_ne _ _ (by omega), va_up_ne _ _ (by omega), va_up_self]; rfl)) rfl in_M (by decide) w_667 rfl d_M_init_219 ?_
  refine bk_iload_n C d_M_init_222 rfl ?_
  refine bk_bipush C (v := 100) d_M_init_223 (by decide) ?_
  refine bk_iast C (ja := 150) (a := 4) (n := 5) (t0 := 0) (cT := tc 0) (f := upd (upd (upd (upd (fun _ => 0) 0 100) 1 100) 2 100) 3 100) (x := 100) (by omega) (by first | (rw [va_up_self]; done) | (rw [va_up_self]; rfl)) rfl rfl (by decide) (by decide) d_M_init_225 ?_
  refine bk_iinc C (k := 0) (w := 5) (lo' := [(1, .int 5), (0, .ref (z + 145))]) d_M_init_226 rfl (by decide) (by decide) rfl ?_
  refine bk_goto C (tgt := 213) d_M_init_229 rfl ?_
  refine bk_iload_n C d_M_init_213 rfl ?_
  refine bk_iconst C (v := 5) d_M_init_214 (by decide) ?_
  refine bk_icmp_ge C (tgt := 232) d_M_init_215 rfl (fun _ => ?_) (fun hb => absurd (by decide) hb)
  refine bk_iconst C (v := 0) d_M_init_232 (by decide) ?_
  refine bk_istore_n C (lo' := [(1, .int 0), (0, .ref (z + 145))]) d_M_init_233 rfl (by decide) rfl ?_
  refine bk_iload_n C d_M_init_234 rfl ?_
  refine bk_iconst C (v := 4) d_M_init_235 (by decide) ?_
  refine bk_icmp_ge C (tgt := 252) d_M_init_236 rfl (fun hb => absurd hb (by decide)) (fun _ => ?_)
  refine bk_aload_n C d_M_init_239 rfl ?_
  refine bk_get C (j := 145) (ci := 8) (k := 10) (fs := [.int 0, .int 0, .ref (z + 146), .ref (z + 147), .ref (z + 148), .ref (z + 149), .ref (z + 150), .ref (z + 151), .ref (z + 152), .ref (z + 153), .ref (z + 154), .ref (z + 155), .ref (z + 156), .int 0, .int 0, .int 0, .int 0, .ref (z + 157), .ref (z + 158), .ref (z + 159), .ref (z + 160), .ref (z + 161), .int 0, .ref (z + 162), .int 0, .ref (z + 163), .ref (z + 164), .ref (z + 165), .ref (z + 166), .ref (z + 167)]) (v := .ref (z + 154)) (by omega) (by first | (rw [va_up_ne _ _ (by omega), va_up_ne _ _ (by omega), va_up_ne _ _ (by omega), va_up_ne _ _ (by omega), va_up_ne _ _ (by omega), va_up_self]; done) | (rw [va_up_ne _ _ (by omega), va_up_ne _ _ (by omega), va_up_ne _ _ (by omega), va_up_ne _ _ (by omega), va_up_ne _ _ (by omega), va_up_self]; rfl)) rfl in_M (by decide) w_671 rfl d_M_init_240 ?_
  refine bk_iload_n C d_M_init_243 rfl ?_
  refine bk_iconst C (v := 1) d_M_init_244 (by decide) ?_
  refine bk_zast C (ja := 154) (a := 0) (n := 4) (t0 := 2) (cT := tc 2) (f := fun _ => 0) (x := 1) (by omega) (by first | (rw [va_up_ne _ _ (by omega), va_up_ne _ _ (by omega), va_up_ne _ _ (by omega), va_up_ne _ _ (by omega), va_up_ne _ _ (by omega), va_up_ne _ _ (by omega), va_up_ne _ _ (by omega), va_up_ne _ _ (by omega), va_up_ne _ _ (by omega), va_up_ne _ _ (by omega), va_up_ne _ _ (by omega), va_up_ne _ _ (by omega), va_up_ne _ _ (by omega), va_up_ne _ _ (by omega), va_up_ne _ _ (by omega), va_up_ne _ _ (by omega), va_up_ne _ _ (by omega), va_up_ne _ _ (by omega), va_up_ne _ _ (by omega), va_up_ne _ _ (by omega), va_up_ne _ _ (by omega), va_up_ne _ _ (by omega), va_up_ne _ _ (by omega), va_up_ne _ _ (by omega), va_up_ne _ _ (by omega), va_up_ne _ _ (by omega), va_up_ne _ _ (by omega), va_up_ne _ _ (by omega), va_up_ne _ _ (by omega), va_up_ne _ _ (by omega), va_up_ne _ _ (by omega), va_up_ne _ _ (by omega), va_up_ne _ _ (by omega), va_up_ne _ _ (by omega), va_up_ne _ _ (by omega), va_up_ne _ _ (by omega), va_up_ne _ _ (by omega), va_up_ne _ _ (by omega), va_up_self]; done) | (rw [va_up_ne _ _ (by omega), va_up_ne _ _ (by omega), va_up_ne _ _ (by omega), va_up_ne _ _ (by omega), va_up_ne _ _ (by omega), va_up_ne _ _ (by omega), va_up_ne _ _ (by omega), va_up_ne _ _ (by omega), va_up_ne _ _ (by omega), va_up_ne _ _ (by omega), va_up_ne _ _ (by omega), va_up_ne _ _ (by omega), va_up_ne _ _ (by omega), va_up_ne _ _ (by omega), va_up_ne _ _ (by omega), va_up_ne _ _ (by omega), va_up_ne _ _ (by omega), va_up_ne _ _ (by omega), va_up_ne _ _ (by omega), va_up_ne _ _ (by omega), va_up_ne _ _ (by omega), va_up_ne _ _ (by omega), va_up_ne _ _ (by omega), va_up_ne _ _ (by omega), va_up_ne _ _ (by omega), va_up_ne _ _ (by omega), va_up_ne _ _ (by omega), va_up_ne _ _ (by omega), va_up_ne _ _ (by omega), va_up_ne _ _ (by omega), va_up_ne _ _ (by omega), va_up_ne _ _ (by omega), va_up_ne _ _ (by omega), va_up_ne _ _ (by omega), va_up_ne _ _ (by omega), va_up_ne _ _ (by omega), va_up_ne _ _ (by omega), va_up_ne _ _ (by omega), va_up_self]; rfl)) rfl rfl (by decide) (by decide) rfl d_M_init_245 ?_
  refine bk_iinc C (k := 0) (w := 1) (lo' := [(1, .int 1), (0, .ref (z + 145))]) d_M_init_246 rfl (by decide) (by decide) rfl ?_
  refine bk_goto C (tgt := 234) d_M_init_249 rfl ?_
  refine bk_iload_n C d_M_init_234 rfl ?_
  refine bk_iconst C (v := 4) d_M_init_235 (by decide) ?_
  refine bk_icmp_ge C (tgt := 252) d_M_init_236 rfl (fun hb => absurd hb (by decide)) (fun _ => ?_)
  refine bk_aload_n C d_M_init_239 rfl ?_
  refine bk_get C (j := 145) (ci := 8) (k := 10) (fs := [.int 0, .int 0, .ref (z + 146), .ref (z + 147), .ref (z + 148), .ref (z + 149), .ref (z + 150), .ref (z + 151), .ref (z + 152), .ref (z + 153), .ref (z + 154), .ref (z + 155), .ref (z + 156), .int 0, .int 0, .int 0, .int 0, .ref (z + 157), .ref (z + 158), .ref (z + 159), .ref (z + 160), .ref (z + 161), .int 0, .ref (z + 162), .int 0, .ref (z + 163), .ref (z + 164), .ref (z + 165), .ref (z + 166), .ref (z + 167)]) (v := .ref (z + 154)) (by omega) (by first | (rw [va_up_ne _ _ (by omega), va_up_ne _ _ (by omega), va_up_ne _ _ (by omega), va_up_ne _ _ (by omega), va_up_ne _ _ (by omega), va_up_ne _ _ (by omega), va_up_self]; done) | (rw [va_up_ne _ _ (by omega), va_up_ne _ _ (by omega), va_up_ne _ _ (by omega), va_up_ne _ _ (by omega), va_up_ne _ _ (by omega), va_up_ne _ _ (by omega), va_up_self]; rfl)) rfl in_M (by decide) w_671 rfl d_M_init_240 ?_
  refine bk_iload_n C d_M_init_243 rfl ?_
  refine bk_iconst C (v := 1) d_M_init_244 (by decide) ?_
  refine bk_zast C (ja := 154) (a := 1) (n := 4) (t0 := 2) (cT := tc 2) (f := upd (fun _ => 0) 0 1) (x := 1) (by omega) (by first | (rw [va_up_self]; done) | (rw [va_up_self]; rfl)) rfl rfl (by decide) (by decide) rfl d_M_init_245 ?_
  refine bk_iinc C (k := 0) (w := 2) (lo' := [(1, .int 2), (0, .ref (z + 145))]) d_M_init_246 rfl (by decide) (by decide) rfl ?_
  refine bk_goto C (tgt := 234) d_M_init_249 rfl ?_
  refine bk_iload_n C d_M_init_234 rfl ?_
  refine bk_iconst C (v := 4) d_M_init_235 (by decide) ?_
  refine bk_icmp_ge C (tgt := 252) d_M_init_236 rfl (fun hb => absurd hb (by decide)) (fun _ => ?_)
  refine bk_aload_n C d_M_init_239 rfl ?_
  refine bk_get C (j := 145) (ci := 8) (k := 10) (fs := [.int 0, .int 0, .ref (z + 146), .ref (z + 147), .ref (z + 148), .ref (z + 149), .ref (z + 150), .ref (z + 151), .ref (z + 152), .ref (z + 153), .ref (z + 154), .ref (z + 155), .ref (z + 156), .int 0, .int 0, .int 0, .int 0, .ref (z + 157), .ref (z + 158), .ref (z + 159), .ref (z + 160), .ref (z + 161), .int 0, .ref (z + 162), .int 0, .ref (z + 163), .ref (z + 164), .ref (z + 165), .ref (z + 166), .ref (z + 167)]) (v := .ref (z + 154)) (by omega) (by first | (rw [va_up_ne _ _ (by omega), va_up_ne _ _ (by omega), va_up_ne _ _ (by omega), va_up_ne _ _ (by omega), va_up_ne _ _ (by omega), va_up_ne _ _ (by omega), va_up_ne _ _ (by omega), va_up_self]; done) | (rw [va_up_ne _ _ (by omega), va_up_ne _ _ (by omega), va_up_ne _ _ (by omega), va_up_ne _ _ (by omega), va_up_ne _ _ (by omega), va_up_ne _ _ (by omega), va_up_ne _ _ (by omega), va_up_self]; rfl)) rfl in_M (by decide) w_671 rfl d_M_init_240 ?_
  refine bk_iload_n C d_M_init_243 rfl ?_
  refine bk_iconst C (v := 1) d_M_init_244 (by decide) ?_
  refine bk_zast C (ja := 154) (a := 2) (n := 4) (t0 := 2) (cT := tc 2) (f := upd (upd (fun _ => 0) 0 1) 1 1) (x := 1) (by omega) (by first | (rw [va_up_self]; done) | (rw [va_up_self]; rfl)) rfl rfl (by decide) (by decide) rfl d_M_init_245 ?_
  refine bk_iinc C (k := 0) (w := 3) (lo' := [(1, .int 3), (0, .ref (z + 145))]) d_M_init_246 rfl (by decide) (by decide) rfl ?_
  refine bk_goto C (tgt := 234) d_M_init_249 rfl ?_
  refine bk_iload_n C d_M_init_234 rfl ?_
  refine bk_iconst C (v := 4) d_M_init_235 (by decide) ?_
  refine bk_icmp_ge C (tgt := 252) d_M_init_236 rfl (fun hb => absurd hb (by decide)) (fun _ => ?_)
  refine bk_aload_n C d_M_init_239 rfl ?_
  refine bk_get C (j := 145) (ci := 8) (k := 10) (fs := [.int 0, .int 0, .ref (z + 146), .ref (z + 147), .ref (z + 148), .ref (z + 149), .ref (z + 150), .ref (z + 151), .ref (z + 152), .ref (z + 153), .ref (z + 154), .ref (z + 155), .ref (z + 156), .int 0, .int 0, .int 0, .int 0, .ref (z + 157), .ref (z + 158), .ref (z + 159), .ref (z + 160), .ref (z + 161), .int 0, .ref (z + 162), .int 0, .ref (z + 163), .ref (z + 164), .ref (z + 165), .ref (z + 166), .ref (z + 167)]) (v := .ref (z + 154)) (by omega) (by first | (rw [va_up_ne _ _ (by omega), va_up_ne _ _ (by omega), va_up_ne _ _ (by omega), va_up_ne _ _ (by omega), va_up_ne _ _ (by omega), va_up_ne _ _ (by omega), va_up_ne _ _ (by omega), va_up_ne _ _ (by omega), va_up_self]; done) | (rw [va_up_ne _ _ (by omega), va_up_ne _ _ (by omega), va_up_ne _ _ (by omega), va_up_ne _ _ (by omega), va_up_ne _ _ (by omega), va_up_ne _ _ (by omega), va_up_ne _ _ (by omega), va_up_ne _ _ (by omega), va_up_self]; rfl)) rfl in_M (by decide) w_671 rfl d_M_init_240 ?_
  refine bk_iload_n C d_M_init_243 rfl ?_
  refine bk_iconst C (v := 1) d_M_init_244 (by decide) ?_
  refine bk_zast C (ja := 154) (a := 3) (n := 4) (t0 := 2) (cT := tc 2) (f := upd (upd (upd (fun _ => 0) 0 1) 1 1) 2 1) (x := 1) (by omega) (by first | (rw [va_up_self]; done) | (rw [va_up_self]; rfl)) rfl rfl (by decide) (by decide) rfl d_M_init_245 ?_
  refine bk_iinc C (k := 0) (w := 4) (lo' := [(1, .int 4), (0, .ref (z + 145))]) d_M_init_246 rfl (by decide) (by decide) rfl ?_
  refine bk_goto C (tgt := 234) d_M_init_249 rfl ?_
  refine bk_iload_n C d_M_init_234 rfl ?_
  refine bk_iconst C (v := 4) d_M_init_235 (by decide) ?_
  refine bk_icmp_ge C (tgt := 252) d_M_init_236 rfl (fun _ => ?_) (fun hb => absurd (by decide) hb)
  refine bk_ret C hr (by decide) (by decide) d_M_init_252 ?_
  refine ⟨fun i h1 h2 => ?_, fun i hi _ => by rw [va_up_ne _ _ (by omega), va_up_ne _ _ (by omega), va_up_ne _ _ (by omega), va_up_ne _ _ (by omega), va_up_ne _ _ (by omega), va_up_ne _ _ (by omega), va_up_ne _ _ (by omega), va_up_ne _ _ (by omega), va_up_ne _ _ (by omega), va_up_ne _ _ (by omega), va_up_ne _ _ (by omega), va_up_ne _ _ (by omega), va_up_ne _ _ (by omega), va_up_ne _ _ (by omega), va_up_ne _ _ (by omega), va_up_ne _ _ (by omega), va_up_ne _ _ (by omega), va_up_ne _ _ (by omega), va_up_ne _ _ (by omega), va_up_ne _ _ (by omega), va_up_ne _ _ (by omega), va_up_ne _ _ (by omega), va_up_ne _ _ (by omega), va_up_ne _ _ (by omega), va_up_ne _ _ (by omega), va_up_ne _ _ (by omega), va_up_ne _ _ (by omega), va_up_ne _ _ (by omega), va_up_ne _ _ (by omega), va_up_ne _ _ (by omega), va_up_ne _ _ (by omega), va_up_ne _ _ (by omega), va_up_ne _ _ (by omega), va_up_ne _ _ (by omega), va_up_ne _ _ (by omega), va_up_ne _ _ (by omega), va_up_ne _ _ (by omega), va_up_ne _ _ (by omega), va_up_ne _ _ (by omega), va_up_ne _ _ (by omega), va_up_ne _ _ (by omega), va_up_ne _ _ (by omega), va_up_ne _ _ (by omega), va_up_ne _ _ (by omega), va_up_ne _ _ (by omega), va_up_ne _ _ (by omega), va_up_ne _ _ (by omega), va_up_ne _ _ (by omega), va_up_ne _ _ (by omega), va_up_ne _ _ (by omega), va_up_ne _ _ (by omega), va_up_ne _ _ (by omega), va_up_ne _ _ (by omega), va_up_ne _ _ (by omega), va_up_ne _ _ (by omega), va_up_ne _ _ (by omega), va_up_ne _ _ (by omega), va_up_ne _ _ (by omega), va_up_ne _ _ (by omega), va_up_ne _ _ (by omega), va_up_ne _ _ (by omega)]⟩
  have hcase : i = 145 ∨ i = 146 ∨ i = 147 ∨ i = 148 ∨ i = 149 ∨ i = 150 ∨ i = 151 ∨ i = 152 ∨ i = 153 ∨ i = 154 ∨ i = 155 ∨ i = 156 ∨ i = 157 ∨ i = 158 ∨ i = 159 ∨ i = 160 ∨ i = 161 ∨ i = 162 ∨ i = 163 ∨ i = 164 ∨ i = 165 ∨ i = 166 ∨ i = 167 := by omega
  rcases hcase with rfl | rfl | rfl | rfl | rfl | rfl | rfl | rfl | rfl | rfl | rfl | rfl | rfl | rfl | rfl | rfl | rfl | rfl | rfl | rfl | rfl | rfl | rfl
  · rw [va_up_ne _ _ (by omega), va_up_ne _ _ (by omega), va_up_ne _ _ (by omega), va_up_ne _ _ (by omega), va_up_ne _ _ (by omega), va_up_ne _ _ (by omega), va_up_ne _ _ (by omega), va_up_ne _ _ (by omega), va_up_ne _ _ (by omega), va_up_self]; rfl
  · rw [va_up_ne _ _ (by omega), va_up_ne _ _ (by omega), va_up_ne _ _ (by omega), va_up_ne _ _ (by omega), va_up_ne _ _ (by omega), va_up_ne _ _ (by omega), va_up_ne _ _ (by omega), va_up_ne _ _ (by omega), va_up_ne _ _ (by omega), va_up_ne _ _ (by omega), va_up_ne _ _ (by omega), va_up_ne _ _ (by omega), va_up_ne _ _ (by omega), va_up_ne _ _ (by omega), va_up_ne _ _ (by omega), va_up_ne _ _ (by omega), va_up_ne _ _ (by omega), va_up_ne _ _ (by omega), va_up_ne _ _ (by omega), va_up_ne _ _ (by omega), va_up_ne _ _ (by omega), va_up_ne _ _ (by omega), va_up_ne _ _ (by omega), va_up_ne _ _ (by omega), va_up_ne _ _ (by omega), va_up_ne _ _ (by omega), va_up_ne _ _ (by omega), va_up_ne _ _ (by omega), va_up_ne _ _ (by omega), va_up_ne _ _ (by omega), va_up_ne _ _ (by omega), va_up_ne _ _ (by omega), va_up_ne _ _ (by omega), va_up_ne _ _ (by omega), va_up_ne _ _ (by omega), va_up_ne _ _ (by omega), va_up_ne _ _ (by omega), va_up_ne _ _ (by omega), va_up_ne _ _ (by omega), va_up_ne _ _ (by omega), va_up_ne _ _ (by omega), va_up_ne _ _ (by omega), va_up_ne _ _ (by omega), va_up_ne _ _ (by omega), va_up_ne _ _ (by omega), va_up_ne _ _ (by omega), va_up_ne _ _ (by omega), va_up_ne _ _ (by omega), va_up_ne _ _ (by omega), va_up_ne _ _ (by omega), va_up_ne _ _ (by omega), va_up_ne _ _ (by omega), va_up_ne _ _ (by omega), va_up_ne _ _ (by omega), va_up_ne _ _ (by omega), va_up_ne _ _ (by omega), va_up_ne _ _ (by omega), va_up_ne _ _ (by omega), va_up_self]; rfl
  · rw [va_up_ne _ _ (by omega), va_up_ne _ _ (by omega), va_up_ne _ _ (by omega), va_up_ne _ _ (by omega), va_up_ne _ _ (by omega), va_up_ne _ _ (by omega), va_up_ne _ _ (by omega), va_up_ne _ _ (by omega), va_up_ne _ _ (by omega), va_up_ne _ _ (by omega), va_up_ne _ _ (by omega), va_up_ne _ _ (by omega), va_up_ne _ _ (by omega), va_up_ne _ _ (by omega), va_up_ne _ _ (by omega), va_up_ne _ _ (by omega), va_up_ne _ _ (by omega), va_up_ne _ _ (by omega), va_up_ne _ _ (by omega), va_up_ne _ _ (by omega), va_up_ne _ _ (by omega), va_up_ne _ _ (by omega), va_up_ne _ _ (by omega), va_up_ne _ _ (by omega), va_up_ne _ _ (by omega), va_up_ne _ _ (by omega), va_up_ne _ _ (by omega), va_up_ne _ _ (by omega), va_up_ne _ _ (by omega), va_up_ne _ _ (by omega), va_up_ne _ _ (by omega), va_up_ne _ _ (by omega), va_up_ne _ _ (by omega), va_up_ne _ _ (by omega), va_up_ne _ _ (by omega), va_up_ne _ _ (by omega), va_up_ne _ _ (by omega), va_up_ne _ _ (by omega), va_up_ne _ _ (by omega), va_up_ne _ _ (by omega), va_up_ne _ _ (by omega), va_up_ne _ _ (by omega), va_up_ne _ _ (by omega), va_up_ne _ _ (by omega), va_up_ne _ _ (by omega), va_up_ne _ _ (by omega), va_up_ne _ _ (by omega), va_up_ne _ _ (by omega), va_up_ne _ _ (by omega), va_up_ne _ _ (by omega), va_up_ne _ _ (by omega), va_up_ne _ _ (by omega), va_up_ne _ _ (by omega), va_up_ne _ _ (by omega), va_up_ne _ _ (by omega), va_up_ne _ _ (by omega), va_up_self]; rfl
  · rw [va_up_ne _ _ (by omega), va_up_ne _ _ (by omega), va_up_ne _ _ (by omega), va_up_ne _ _ (by omega), va_up_ne _ _ (by omega), va_up_ne _ _ (by omega), va_up_ne _ _ (by omega), va_up_ne _ _ (by omega), va_up_ne _ _ (by omega), va_up_ne _ _ (by omega), va_up_ne _ _ (by omega), va_up_ne _ _ (by omega), va_up_ne _ _ (by omega), va_up_ne _ _ (by omega), va_up_ne _ _ (by omega), va_up_ne _ _ (by omega), va_up_ne _ _ (by omega), va_up_ne _ _ (by omega), va_up_ne _ _ (by omega), va_up_ne _ _ (by omega), va_up_ne _ _ (by omega), va_up_ne _ _ (by omega), va_up_ne _ _ (by omega), va_up_ne _ _ (by omega), va_up_ne _ _ (by omega), va_up_ne _ _ (by omega), va_up_ne _ _ (by omega), va_up_ne _ _ (by omega), va_up_ne _ _ (by omega), va_up_ne _ _ (by omega), va_up_ne _ _ (by omega), va_up_ne _ _ (by omega), va_up_ne _ _ (by omega), va_up_ne _ _ (by omega), va_up_ne _ _ (by omega), va_up_ne _ _ (by omega), va_up_ne _ _ (by omega), va_up_ne _ _ (by omega), va_up_ne _ _ (by omega), va_up_ne _ _ (by omega), va_up_ne _ _ (by omega), va_up_ne _ _ (by omega), va_up_ne _ _ (by omega), va_up_ne _ _ (by omega), va_up_ne _ _ (by omega), va_up_ne _ _ (by omega), va_up_ne _ _ (by omega), va_up_ne _ _ (by omega), va_up_ne _ _ (by omega), va_up_ne _ _ (by omega), va_up_ne _ _ (by omega), va_up_ne _ _ (by omega), va_up_ne _ _ (by omega), va_up_ne _ _ (by omega), va_up_self]; rfl
  · rw [va_up_ne _ _ (by omega), va_up_ne _ _ (by omega), va_up_ne _ _ (by omega), va_up_ne _ _ (by omega), va_up_ne _ _ (by omega), va_up_ne _ _ (by omega), va_up_ne _ _ (by omega), va_up_ne _ _ (by omega), va_up_ne _ _ (by omega), va_up_ne _ _ (by omega), va_up_ne _ _ (by omega), va_up_ne _ _ (by omega), va_up_ne _ _ (by omega), va_up_ne _ _ (by omega), va_up_ne _ _ (by omega), va_up_ne _ _ (by omega), va_up_ne _ _ (by omega), va_up_ne _ _ (by omega), va_up_ne _ _ (by omega), va_up_ne _ _ (by omega), va_up_ne _ _ (by omega), va_up_ne _ _ (by omega), va_up_ne _ _ (by omega), va_up_ne _ _ (by omega), va_up_ne _ _ (by omega), va_up_ne _ _ (by omega), va_up_ne _ _ (by omega), va_up_ne _ _ (by omega), va_up_ne _ _ (by omega), va_up_ne _ _ (by omega), va_up_ne _ _ (by omega), va_up_ne _ _ (by omega), va_up_ne _ _ (by omega), va_up_ne _ _ (by omega), va_up_ne _ _ (by omega), va_up_ne _ _ (by omega), va_up_ne _ _ (by omega), va_up_ne _ _ (by omega), va_up_ne _ _ (by omega), va_up_ne _ _ (by omega), va_up_ne _ _ (by omega), va_up_ne _ _ (by omega), va_up_ne _ _ (by omega), va_up_ne _ _ (by omega), va_up_ne _ _ (by omega), va_up_ne _ _ (by omega), va_up_ne _ _ (by omega), va_up_ne _ _ (by omega), va_up_ne _ _ (by omega), va_up_ne _ _ (by omega), va_up_ne _ _ (by omega), va_up_ne _ _ (by omega), va_up_self]; rfl
  · rw [va_up_ne _ _ (by omega), va_up_ne _ _ (by omega), va_up_ne _ _ (by omega), va_up_ne _ _ (by omega), va_up_self]; rfl
  · rw [va_up_ne _ _ (by omega), va_up_ne _ _ (by omega), va_up_ne _ _ (by omega), va_up_ne _ _ (by omega), va_up_ne _ _ (by omega), va_up_ne _ _ (by omega), va_up_ne _ _ (by omega), va_up_ne _ _ (by omega), va_up_ne _ _ (by omega), va_up_ne _ _ (by omega), va_up_ne _ _ (by omega), va_up_ne _ _ (by omega), va_up_ne _ _ (by omega), va_up_ne _ _ (by omega), va_up_ne _ _ (by omega), va_up_ne _ _ (by omega), va_up_ne _ _ (by omega), va_up_ne _ _ (by omega), va_up_ne _ _ (by omega), va_up_ne _ _ (by omega), va_up_ne _ _ (by omega), va_up_ne _ _ (by omega), va_up_ne _ _ (by omega), va_up_ne _ _ (by omega), va_up_ne _ _ (by omega), va_up_ne _ _ (by omega), va_up_ne _ _ (by omega), va_up_ne _ _ (by omega), va_up_ne _ _ (by omega), va_up_ne _ _ (by omega), va_up_ne _ _ (by omega), va_up_ne _ _ (by omega), va_up_ne _ _ (by omega), va_up_ne _ _ (by omega), va_up_ne _ _ (by omega), va_up_ne _ _ (by omega), va_up_ne _ _ (by omega), va_up_ne _ _ (by omega), va_up_ne _ _ (by omega), va_up_ne _ _ (by omega), va_up_ne _ _ (by omega), va_up_ne _ _ (by omega), va_up_ne _ _ (by omega), va_up_ne _ _ (by omega), va_up_ne _ _ (by omega), va_up_ne _ _ (by omega), va_up_ne _ _ (by omega), va_up_ne _ _ (by omega), va_up_self]; rfl
  · rw [va_up_ne _ _ (by omega), va_up_ne _ _ (by omega), va_up_ne _ _ (by omega), va_up_ne _ _ (by omega), va_up_ne _ _ (by omega), va_up_ne _ _ (by omega), va_up_ne _ _ (by omega), va_up_ne _ _ (by omega), va_up_ne _ _ (by omega), va_up_ne _ _ (by omega), va_up_ne _ _ (by omega), va_up_ne _ _ (by omega), va_up_ne _ _ (by omega), va_up_ne _ _ (by omega), va_up_ne _ _ (by omega), va_up_ne _ _ (by omega), va_up_ne _ _ (by omega), va_up_ne _ _ (by omega), va_up_ne _ _ (by omega), va_up_ne _ _ (by omega), va_up_ne _ _ (by omega), va_up_ne _ _ (by omega), va_up_ne _ _ (by omega), va_up_ne _ _ (by omega), va_up_ne _ _ (by omega), va_up_ne _ _ (by omega), va_up_ne _ _ (by omega), va_up_ne _ _ (by omega), va_up_ne _ _ (by omega), va_up_ne _ _ (by omega), va_up_ne _ _ (by omega), va_up_ne _ _ (by omega), va_up_ne _ _ (by omega), va_up_ne _ _ (by omega), va_up_ne _ _ (by omega), va_up_ne _ _ (by omega), va_up_ne _ _ (by omega), va_up_ne _ _ (by omega), va_up_ne _ _ (by omega), va_up_ne _ _ (by omega), va_up_ne _ _ (by omega), va_up_ne _ _ (by omega), va_up_ne _ _ (by omega), va_up_ne _ _ (by omega), va_up_ne _ _ (by omega), va_up_ne _ _ (by omega), va_up_self]; rfl
  · rw [va_up_ne _ _ (by omega), va_up_ne _ _ (by omega), va_up_ne _ _ (by omega), va_up_ne _ _ (by omega), va_up_ne _ _ (by omega), va_up_ne _ _ (by omega), va_up_ne _ _ (by omega), va_up_ne _ _ (by omega), va_up_ne _ _ (by omega), va_up_ne _ _ (by omega), va_up_ne _ _ (by omega), va_up_ne _ _ (by omega), va_up_ne _ _ (by omega), va_up_ne _ _ (by omega), va_up_ne _ _ (by omega), va_up_ne _ _ (by omega), va_up_ne _ _ (by omega), va_up_ne _ _ (by omega), va_up_ne _ _ (by omega), va_up_ne _ _ (by omega), va_up_ne _ _ (by omega), va_up_ne _ _ (by omega), va_up_ne _ _ (by omega), va_up_ne _ _ (by omega), va_up_ne _ _ (by omega), va_up_ne _ _ (by omega), va_up_ne _ _ (by omega), va_up_ne _ _ (by omega), va_up_ne _ _ (by omega), va_up_ne _ _ (by omega), va_up_ne _ _ (by omega), va_up_ne _ _ (by omega), va_up_ne _ _ (by omega), va_up_ne _ _ (by omega), va_up_ne _ _ (by omega), va_up_ne _ _ (by omega), va_up_ne _ _ (by omega), va_up_ne _ _ (by omega), va_up_ne _ _ (by omega), va_up_ne _ _ (by omega), va_up_ne _ _ (by omega), va_up_ne _ _ (by omega), va_up_ne _ _ (by omega), va_up_ne _ _ (by omega), va_up_self]; rfl
  · rw [va_up_self]; rfl
  · rw [va_up_ne _ _ (by omega), va_up_ne _ _ (by omega), va_up_ne _ _ (by omega), va_up_ne _ _ (by omega), va_up_ne _ _ (by omega), va_up_ne _ _ (by omega), va_up_ne _ _ (by omega), va_up_ne _ _ (by omega), va_up_ne _ _ (by omega), va_up_ne _ _ (by omega), va_up_ne _ _ (by omega), va_up_ne _ _ (by omega), va_up_ne _ _ (by omega), va_up_ne _ _ (by omega), va_up_ne _ _ (by omega), va_up_ne _ _ (by omega), va_up_ne _ _ (by omega), va_up_ne _ _ (by omega), va_up_ne _ _ (by omega), va_up_ne _ _ (by omega), va_up_ne _ _ (by omega), va_up_ne _ _ (by omega), va_up_ne _ _ (by omega), va_up_ne _ _ (by omega), va_up_ne _ _ (by omega), va_up_ne _ _ (by omega), va_up_ne _ _ (by omega), va_up_ne _ _ (by omega), va_up_ne _ _ (by omega), va_up_ne _ _ (by omega), va_up_ne _ _ (by omega), va_up_ne _ _ (by omega), va_up_ne _ _ (by omega), va_up_ne _ _ (by omega), va_up_ne _ _ (by omega), va_up_ne _ _ (by omega), va_up_ne _ _ (by omega), va_up_ne _ _ (by omega), va_up_ne _ _ (by omega), va_up_ne _ _ (by omega), va_up_self]; rfl
  · rw [va_up_ne _ _ (by omega), va_up_ne _ _ (by omega), va_up_ne _ _ (by omega), va_up_ne _ _ (by omega), va_up_ne _ _ (by omega), va_up_ne _ _ (by omega), va_up_ne _ _ (by omega), va_up_ne _ _ (by omega), va_up_ne _ _ (by omega), va_up_ne _ _ (by omega), va_up_ne _ _ (by omega), va_up_ne _ _ (by omega), va_up_ne _ _ (by omega), va_up_ne _ _ (by omega), va_up_ne _ _ (by omega), va_up_ne _ _ (by omega), va_up_ne _ _ (by omega), va_up_ne _ _ (by omega), va_up_ne _ _ (by omega), va_up_ne _ _ (by omega), va_up_ne _ _ (by omega), va_up_ne _ _ (by omega), va_up_ne _ _ (by omega), va_up_ne _ _ (by omega), va_up_ne _ _ (by omega), va_up_ne _ _ (by omega), va_up_ne _ _ (by omega), va_up_ne _ _ (by omega), va_up_ne _ _ (by omega), va_up_ne _ _ (by omega), va_up_ne _ _ (by omega), va_up_ne _ _ (by omega), va_up_ne _ _ (by omega), va_up_ne _ _ (by omega), va_up_ne _ _ (by omega), va_up_ne _ _ (by omega), va_up_ne _ _ (by omega), va_up_ne _ _ (by omega), va_up_self]; rfl
  · rw [va_up_ne _ _ (by omega), va_up_ne _ _ (by omega), va_up_ne _ _ (by omega), va_up_ne _ _ (by omega), va_up_ne _ _ (by omega), va_up_ne _ _ (by omega), va_up_ne _ _ (by omega), va_up_ne _ _ (by omega), va_up_ne _ _ (by omega), va_up_ne _ _ (by omega), va_up_ne _ _ (by omega), va_up_ne _ _ (by omega), va_up_ne _ _ (by omega), va_up_ne _ _ (by omega), va_up_ne _ _ (by omega), va_up_ne _ _ (by omega), va_up_ne _ _ (by omega), va_up_ne _ _ (by omega), va_up_ne _ _ (by omega), va_up_ne _ _ (by omega), va_up_ne _ _ (by omega), va_up_ne _ _ (by omega), va_up_ne _ _ (by omega), va_up_ne _ _ (by omega), va_up_ne _ _ (by omega), va_up_ne _ _ (by omega), va_up_ne _ _ (by omega), va_up_ne _ _ (by omega), va_up_ne _ _ (by omega), va_up_ne _ _ (by omega), va_up_ne _ _ (by omega), va_up_ne _ _ (by omega), va_up_self]; rfl
  · rw [va_up_ne _ _ (by omega), va_up_ne _ _ (by omega), va_up_ne _ _ (by omega), va_up_ne _ _ (by omega), va_up_ne _ _ (by omega), va_up_ne _ _ (by omega), va_up_ne _ _ (by omega), va_up_ne _ _ (by omega), va_up_ne _ _ (by omega), va_up_ne _ _ (by omega), va_up_ne _ _ (by omega), va_up_ne _ _ (by omega), va_up_ne _ _ (by omega), va_up_ne _ _ (by omega), va_up_ne _ _ (by omega), va_up_ne _ _ (by omega), va_up_ne _ _ (by omega), va_up_ne _ _ (by omega), va_up_ne _ _ (by omega), va_up_ne _ _ (by omega), va_up_ne _ _ (by omega), va_up_ne _ _ (by omega), va_up_ne _ _ (by omega), va_up_ne _ _ (by omega), va_up_ne _ _ (by omega), va_up_ne _ _ (by omega), va_up_ne _ _ (by omega), va_up_ne _ _ (by omega), va_up_ne _ _ (by omega), va_up_ne _ _ (by omega), va_up_self]; rfl
  · rw [va_up_ne _ _ (by omega), va_up_ne _ _ (by omega), va_up_ne _ _ (by omega), va_up_ne _ _ (by omega), va_up_ne _ _ (by omega), va_up_ne _ _ (by omega), va_up_ne _ _ (by omega), va_up_ne _ _ (by omega), va_up_ne _ _ (by omega), va_up_ne _ _ (by omega), va_up_ne _ _ (by omega), va_up_ne _ _ (by omega), va_up_ne _ _ (by omega), va_up_ne _ _ (by omega), va_up_ne _ _ (by omega), va_up_ne _ _ (by omega), va_up_ne _ _ (by omega), va_up_ne _ _ (by omega), va_up_ne _ _ (by omega), va_up_ne _ _ (by omega), va_up_ne _ _ (by omega), va_up_ne _ _ (by omega), va_up_ne _ _ (by omega), va_up_ne _ _ (by omega), va_up_ne _ _ (by omega), va_up_ne _ _ (by omega), va_up_ne _ _ (by omega), va_up_ne _ _ (by omega), va_up_self]; rfl
  · rw [va_up_ne _ _ (by omega), va_up_ne _ _ (by omega), va_up_ne _ _ (by omega), va_up_ne _ _ (by omega), va_up_ne _ _ (by omega), va_up_ne _ _ (by omega), va_up_ne _ _ (by omega), va_up_ne _ _ (by omega), va_up_ne _ _ (by omega), va_up_ne _ _ (by omega), va_up_ne _ _ (by omega), va_up_ne _ _ (by omega), va_up_ne _ _ (by omega), va_up_ne _ _ (by omega), va_up_ne _ _ (by omega), va_up_ne _ _ (by omega), va_up_ne _ _ (by omega), va_up_ne _ _ (by omega), va_up_ne _ _ (by omega), va_up_ne _ _ (by omega), va_up_ne _ _ (by omega), va_up_ne _ _ (by omega), va_up_ne _ _ (by omega), va_up_ne _ _ (by omega), va_up_ne _ _ (by omega), va_up_ne _ _ (by omega), va_up_self]; rfl
  · rw [va_up_ne _ _ (by omega), va_up_ne _ _ (by omega), va_up_ne _ _ (by omega), va_up_ne _ _ (by omega), va_up_ne _ _ (by omega), va_up_ne _ _ (by omega), va_up_ne _ _ (by omega), va_up_ne _ _ (by omega), va_up_ne _ _ (by omega), va_up_ne _ _ (by omega), va_up_ne _ _ (by omega), va_up_ne _ _ (by omega), va_up_ne _ _ (by omega), va_up_ne _ _ (by omega), va_up_ne _ _ (by omega), va_up_ne _ _ (by omega), va_up_ne _ _ (by omega), va_up_ne _ _ (by omega), va_up_ne _ _ (by omega), va_up_ne _ _ (by omega), va_up_ne _ _ (by omega), va_up_ne _ _ (by omega), va_up_ne _ _ (by omega), va_up_ne _ _ (by omega), va_up_self]; rfl
  · rw [va_up_ne _ _ (by omega), va_up_ne _ _ (by omega), va_up_ne _ _ (by omega), va_up_ne _ _ (by omega), va_up_ne _ _ (by omega), va_up_ne _ _ (by omega), va_up_ne _ _ (by omega), va_up_ne _ _ (by omega), va_up_ne _ _ (by omega), va_up_ne _ _ (by omega), va_up_ne _ _ (by omega), va_up_ne _ _ (by omega), va_up_ne _ _ (by omega), va_up_ne _ _ (by omega), va_up_ne _ _ (by omega), va_up_ne _ _ (by omega), va_up_ne _ _ (by omega), va_up_ne _ _ (by omega), va_up_ne _ _ (by omega), va_up_ne _ _ (by omega), va_up_ne _ _ (by omega), va_up_self]; rfl
  · rw [va_up_ne _ _ (by omega), va_up_ne _ _ (by omega), va_up_ne _ _ (by omega), va_up_ne _ _ (by omega), va_up_ne _ _ (by omega), va_up_ne _ _ (by omega), va_up_ne _ _ (by omega), va_up_ne _ _ (by omega), va_up_ne _ _ (by omega), va_up_ne _ _ (by omega), va_up_ne _ _ (by omega), va_up_ne _ _ (by omega), va_up_ne _ _ (by omega), va_up_ne _ _ (by omega), va_up_ne _ _ (by omega), va_up_ne _ _ (by omega), va_up_ne _ _ (by omega), va_up_ne _ _ (by omega), va_up_self]; rfl
  · rw [va_up_ne _ _ (by omega), va_up_ne _ _ (by omega), va_up_ne _ _ (by omega), va_up_ne _ _ (by omega), va_up_ne _ _ (by omega), va_up_ne _ _ (by omega), va_up_ne _ _ (by omega), va_up_ne _ _ (by omega), va_up_ne _ _ (by omega), va_up_ne _ _ (by omega), va_up_ne _ _ (by omega), va_up_ne _ _ (by omega), va_up_ne _ _ (by omega), va_up_ne _ _ (by omega), va_up_ne _ _ (by omega), va_up_ne _ _ (by omega), va_up_self]; rfl
  · rw [va_up_ne _ _ (by omega), va_up_ne _ _ (by omega), va_up_ne _ _ (by omega), va_up_ne _ _ (by omega), va_up_ne _ _ (by omega), va_up_ne _ _ (by omega), va_up_ne _ _ (by omega), va_up_ne _ _ (by omega), va_up_ne _ _ (by omega), va_up_ne _ _ (by omega), va_up_ne _ _ (by omega), va_up_ne _ _ (by omega), va_up_ne _ _ (by omega), va_up_ne _ _ (by omega), va_up_self]; rfl
  · rw [va_up_ne _ _ (by omega), va_up_ne _ _ (by omega), va_up_ne _ _ (by omega), va_up_ne _ _ (by omega), va_up_ne _ _ (by omega), va_up_ne _ _ (by omega), va_up_ne _ _ (by omega), va_up_ne _ _ (by omega), va_up_ne _ _ (by omega), va_up_ne _ _ (by omega), va_up_ne _ _ (by omega), va_up_ne _ _ (by omega), va_up_self]; rfl
  · rw [va_up_ne _ _ (by omega), va_up_ne _ _ (by omega), va_up_ne _ _ (by omega), va_up_ne _ _ (by omega), va_up_ne _ _ (by omega), va_up_ne _ _ (by omega), va_up_ne _ _ (by omega), va_up_ne _ _ (by omega), va_up_ne _ _ (by omega), va_up_ne _ _ (by omega), va_up_self]; rfl
