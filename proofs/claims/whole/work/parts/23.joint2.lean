/-! The hours -/
def f_due (V : qV) : Prop := ¬ V 9 0 3 = 0 ∧ f_waits V = 0 ∧ ∀ t, t < 4 → ¬ f_al V t (V 9 0 3) (V 8 4 0 / 100) = 0
theorem f_look_due {V : qV} (h : f_due V) : f_look V = qv (qv V 9 0 2 (V 9 0 3)) 9 0 3 0 := by
  obtain ⟨h1, h2, h3⟩ := h
  unfold f_look
  rw [if_neg h1, if_pos h2, if_neg (h3 0 (by decide)), if_neg (h3 1 (by decide)), if_neg (h3 2 (by decide)), if_neg (h3 3 (by decide))]
theorem f_look_not {V : qV} (h : ¬ f_due V) : f_look V = V := by
  unfold f_look
  by_cases h1 : V 9 0 3 = 0
  · rw [if_pos h1]
  rw [if_neg h1]
  by_cases h2 : f_waits V = 0
  · rw [if_pos h2]
    by_cases x0 : f_al V 0 (V 9 0 3) (V 8 4 0 / 100) = 0
    · rw [if_pos x0]
    rw [if_neg x0]
    by_cases x1 : f_al V 1 (V 9 0 3) (V 8 4 0 / 100) = 0
    · rw [if_pos x1]
    rw [if_neg x1]
    by_cases x2 : f_al V 2 (V 9 0 3) (V 8 4 0 / 100) = 0
    · rw [if_pos x2]
    rw [if_neg x2]
    by_cases x3 : f_al V 3 (V 9 0 3) (V 8 4 0 / 100) = 0
    · rw [if_pos x3]
    refine absurd ⟨h1, h2, fun t ht => ?_⟩ h
    match t, ht with
    | 0, _ => exact x0
    | 1, _ => exact x1
    | 2, _ => exact x2
    | 3, _ => exact x3
  · rw [if_neg h2]
theorem f_go5_at (V : qV) (n : Int32) (a b c : Nat) : f_go5 V n a b c = if a = 8 ∧ b < 5 ∧ c = 0 then V 8 b 0 + n * V 8 b 1 else V a b c := by
  by_cases h : a = 8 ∧ b < 5 ∧ c = 0
  · rw [if_pos h]
    obtain ⟨rfl, hb, rfl⟩ := h
    match b, hb with
    | 0, _ => rfl
    | 1, _ => rfl
    | 2, _ => rfl
    | 3, _ => rfl
    | 4, _ => rfl
  · rw [if_neg h]
    unfold f_go5 f_go
    rw [qv_at, if_neg (by omega), qv_at, if_neg (by omega), qv_at, if_neg (by omega), qv_at, if_neg (by omega), qv_at, if_neg (by omega)]
theorem f_go5_fr (V : qV) (n : Int32) (g : Nat) (h : g ≠ 8) : f_go5 V n g = V g := by
  funext b c
  rw [f_go5_at, if_neg (fun q => h q.1)]
theorem f_go5_go5 (V : qV) (m : Nat) : f_go5 (f_go5 V (nI m)) 1 = f_go5 V (nI (m + 1)) := by
  funext a b c
  rw [f_go5_at, f_go5_at _ (nI (m + 1))]
  by_cases h : a = 8 ∧ b < 5 ∧ c = 0
  · rw [if_pos h, if_pos h, f_go5_at, if_pos ⟨rfl, h.2.1, rfl⟩, f_go5_at, if_neg (by omega), nI_succ, Int32.add_mul, Int32.add_assoc]
  · rw [if_neg h, if_neg h, f_go5_at, if_neg h]
theorem f_go5_look {V : qV} (n x : Int32) : f_go5 (qv (qv V 9 0 2 x) 9 0 3 0) n = qv (qv (f_go5 V n) 9 0 2 x) 9 0 3 0 := by
  funext a b c
  by_cases h : a = 8
  · subst h
    rw [f_go5_at, qv_fr _ _ _ _ _ _ (by decide), qv_fr _ _ _ _ _ _ (by decide), qv_fr _ _ _ _ _ _ (by decide), qv_fr _ _ _ _ _ _ (by decide), f_go5_at]
  · rw [f_go5_fr _ _ _ h]
    simp only [qv_at]
    rw [f_go5_fr _ _ _ h]
theorem f_due_go {V : qV} {h r : Nat} (h8 : V 8 4 0 = nI h) (h81 : V 8 4 1 = nI r) (hb : h + r < 2 ^ 29) (hd : ∀ t, t < 4 → ∃ d, d < 2 ^ 28 ∧ V 11 t 3 = nI d) (hq : f_due V) : f_due (f_go5 V 1) := by
  obtain ⟨h1, h2, h3⟩ := hq
  have e4 : f_go5 V 1 8 4 0 = nI (h + r) := by rw [f_go5_at, if_pos (by decide), h8, h81, Int32.one_mul, nI_add]
  have e9 : f_go5 V 1 9 = V 9 := f_go5_fr _ _ _ (by decide)
  have e11 : f_go5 V 1 11 = V 11 := f_go5_fr _ _ _ (by decide)
  have d1 : nI h / 100 = nI (h / 100) := pk_div (d := 100) (by omega) (by decide) (by decide)
  have d2 : nI (h + r) / 100 = nI ((h + r) / 100) := pk_div (d := 100) (by omega) (by decide) (by decide)
  refine ⟨by rw [e9]; exact h1, ?_, ?_⟩
  · unfold f_waits at h2 ⊢
    rw [e4, e9, d2]
    rw [h8, d1] at h2
    have hle : V 9 0 4 ≤ nI (h / 100) := by
      by_cases q : V 9 0 4 ≤ nI (h / 100)
      · exact q
      · rw [if_neg q] at h2; exact absurd h2 (by decide)
    rw [if_pos (Int32.le_trans hle (nI_le (by omega) (by omega)))]
  · intro t ht
    have h3 := h3 t ht
    obtain ⟨d, hd, ed⟩ := hd t ht
    unfold f_al at h3 ⊢
    rw [e4, e9, e11, d2]
    rw [h8, d1] at h3
    by_cases c1 : V 9 0 3 ≤ V 11 t 0
    · rw [if_pos c1]; decide
    rw [if_neg c1] at h3 ⊢
    by_cases c2 : V 11 t 4 = 0
    · rw [if_pos c2]; decide
    rw [if_neg c2] at h3 ⊢
    by_cases c3 : V 11 t 2 = V 9 0 3
    · rw [if_pos c3]; decide
    rw [if_neg c3] at h3 ⊢
    by_cases c4 : nI (h / 100) - V 11 t 3 < 63
    · rw [if_pos c4] at h3; exact absurd rfl h3
    · rw [if_neg]
      · decide
      · intro q
        rw [ed] at q c4
        have q1 := (n_sub (k := 63) (by omega) (by omega) (by omega)).mp q
        rw [nI_add] at q1
        have q2 := (nI_ltI (by omega) (by omega)).mp q1
        refine c4 ((n_sub (k := 63) (by omega) (by omega) (by omega)).mpr ?_)
        rw [nI_add]
        exact nI_lt (by omega) (by omega)
theorem f_look_go {V : qV} {h r : Nat} (h8 : V 8 4 0 = nI h) (h81 : V 8 4 1 = nI r) (hb : h + r < 2 ^ 29) (hd : ∀ t, t < 4 → ∃ d, d < 2 ^ 28 ∧ V 11 t 3 = nI d) : f_look (f_go5 (f_look V) 1) = f_look (f_go5 V 1) := by
  by_cases hq : f_due V
  · rw [f_look_due hq, f_go5_look, f_look_due (f_due_go h8 h81 hb hd hq), f_look_not]
    · rw [show f_go5 V 1 9 0 3 = V 9 0 3 from by rw [f_go5_fr _ _ _ (by decide)]]
    · exact fun q => q.1 rfl
  · rw [f_look_not hq]
theorem J_hour {i nb nk nl : Nat} {A B : qV} (h : RelN i nb nk nl A B) (hi : i ≤ 513) (hk : ∀ c, c < 5 → ∃ x, x + 101 ≤ 50500 * i ∧ A 8 c 0 = nI x) : RelN i nb nk nl (f_go5 A 1) (g_hour B) := by
  obtain ⟨h0, hB, hC, hT, hO, hD, hN, hL, hK, hP⟩ := h
  obtain ⟨d1, d2, d3, d4, d5, d6, d7⟩ := hD
  refine ⟨h0, hB, ?_, hT, hO.eq, ⟨d1, d2, d3, d4, d5, d6, ?_⟩, hN, hL, hK, hP⟩
  · intro c hc
    obtain ⟨c1, c2, _, y, hy, ey⟩ := hC c hc
    obtain ⟨x, hx, ex⟩ := hk c hc
    have e0 : f_go5 A 1 8 c 0 = nI (x + y) := by rw [f_go5_at, if_pos ⟨rfl, hc, rfl⟩, ex, ey, Int32.one_mul, nI_add]
    have e1 : f_go5 A 1 8 c 1 = A 8 c 1 := by rw [f_go5_at, if_neg (by omega)]
    have m0 : g_hour B 24 0 c = B 24 0 c + B 25 0 c := by
      match c, hc with
      | 0, _ => rfl
      | 1, _ => rfl
      | 2, _ => rfl
      | 3, _ => rfl
      | 4, _ => rfl
    have m1 : g_hour B 25 0 c = B 25 0 c := rfl
    rw [e0, e1, m0, m1, ← c1, ← c2]
    exact ⟨by rw [ex, ey, nI_add], rfl, ⟨x + y, by omega, rfl⟩, y, hy, ey⟩
  · intro q
    have q := d7 q
    obtain ⟨_, _, _, y, hy, ey⟩ := hC 4 (by decide)
    obtain ⟨x, hx, ex⟩ := hk 4 (by decide)
    have e0 : f_go5 A 1 8 4 0 = nI (x + y) := by rw [f_go5_at, if_pos (by decide), ex, ey, Int32.one_mul, nI_add]
    have e9 : f_go5 A 1 9 = A 9 := f_go5_fr _ _ _ (by decide)
    have p1 : nI x / 100 = nI (x / 100) := pk_div (d := 100) (by omega) (by decide) (by decide)
    have p2 : nI (x + y) / 100 = nI ((x + y) / 100) := pk_div (d := 100) (by omega) (by decide) (by decide)
    rw [e0, e9, p2]
    rw [ex, p1] at q
    exact Int32.le_trans q (nI_le (by omega) (by omega))
theorem J_ticks {i nb nk nl : Nat} (hi : i ≤ 512) {A : qV} (hA : ∀ c, c < 5 → (∃ x, x ≤ 50500 * i ∧ A 8 c 0 = nI x) ∧ ∃ y, y ≤ 101 ∧ A 8 c 1 = nI y) (hN : ∀ t, t < 4 → ∃ d, d < 2 ^ 28 ∧ A 11 t 3 = nI d) (r : Nat) : ∀ (m : Nat) (B : qV), m + r ≤ 500 → RelN (i + 1) nb nk nl (f_look (f_go5 A (nI m))) B → RelN (i + 1) nb nk nl (f_look (f_go5 A (nI (m + r)))) (g_ticks r B) := by
  induction r with
  | zero => intro m B _ h; exact h
  | succ r ih =>
    intro m B hm h
    have hk : ∀ c, c < 5 → ∃ x y, A 8 c 0 = nI x ∧ A 8 c 1 = nI y ∧ y ≤ 101 ∧ x ≤ 50500 * i ∧ f_go5 A (nI m) 8 c 0 = nI (x + m * y) ∧ f_go5 A (nI m) 8 c 1 = nI y ∧ m * y ≤ 499 * 101 := fun c hc => by
      obtain ⟨⟨x, hx, ex⟩, y, hy, ey⟩ := hA c hc
      refine ⟨x, y, ex, ey, hy, hx, ?_, ?_, Nat.mul_le_mul (by omega) hy⟩
      · rw [f_go5_at, if_pos ⟨rfl, hc, rfl⟩, ex, ey, pk_mul, nI_add]
      · rw [f_go5_at, if_neg (by omega), ey]
    have h1 := J_hour h (by omega) (fun c hc => by
      obtain ⟨x, y, _, _, hy, hx, e, _, hmy⟩ := hk c hc
      refine ⟨x + m * y, by omega, ?_⟩
      rw [f_look_fr _ _ (by decide)]
      exact e)
    have h2 := J_look h1 (by omega)
    obtain ⟨x, y, _, _, hy, hx, e, e', hmy⟩ := hk 4 (by decide)
    rw [f_look_go e e' (by omega) (fun t ht => by rw [f_go5_fr _ _ _ (by decide)]; exact hN t ht), f_go5_go5] at h2
    have h3 := ih (m + 1) _ (by omega) h2
    rw [show m + 1 + r = m + (r + 1) by omega] at h3
    exact h3
theorem J_tick {i nb nk nl : Nat} (hi : i ≤ 512) {A B : qV} (h : RelN i nb nk nl A B) {n : Nat} (h1 : 1 ≤ n) (hn : n ≤ 500) : RelN (i + 1) nb nk nl (f_look (f_go5 A (nI n))) (g_ticks n B) := by
  have hu := h.up (Nat.le_succ i)
  have a := J_hour hu (by omega) (fun c hc => by
    obtain ⟨_, _, ⟨x, hx, e⟩, _⟩ := h.2.2.1 c hc
    exact ⟨x, by omega, e⟩)
  have b := J_look a (by omega)
  have c := J_ticks hi (A := A) (fun c hc => (h.2.2.1 c hc).2.2) (fun t ht => by
    obtain ⟨_, _, _, _, _, d, hd, e⟩ := h.2.2.2.2.2.2.1 t ht
    exact ⟨d, by omega, e⟩) (n - 1) 1 _ (by omega) b
  rw [show 1 + (n - 1) = n by omega] at c
  have e : g_ticks n B = g_ticks (n - 1) (g_look (g_hour B)) := by
    obtain ⟨k, rfl⟩ : ∃ k, n = k + 1 := ⟨n - 1, by omega⟩
    rfl
  rw [e]
  exact c
/-! A book published -/
theorem J_publish {i nb nk nl : Nat} {A B : qV} (h : RelN i nb nk nl A B) (hb : nb < 9) : ∃ ml, RelN i (nb + 1) nk ml (f_publish A nb) (g_publish B nb) := by
  obtain ⟨h0, hB, hC, hT, hO, hD, hN, hL, hK, hP⟩ := h
  obtain ⟨a1, a2, a3, a4, a5, a6, a7, a8, a9⟩ := h0
  have e2 : A 0 0 2 + 1 = nI (nb + 1) := by rw [a1, nI_1]
  have hst : RelN i (nb + 1) nk nl (f_pub1 A nb) (g_pub2 B nb) := by
    refine ⟨⟨e2, rfl, by omega, a4, a5, a6, a7, a8, a9⟩, ?_, hC, hT.up (Nat.le_refl _) (Nat.le_succ _), hO.eq, hD.up (Nat.le_refl _) (Nat.le_succ _), hN, hL.up (Nat.le_succ _), hK, hP⟩
    obtain ⟨B1, B2⟩ := hB
    have ea2 : ∀ b, f_pub1 A nb 2 b = if b = nb + 1 then va_cpy (A 2 0) (A 2 (nb + 1)) 0 0 8 else A 2 b := fun b => by
      by_cases q : b = nb + 1
      · subst q; rw [if_pos rfl]; simp [f_pub1, f_copy, qv_fr, qu]
      · rw [if_neg q]; simp [f_pub1, f_copy, qv_fr, qu, q]
    have ea3 : ∀ b, f_pub1 A nb 3 b = if b = nb + 1 then va_cpy (A 3 0) (A 3 (nb + 1)) 0 0 16 else A 3 b := fun b => by
      by_cases q : b = nb + 1
      · subst q; rw [if_pos rfl]; simp [f_pub1, f_copy, qv_fr, qu]
      · rw [if_neg q]; simp [f_pub1, f_copy, qv_fr, qu, q]
    have ea4 : ∀ b, f_pub1 A nb 4 b = if b = nb + 1 then va_cpy (A 4 0) (A 4 (nb + 1)) 0 0 16 else A 4 b := fun b => by
      by_cases q : b = nb + 1
      · subst q; rw [if_pos rfl]; simp [f_pub1, f_copy, qv_fr, qu]
      · rw [if_neg q]; simp [f_pub1, f_copy, qv_fr, qu, q]
    have m21 : g_pub2 B nb 21 0 = g_cp (8 * (nb + 1)) 8 0 (B 21 0) := rfl
    have m22 : g_pub2 B nb 22 0 = g_cp (16 * (nb + 1)) 16 0 (B 22 0) := rfl
    have m23 : g_pub2 B nb 23 0 = g_cp (16 * (nb + 1)) 16 0 (B 23 0) := rfl
    refine ⟨fun b a hb2 ha => ?_, fun b u hb2 hu => ?_⟩
    · rw [ea2, m21, g_cp_at _ _ _ _ _ (by omega)]
      by_cases q : b = nb + 1
      · subst q
        rw [if_pos rfl, if_pos (by omega), pk_cpy_in (by omega) (by omega), B1 _ _ (by omega) (by omega)]
        congr 1
        omega
      · rw [if_neg q, if_neg (by omega)]
        exact B1 b a hb2 ha
    · rw [ea3, ea4, m22, m23, g_cp_at _ _ _ _ _ (by omega), g_cp_at _ _ _ _ _ (by omega)]
      by_cases q : b = nb + 1
      · subst q
        obtain ⟨x, y, z⟩ := B2 0 u (by omega) hu
        rw [if_pos rfl, if_pos rfl, if_pos (by omega), if_pos (by omega), pk_cpy_in (by omega) (by omega), pk_cpy_in (by omega) (by omega), show 0 + (u - 0) = u by omega, show 16 * (nb + 1) + u - 16 * (nb + 1) = 16 * 0 + u by omega]
        exact ⟨x, y, z⟩
      · rw [if_neg q, if_neg q, if_neg (by omega), if_neg (by omega)]
        exact B2 b u hb2 hu
  unfold f_publish g_publish
  rw [e2]
  obtain ⟨l1, s1⟩ := J_put hst (k := 0) (t := 0) (b := nI (nb + 1)) (a := 0) ⟨0, by decide, rfl⟩ ⟨0, by decide, rfl⟩ ⟨nb + 1, by omega, rfl⟩ (fun q => absurd q (by decide))
  obtain ⟨l2, s2⟩ := J_put s1 (k := 0) (t := 1) (b := nI (nb + 1)) (a := 0) ⟨0, by decide, rfl⟩ ⟨1, by decide, rfl⟩ ⟨nb + 1, by omega, rfl⟩ (fun q => absurd q (by decide))
  obtain ⟨l3, s3⟩ := J_put s2 (k := 0) (t := 2) (b := nI (nb + 1)) (a := 0) ⟨0, by decide, rfl⟩ ⟨2, by decide, rfl⟩ ⟨nb + 1, by omega, rfl⟩ (fun q => absurd q (by decide))
  exact J_put s3 (k := 0) (t := 3) (b := nI (nb + 1)) (a := 0) ⟨0, by decide, rfl⟩ ⟨3, by decide, rfl⟩ ⟨nb + 1, by omega, rfl⟩ (fun q => absurd q (by decide))
/-! What a basket costs -/
theorem fr_s1 {f g : Nat → Int64} {k z : Nat} {w : Int32} (h : ∀ j, j < k + 1 → f j = g j) : ∀ j, j < k + 1 → f_s1 f k z w j = f_s1 g k z w j := by
  intro j hj
  unfold f_s1
  by_cases z0 : z = 0
  · rw [if_pos z0, if_pos z0]; exact h j hj
  rw [if_neg z0, if_neg z0]
  by_cases z1 : k < z
  · rw [if_pos z1, if_pos z1]; exact h j hj
  rw [if_neg z1, if_neg z1, h (k - z) (by omega), h k (by omega)]
  by_cases q : j = k
  · subst q; rw [pk_uLs, pk_uLs]
  · rw [pk_uLn q, pk_uLn q]; exact h j hj
theorem fr_more {pr w0 w1 : Int32} {z0 z1 : Nat} (r : Nat) : ∀ (k : Nat) (f g : Nat → Int64), 1 ≤ k → (∀ j, j < k → f j = g j) → ∀ j, j < k + r → f_more pr z0 w0 z1 w1 r k f j = f_more pr z0 w0 z1 w1 r k g j := by
  induction r with
  | zero => intro k f g _ h j hj; exact h j hj
  | succ r ih =>
    intro k f g hk h j hj
    refine ih (k + 1) _ _ (by omega) ?_ j (by omega)
    unfold f_st
    refine fr_s1 (fr_s1 ?_)
    intro j hj
    rw [h (k - 1) (by omega)]
    by_cases q : j = k
    · subst q; rw [pk_uLs, pk_uLs]
    · rw [pk_uLn q, pk_uLn q]; exact h j (by omega)
theorem fr_rows (pr w0 w1 : Int32) (z0 z1 n : Nat) (f g : Nat → Int64) : f_rows pr z0 w0 z1 w1 n f n = f_rows pr z0 w0 z1 w1 n g n := by
  unfold f_rows
  refine fr_more n 1 _ _ (by decide) (fun j hj => ?_) n (by omega)
  have : j = 0 := by omega
  subst this
  rw [pk_uLs, pk_uLs]
theorem fr_pay {A B : qV} (h : RB A B) {b : Nat} (hb : b < 10) (pn zf : Nat → Nat) (r : Nat) : ∀ (a : Nat) (f g : Nat → Int64) (s : Int64), a + r ≤ 8 → (f_payR A b pn zf r a f s).2 = (g_payR B b pn zf r a g s).2 := by
  induction r with
  | zero => intro a f g s _; rfl
  | succ r ih =>
    intro a f g s ha
    unfold f_payR g_payR
    rw [ih (a + 1) _ _ _ (by omega)]
    congr 2
    rw [h.1 b a hb (by omega), Nat.mul_comm a 2, (h.2 b (2 * a) hb (by omega)).1, (h.2 b (2 * a + 1) hb (by omega)).1, fr_rows _ _ _ _ _ _ f g]
    rfl
theorem cN_open {B B' : qV} {k t : Nat} (u : Int32) (h : ∀ j, j < k → B' 38 0 j = B 38 0 j ∧ B' 40 0 j = B 40 0 j) (h1 : B' 38 0 k = nI t) (h2 : ¬ B' 40 0 k = 0) : cN B' u (k + 1) = cN B u k + (if nI t = u then 1 else 0) := by
  show cN B' u k + _ = _
  rw [cN_eq u k h, if_neg h2, h1]
theorem cN_pay {B B' : qV} {k t : Nat} (u : Int32) (h38 : B' 38 = B 38) (h40 : ∀ j, j ≠ k → B' 40 0 j = B 40 0 j) (hk : B' 40 0 k = 0) (h1 : B 38 0 k = nI t) (h2 : ¬ B 40 0 k = 0) (n : Nat) : cN B u n = cN B' u n + (if k < n ∧ nI t = u then 1 else 0) := by
  induction n with
  | zero => rfl
  | succ n ih =>
    show cN B u n + _ = cN B' u n + _ + _
    rw [ih, h38]
    by_cases q : n = k
    · subst q
      rw [if_neg (by omega), if_neg h2, h1, if_pos hk]
      by_cases e : nI t = u
      · rw [if_pos e, if_pos ⟨by omega, e⟩]
      · rw [if_neg e, if_neg (fun z => e z.2)]
    · rw [h40 n q]
      by_cases c : k < n ∧ nI t = u
      · have c' : k < n + 1 ∧ nI t = u := ⟨by omega, c.2⟩
        rw [if_pos c, if_pos c']; omega
      · have c' : ¬ (k < n + 1 ∧ nI t = u) := fun z => c ⟨by omega, z.2⟩
        rw [if_neg c, if_neg c']; omega
