/-! What holds between the class's numbers and the reference's, behind i calls. nb: books published; nk: baskets; nl: letters -/
def R0 (nb nk nl : Nat) (V : qV) : Prop := V 0 0 2 = nI nb ∧ V 20 0 1 = nI nb ∧ nb ≤ 9 ∧ V 0 0 7 = nI nk ∧ V 20 0 24 = nI nk ∧ nk ≤ 40 ∧ V 12 0 4 = nI nl ∧ V 20 0 22 = nI nl ∧ nl ≤ 40
def RB (V : qV) : Prop := (∀ b a, b < 10 → a < 8 → V 2 b a = V 21 0 (8 * b + a)) ∧ ∀ b u, b < 10 → u < 16 → V 4 b u = V 23 0 (16 * b + u) ∧ V 3 b u = V 22 0 (16 * b + u) ∧ ∃ z, z < 100 ∧ V 3 b u = nI z
def RC (i : Nat) (V : qV) : Prop := ∀ c, c < 5 → V 8 c 0 = V 24 0 c ∧ V 8 c 1 = V 25 0 c ∧ (∃ h, h ≤ 50500 * i ∧ V 8 c 0 = nI h) ∧ ∃ r, r ≤ 101 ∧ V 8 c 1 = nI r
def RT (i nb : Nat) (V : qV) : Prop := ∀ t, t < 4 → V 7 t 1 = V 26 0 t ∧ V 7 t 2 = V 27 0 t ∧ V 7 t 3 = V 28 0 t ∧ V 7 t 4 = V 30 0 t ∧ V 7 t 6 = V 31 0 t ∧ (V 29 0 t = 0 ↔ (¬ V 7 t 3 = 0 ∧ V 7 t 5 = 0)) ∧ (∃ n, n ≤ nb ∧ V 7 t 1 = nI n) ∧ (∃ n, n ≤ nb ∧ V 7 t 6 = nI n) ∧ (∃ n, n ≤ i ∧ V 7 t 3 = nI n) ∧ ∃ n, n ≤ 505 * i ∧ V 7 t 4 = nI n
def RO (nk : Nat) (V : qV) : Prop := ∀ t, t < 4 → ∃ n, n ≤ 3 ∧ V 7 t 7 = nI n ∧ g_count V (nI t) nk = nI n
def RD (i nb : Nat) (V : qV) : Prop := V 9 0 2 = V 20 0 13 ∧ V 9 0 3 = V 20 0 14 ∧ V 9 0 4 = V 20 0 16 ∧ (∃ n, n ≤ nb ∧ V 9 0 2 = nI n) ∧ (∃ n, n ≤ nb ∧ V 9 0 3 = nI n) ∧ (∃ n, n ≤ 505 * i + 63 ∧ V 9 0 4 = nI n) ∧ (V 20 0 15 = 0 → V 9 0 4 ≤ V 8 4 0 / 100)
def RN (i : Nat) (V : qV) : Prop := ∀ t, t < 4 → V 11 t 0 = V 36 0 t ∧ V 11 t 1 = V 32 0 t ∧ V 11 t 2 = V 34 0 t ∧ V 11 t 3 = V 35 0 t ∧ V 11 t 4 = V 33 0 t ∧ ∃ n, n ≤ 505 * i ∧ V 11 t 3 = nI n
def RL (nl nb : Nat) (V : qV) : Prop := ∀ q, q < nl → V 13 0 q = V 37 0 (4 * q) ∧ V 13 1 q = V 37 0 (4 * q + 1) ∧ V 13 2 q = V 37 0 (4 * q + 2) ∧ V 13 3 q = V 37 0 (4 * q + 3) ∧ (∃ k, k ≤ 4 ∧ V 13 0 q = nI k) ∧ (∃ t, t < 4 ∧ V 13 1 q = nI t) ∧ (∃ b, b ≤ nb ∧ V 13 2 q = nI b) ∧ (V 13 0 q = 1 ∨ V 13 0 q = 2 → ¬ V 13 3 q = 0)
def RK (nk : Nat) (V : qV) : Prop := ∀ k, k < nk → V 15 k 0 = V 38 0 k ∧ V 15 k 1 = V 39 0 k ∧ V 15 k 2 = V 40 0 k ∧ (∃ t, t < 4 ∧ V 15 k 0 = nI t) ∧ ∃ b, b < 9 ∧ V 15 k 1 = nI (b + 1)
def RP (V : qV) : Prop := ∀ k a, k < 40 → a < 8 → V 16 k a = V 41 0 (8 * k + a) ∧ ∃ n, n ≤ 30 ∧ V 16 k a = nI n
def RelN (i nb nk nl : Nat) (V : qV) : Prop := R0 nb nk nl V ∧ RB V ∧ RC i V ∧ RT i nb V ∧ RO nk V ∧ RD i nb V ∧ RN i V ∧ RL nl nb V ∧ RK nk V ∧ RP V
def Rel (i : Nat) (V : qV) : Prop := ∃ nb nk nl, RelN i nb nk nl V
theorem RC.up {i j : Nat} {V : qV} (h : RC i V) (hij : i ≤ j) : RC j V := fun c hc => by
  obtain ⟨a, b, ⟨n, hn, e⟩, d⟩ := h c hc
  exact ⟨a, b, ⟨n, by omega, e⟩, d⟩
theorem RT.up {i j nb mb : Nat} {V : qV} (h : RT i nb V) (hij : i ≤ j) (hb : nb ≤ mb) : RT j mb V := fun c hc => by
  obtain ⟨a1, a2, a3, a4, a5, a6, ⟨n1, h1, e1⟩, ⟨n2, h2, e2⟩, ⟨n3, h3, e3⟩, n4, h4, e4⟩ := h c hc
  exact ⟨a1, a2, a3, a4, a5, a6, ⟨n1, by omega, e1⟩, ⟨n2, by omega, e2⟩, ⟨n3, by omega, e3⟩, n4, by omega, e4⟩
theorem RD.up {i j nb mb : Nat} {V : qV} (h : RD i nb V) (hij : i ≤ j) (hb : nb ≤ mb) : RD j mb V := by
  obtain ⟨a1, a2, a3, ⟨n1, h1, e1⟩, ⟨n2, h2, e2⟩, ⟨n3, h3, e3⟩, a4⟩ := h
  exact ⟨a1, a2, a3, ⟨n1, by omega, e1⟩, ⟨n2, by omega, e2⟩, ⟨n3, by omega, e3⟩, a4⟩
theorem RN.up {i j : Nat} {V : qV} (h : RN i V) (hij : i ≤ j) : RN j V := fun c hc => by
  obtain ⟨a1, a2, a3, a4, a5, n, hn, e⟩ := h c hc
  exact ⟨a1, a2, a3, a4, a5, n, by omega, e⟩
theorem RL.up {nl nb mb : Nat} {V : qV} (h : RL nl nb V) (hb : nb ≤ mb) : RL nl mb V := fun q hq => by
  obtain ⟨a1, a2, a3, a4, a5, a6, ⟨n, hn, e⟩, a7⟩ := h q hq
  exact ⟨a1, a2, a3, a4, a5, a6, ⟨n, by omega, e⟩, a7⟩
theorem RelN.up {i j nb nk nl : Nat} {V : qV} (h : RelN i nb nk nl V) (hij : i ≤ j) : RelN j nb nk nl V := by
  obtain ⟨h0, hB, hC, hT, hO, hD, hN, hL, hK, hP⟩ := h
  exact ⟨h0, hB, hC.up hij, hT.up hij (Nat.le_refl _), hO, hD.up hij (Nat.le_refl _), hN.up hij, hL, hK, hP⟩
/-- the reference's code alone is written -/
theorem g_count_code (V : qV) (t c : Int32) (k : Nat) : g_count (qv V 20 0 0 c) t k = g_count V t k := by
  induction k with
  | zero => rfl
  | succ k ih => show g_count _ t k + _ = g_count V t k + _; rw [ih]; rfl
theorem g_count_eq {V V' : qV} (t : Int32) (h38 : V' 38 = V 38) (h40 : V' 40 = V 40) (k : Nat) : g_count V' t k = g_count V t k := by
  induction k with
  | zero => rfl
  | succ k ih => show g_count V' t k + _ = g_count V t k + _; rw [ih, h38, h40]
theorem RelN.code {i nb nk nl : Nat} {V : qV} (h : RelN i nb nk nl V) (c : Int32) : RelN i nb nk nl (qv V 20 0 0 c) := by
  obtain ⟨h0, hB, hC, hT, hO, hD, hN, hL, hK, hP⟩ := h
  refine ⟨h0, hB, hC, hT, ?_, hD, hN, hL, hK, hP⟩
  intro t ht
  rw [g_count_code]
  exact hO t ht
/-- numbers -/
theorem n_sub {a b k : Nat} (ha : a < 2 ^ 29) (hb : b < 2 ^ 29) (hk : k < 2 ^ 29) : (nI a - nI b < nI k ↔ nI a < nI b + nI k) := by
  rw [nI_add, Int32.lt_iff_toInt_lt, Int32.lt_iff_toInt_lt, pk_sub_toInt (by omega) (by omega), nI_toInt (by omega), nI_toInt (by omega), nI_toInt (by omega)]
  omega
theorem n_sub' {a b k : Nat} (ha : a < 2 ^ 29) (hb : b < 2 ^ 29) (hk : k < 2 ^ 29) : (nI k ≤ nI a - nI b ↔ nI b + nI k ≤ nI a) := by
  rw [nI_add, Int32.le_iff_toInt_le, Int32.le_iff_toInt_le, pk_sub_toInt (by omega) (by omega), nI_toInt (by omega), nI_toInt (by omega), nI_toInt (by omega)]
  omega
theorem n_not {a : Int32} {n : Nat} (hn : n < 2 ^ 31) : (g_not a (nI n) = 0 ↔ ∃ j, j < n ∧ a = nI j) := by
  unfold g_not
  constructor
  · intro h
    by_cases h1 : a < 0
    · rw [if_pos h1] at h; exact absurd h (by decide)
    · rw [if_neg h1] at h
      obtain ⟨j, hj, rfl⟩ := nI_of h1
      by_cases h2 : nI j < nI n
      · exact ⟨j, (nI_ltI hj hn).mp h2, rfl⟩
      · rw [if_neg h2] at h; exact absurd h (by decide)
  · rintro ⟨j, hj, rfl⟩
    rw [if_neg (nI_pos (by omega)), if_pos (nI_lt hj hn)]
theorem n_not1 {a : Int32} {n : Nat} (hn : n < 2 ^ 31) (h : ¬ ∃ j, j < n ∧ a = nI j) : ¬ g_not a (nI n) = 0 := fun q => h ((n_not hn).mp q)
theorem n_art (a : Int32) : (f_isArticle a = 1 ∧ ∃ j, j < 8 ∧ a = nI j) ∨ (f_isArticle a = 0 ∧ ¬ ∃ j, j < 8 ∧ a = nI j) := by
  unfold f_isArticle
  rcases pk_ix a (n := 8) (by decide) with h | h | ⟨j, hj, rfl⟩
  · exact Or.inr ⟨if_pos h, fun ⟨j, hj, e⟩ => absurd h (by rw [e]; exact nI_pos (by omega))⟩
  · refine Or.inr ⟨?_, fun ⟨j, hj, e⟩ => absurd h (by rw [e]; exact nI_ge hj (by decide))⟩
    split
    · rfl
    · exact if_pos h
  · exact Or.inl ⟨by rw [if_neg (nI_pos (by omega)), if_neg (show ¬ (8 : Int32) ≤ nI j from nI_ge hj (by decide))], j, hj, rfl⟩
theorem n_slot (a : Int32) : (f_isSlot a = 1 ∧ ∃ j, j < 2 ∧ a = nI j) ∨ (f_isSlot a = 0 ∧ ¬ ∃ j, j < 2 ∧ a = nI j) := by
  unfold f_isSlot
  rcases pk_ix a (n := 2) (by decide) with h | h | ⟨j, hj, rfl⟩
  · exact Or.inr ⟨if_pos h, fun ⟨j, hj, e⟩ => absurd h (by rw [e]; exact nI_pos (by omega))⟩
  · refine Or.inr ⟨?_, fun ⟨j, hj, e⟩ => absurd h (by rw [e]; exact nI_ge hj (by decide))⟩
    split
    · rfl
    · exact if_pos h
  · exact Or.inl ⟨by rw [if_neg (nI_pos (by omega)), if_neg (show ¬ (2 : Int32) ≤ nI j from nI_ge hj (by decide))], j, hj, rfl⟩
theorem n_amt (w : Int32) : (f_isAmount w = 1 ∧ ¬ w < 0 ∧ w ≤ 10000000) ∨ (f_isAmount w = 0 ∧ (w < 0 ∨ ¬ w ≤ 10000000)) := by
  unfold f_isAmount
  by_cases h1 : w < 0
  · exact Or.inr ⟨if_pos h1, Or.inl h1⟩
  · by_cases h2 : w ≤ 10000000
    · exact Or.inl ⟨by rw [if_neg h1, if_neg (Int32.not_lt.mpr h2)], h1, h2⟩
    · exact Or.inr ⟨by rw [if_neg h1, if_pos (Int32.not_le.mp h2)], Or.inr h2⟩
theorem n_bsz (z : Int32) : (f_isBundleSize z = 1 ∧ (z = 0 ∨ (¬ z < 2 ∧ ¬ 12 < z)) ∧ ∃ k, k < 100 ∧ z = nI k) ∨ (f_isBundleSize z = 0 ∧ ¬ z = 0 ∧ (z < 2 ∨ 12 < z)) := by
  unfold f_isBundleSize
  by_cases h0 : z = 0
  · exact Or.inl ⟨if_pos h0, Or.inl h0, 0, by decide, h0⟩
  · rw [if_neg h0]
    by_cases h1 : z < 2
    · exact Or.inr ⟨if_pos h1, h0, Or.inl h1⟩
    · by_cases h2 : 12 < z
      · exact Or.inr ⟨by rw [if_neg h1, if_pos h2], h0, Or.inr h2⟩
      · refine Or.inl ⟨by rw [if_neg h1, if_neg h2], Or.inr ⟨h1, h2⟩, ?_⟩
        have h3 : ¬ z < 0 := fun q => h1 (Int32.lt_trans q (by decide))
        obtain ⟨k, hk, e⟩ := nI_of2 (x := z) (M := 12) (n := 12) (by decide) h3 (Int32.not_lt.mp h2)
        exact ⟨k, by omega, e⟩
theorem n_td (w : Int32) : (f_isTD w = 1 ∧ ∃ j, j < 5 ∧ w = nI j) ∨ (f_isTD w = 0 ∧ ¬ ∃ j, j < 5 ∧ w = nI j) := by
  unfold f_isTD
  rcases pk_ix w (n := 5) (by decide) with h | h | ⟨j, hj, rfl⟩
  · exact Or.inr ⟨if_pos h, fun ⟨j, hj, e⟩ => absurd h (by rw [e]; exact nI_pos (by omega))⟩
  · refine Or.inr ⟨?_, fun ⟨j, hj, e⟩ => absurd h (by rw [e]; exact nI_ge hj (by decide))⟩
    split
    · rfl
    · exact if_pos (Int32.lt_of_lt_of_le (by decide) h)
  · exact Or.inl ⟨by rw [if_neg (nI_pos (by omega)), if_neg (show ¬ (4 : Int32) < nI j from nI_nlt (a := 4) (b := j) (by omega) (by decide))], j, hj, rfl⟩
theorem n_till (w : Int32) : (∃ t, t < 4 ∧ w = nI t) ∨ ((w < 0 ∨ ¬ w < 4) ∧ ¬ ∃ j, j < 4 ∧ w = nI j) := by
  rcases pk_ix w (n := 4) (by decide) with h | h | ⟨j, hj, rfl⟩
  · exact Or.inr ⟨Or.inl h, fun ⟨j, hj, e⟩ => absurd h (by rw [e]; exact nI_pos (by omega))⟩
  · exact Or.inr ⟨Or.inr (Int32.not_lt.mpr h), fun ⟨j, hj, e⟩ => absurd h (by rw [e]; exact nI_ge hj (by decide))⟩
  · exact Or.inl ⟨j, hj, rfl⟩
theorem n_ix {nl : Nat} (hl : nl ≤ 40) (w : Int32) : (∃ i, i < nl ∧ w = nI i) ∨ ((w < 0 ∨ ¬ w < nI nl) ∧ ¬ ∃ j, j < nl ∧ w = nI j) := by
  rcases pk_ix w (n := nl) (by omega) with h | h | ⟨j, hj, rfl⟩
  · exact Or.inr ⟨Or.inl h, fun ⟨j, hj, e⟩ => absurd h (by rw [e]; exact nI_pos (by omega))⟩
  · exact Or.inr ⟨Or.inr (Int32.not_lt.mpr h), fun ⟨j, hj, e⟩ => absurd h (by rw [e]; exact nI_ge hj (by omega))⟩
  · exact Or.inl ⟨j, hj, rfl⟩
theorem n_bask {V : qV} {nk : Nat} (hk : nk ≤ 40) (h7 : V 0 0 7 = nI nk) (w : Int32) : (f_isBasket V w = 1 ∧ ∃ k, k < nk ∧ w = nI k) ∨ (f_isBasket V w = 0 ∧ ¬ ∃ j, j < nk ∧ w = nI j) := by
  unfold f_isBasket
  rw [h7]
  rcases pk_ix w (n := nk) (by omega) with h | h | ⟨j, hj, rfl⟩
  · exact Or.inr ⟨if_pos h, fun ⟨j, hj, e⟩ => absurd h (by rw [e]; exact nI_pos (by omega))⟩
  · refine Or.inr ⟨?_, fun ⟨j, hj, e⟩ => absurd h (by rw [e]; exact nI_ge hj (by omega))⟩
    split
    · rfl
    · first | rfl | exact if_pos h
  · exact Or.inl ⟨by rw [if_neg (nI_pos (by omega)), if_neg (nI_ge hj (by omega))], j, hj, rfl⟩
theorem n_book {V : qV} {nb : Nat} (hb : nb ≤ 9) (h2 : V 0 0 2 = nI nb) (w : Int32) : (f_isBook V w = 1 ∧ ¬ w < 1 ∧ w ≤ nI nb ∧ ∃ b, b < nb ∧ w = nI (b + 1)) ∨ (f_isBook V w = 0 ∧ (w < 1 ∨ ¬ w ≤ nI nb)) := by
  unfold f_isBook
  rw [h2]
  by_cases h1 : w < 1
  · exact Or.inr ⟨if_pos h1, Or.inl h1⟩
  · by_cases h3 : w ≤ nI nb
    · refine Or.inl ⟨by rw [if_neg h1, if_neg (Int32.not_lt.mpr h3)], h1, h3, ?_⟩
      have h4 : ¬ w < 0 := fun q => h1 (Int32.lt_trans q (by decide))
      obtain ⟨k, hk, rfl⟩ := nI_of2 (x := w) (M := nI nb) (n := nb) (nI_toInt (by omega)) h4 h3
      have h5 : ¬ k = 0 := fun q => h1 (by rw [q]; decide)
      exact ⟨k - 1, by omega, by rw [show k - 1 + 1 = k by omega]⟩
    · exact Or.inr ⟨by rw [if_neg h1, if_pos (Int32.not_le.mp h3)], Or.inr h3⟩
/-- a call that answers nothing, an int, a long: both sides come to an end, with the same code and answer, and what held holds -/
def opV (l : Launch) (Z : qZ) (i : Nat) (V : qV) (Y : qY) (yW yM : MethodName) (rW rM : Room) (aW aM : List Value) : Prop := ∃ (k : Int32) (V1 V2 : qV) (Y1 : qY), CT l yW rW (pX Z) (qA (pX Z)) aW V Y (.inl (some (.int k))) V1 Y1 ∧ CT l yM rM (pX Z) (qA (pX Z)) aM V1 Y1 (.inl none) V2 Y1 ∧ V2 20 0 0 = k ∧ Rel (i + 1) V2
def opI (l : Launch) (Z : qZ) (i : Nat) (V : qV) (Y : qY) (yW yM : MethodName) (rW rM : Room) (aW aM : List Value) : Prop := ∃ (k r : Int32) (V1 V2 : qV) (Y1 : qY), CT l yW rW (pX Z) (qA (pX Z)) aW V Y (.inl (some (.int k))) V1 Y1 ∧ CT l yM rM (pX Z) (qA (pX Z)) aM V1 Y1 (.inl (some (.int r))) V2 Y1 ∧ V2 20 0 0 = k ∧ (k = 0 → Y1 45 0 0 = r.toInt64) ∧ Rel (i + 1) V2
def opJ (l : Launch) (Z : qZ) (i : Nat) (V : qV) (Y : qY) (yW yM : MethodName) (rW rM : Room) (aW aM : List Value) : Prop := ∃ (k : Int32) (r : Int64) (V1 V2 : qV) (Y1 Y2 : qY), CT l yW rW (pX Z) (qA (pX Z)) aW V Y (.inl (some (.int k))) V1 Y1 ∧ CT l yM rM (pX Z) (qA (pX Z)) aM V1 Y1 (.inl (some (.long r))) V2 Y2 ∧ V2 20 0 0 = k ∧ (k = 0 → Y2 45 0 0 = r) ∧ Rel (i + 1) V2
