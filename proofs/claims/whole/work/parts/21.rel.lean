/-! What holds between the class's numbers A and the reference's B, behind i calls. nb: books published; nk: baskets; nl: letters -/
theorem qv_fr (V : qV) (g j k : Nat) (v : Int32) (a : Nat) (h : a ≠ g) : qv V g j k v a = V a := by
  funext b c
  rw [qv_at, if_neg (fun q => h q.1)]
theorem qu_fr (V : qV) (g j : Nat) (f : Nat → Int32) (a : Nat) (h : a ≠ g) : qu V g j f a = V a := by
  funext b
  unfold qu
  rw [if_neg (fun q => h q.1)]
def cN (B : qV) (t : Int32) : Nat → Nat
  | 0 => 0
  | k + 1 => cN B t k + (if B 40 0 k = 0 then 0 else if B 38 0 k = t then 1 else 0)
theorem cN_g (B : qV) (t : Int32) (k : Nat) : g_count B t k = nI (cN B t k) := by
  induction k with
  | zero => rfl
  | succ k ih =>
    show g_count B t k + _ = nI (cN B t k + _)
    rw [ih, ← nI_add]
    congr 1
    split
    · rfl
    · split <;> rfl
theorem cN_eq {B B' : qV} (t : Int32) (n : Nat) (h : ∀ k, k < n → B' 38 0 k = B 38 0 k ∧ B' 40 0 k = B 40 0 k) : cN B' t n = cN B t n := by
  induction n with
  | zero => rfl
  | succ k ih =>
    show cN B' t k + _ = cN B t k + _
    rw [ih (fun j hj => h j (by omega)), (h k (by omega)).1, (h k (by omega)).2]
def R0 (nb nk nl : Nat) (A B : qV) : Prop := A 0 0 2 = nI nb ∧ B 20 0 1 = nI nb ∧ nb ≤ 9 ∧ A 0 0 7 = nI nk ∧ B 20 0 24 = nI nk ∧ nk ≤ 40 ∧ A 12 0 4 = nI nl ∧ B 20 0 22 = nI nl ∧ nl ≤ 40
def RB (A B : qV) : Prop := (∀ b a, b < 10 → a < 8 → A 2 b a = B 21 0 (8 * b + a)) ∧ ∀ b u, b < 10 → u < 16 → A 4 b u = B 23 0 (16 * b + u) ∧ A 3 b u = B 22 0 (16 * b + u) ∧ ∃ z, z < 100 ∧ A 3 b u = nI z
def RC (i : Nat) (A B : qV) : Prop := ∀ c, c < 5 → A 8 c 0 = B 24 0 c ∧ A 8 c 1 = B 25 0 c ∧ (∃ h, h ≤ 50500 * i ∧ A 8 c 0 = nI h) ∧ ∃ r, r ≤ 101 ∧ A 8 c 1 = nI r
def RT (i nb : Nat) (A B : qV) : Prop := ∀ t, t < 4 → A 7 t 1 = B 26 0 t ∧ A 7 t 2 = B 27 0 t ∧ A 7 t 3 = B 28 0 t ∧ A 7 t 4 = B 30 0 t ∧ A 7 t 6 = B 31 0 t ∧ (B 29 0 t = 0 ↔ (¬ A 7 t 3 = 0 ∧ A 7 t 5 = 0)) ∧ (∃ n, n ≤ nb ∧ A 7 t 1 = nI n) ∧ (∃ n, n ≤ nb ∧ A 7 t 6 = nI n) ∧ (∃ n, n ≤ i ∧ A 7 t 3 = nI n) ∧ ∃ n, n ≤ 505 * i ∧ A 7 t 4 = nI n
def RO (nk : Nat) (A B : qV) : Prop := ∀ t, t < 4 → cN B (nI t) nk ≤ 3 ∧ A 7 t 7 = nI (cN B (nI t) nk)
def RD (i nb : Nat) (A B : qV) : Prop := A 9 0 2 = B 20 0 13 ∧ A 9 0 3 = B 20 0 14 ∧ A 9 0 4 = B 20 0 16 ∧ (∃ n, n ≤ nb ∧ A 9 0 2 = nI n) ∧ (∃ n, n ≤ nb ∧ A 9 0 3 = nI n) ∧ (∃ n, n ≤ 505 * i + 63 ∧ A 9 0 4 = nI n) ∧ (B 20 0 15 = 0 → A 9 0 4 ≤ A 8 4 0 / 100)
def RN (i : Nat) (A B : qV) : Prop := ∀ t, t < 4 → A 11 t 0 = B 36 0 t ∧ A 11 t 1 = B 32 0 t ∧ A 11 t 2 = B 34 0 t ∧ A 11 t 3 = B 35 0 t ∧ A 11 t 4 = B 33 0 t ∧ ∃ n, n ≤ 505 * i ∧ A 11 t 3 = nI n
def RL (nl nb : Nat) (A B : qV) : Prop := ∀ q, q < nl → A 13 0 q = B 37 0 (4 * q) ∧ A 13 1 q = B 37 0 (4 * q + 1) ∧ A 13 2 q = B 37 0 (4 * q + 2) ∧ A 13 3 q = B 37 0 (4 * q + 3) ∧ (∃ k, k ≤ 4 ∧ A 13 0 q = nI k) ∧ (∃ t, t < 4 ∧ A 13 1 q = nI t) ∧ (∃ b, b ≤ nb ∧ A 13 2 q = nI b) ∧ (A 13 0 q = 1 ∨ A 13 0 q = 2 → ¬ A 13 3 q = 0)
def RK (nk : Nat) (A B : qV) : Prop := ∀ k, k < nk → A 15 k 0 = B 38 0 k ∧ A 15 k 1 = B 39 0 k ∧ A 15 k 2 = B 40 0 k ∧ (∃ t, t < 4 ∧ A 15 k 0 = nI t) ∧ ∃ b, b < 9 ∧ A 15 k 1 = nI (b + 1)
def RP (A B : qV) : Prop := ∀ k a, k < 40 → a < 8 → A 16 k a = B 41 0 (8 * k + a) ∧ ∃ n, n ≤ 30 ∧ A 16 k a = nI n
def RelN (i nb nk nl : Nat) (A B : qV) : Prop := R0 nb nk nl A B ∧ RB A B ∧ RC i A B ∧ RT i nb A B ∧ RO nk A B ∧ RD i nb A B ∧ RN i A B ∧ RL nl nb A B ∧ RK nk A B ∧ RP A B
def Rel (i : Nat) (V : qV) : Prop := ∃ nb nk nl, RelN i nb nk nl V V
theorem RC.up {i j : Nat} {A B : qV} (h : RC i A B) (hij : i ≤ j) : RC j A B := fun c hc => by
  obtain ⟨a, b, ⟨n, hn, e⟩, d⟩ := h c hc
  exact ⟨a, b, ⟨n, by omega, e⟩, d⟩
theorem RT.up {i j nb mb : Nat} {A B : qV} (h : RT i nb A B) (hij : i ≤ j) (hb : nb ≤ mb) : RT j mb A B := fun c hc => by
  obtain ⟨a1, a2, a3, a4, a5, a6, ⟨n1, h1, e1⟩, ⟨n2, h2, e2⟩, ⟨n3, h3, e3⟩, n4, h4, e4⟩ := h c hc
  exact ⟨a1, a2, a3, a4, a5, a6, ⟨n1, by omega, e1⟩, ⟨n2, by omega, e2⟩, ⟨n3, by omega, e3⟩, n4, by omega, e4⟩
theorem RD.up {i j nb mb : Nat} {A B : qV} (h : RD i nb A B) (hij : i ≤ j) (hb : nb ≤ mb) : RD j mb A B := by
  obtain ⟨a1, a2, a3, ⟨n1, h1, e1⟩, ⟨n2, h2, e2⟩, ⟨n3, h3, e3⟩, a4⟩ := h
  exact ⟨a1, a2, a3, ⟨n1, by omega, e1⟩, ⟨n2, by omega, e2⟩, ⟨n3, by omega, e3⟩, a4⟩
theorem RN.up {i j : Nat} {A B : qV} (h : RN i A B) (hij : i ≤ j) : RN j A B := fun c hc => by
  obtain ⟨a1, a2, a3, a4, a5, n, hn, e⟩ := h c hc
  exact ⟨a1, a2, a3, a4, a5, n, by omega, e⟩
theorem RL.up {nl nb mb : Nat} {A B : qV} (h : RL nl nb A B) (hb : nb ≤ mb) : RL nl mb A B := fun q hq => by
  obtain ⟨a1, a2, a3, a4, a5, a6, ⟨n, hn, e⟩, a7⟩ := h q hq
  exact ⟨a1, a2, a3, a4, a5, a6, ⟨n, by omega, e⟩, a7⟩
theorem RelN.up {i j nb nk nl : Nat} {A B : qV} (h : RelN i nb nk nl A B) (hij : i ≤ j) : RelN j nb nk nl A B := by
  obtain ⟨h0, hB, hC, hT, hO, hD, hN, hL, hK, hP⟩ := h
  exact ⟨h0, hB, hC.up hij, hT.up hij (Nat.le_refl _), hO, hD.up hij (Nat.le_refl _), hN.up hij, hL, hK, hP⟩

theorem R0.eq {nb nk nl : Nat} {A B A' B' : qV} (h : R0 nb nk nl A B) (a0 : A' 0 = A 0 := by first | rfl | simp [qv_fr, qu_fr, f_put_fr, f_look_fr, f_begin_fr, f_copy_fr, f_takeOut_fr, f_grant_fr, g_put_fr, g_look_fr, g_remove_fr, g_wake_fr]) (a12 : A' 12 = A 12 := by first | rfl | simp [qv_fr, qu_fr, f_put_fr, f_look_fr, f_begin_fr, f_copy_fr, f_takeOut_fr, f_grant_fr, g_put_fr, g_look_fr, g_remove_fr, g_wake_fr]) (s1 : B' 20 0 1 = B 20 0 1 := by first | rfl | simp [qv_at, qu_fr, f_put_fr, f_look_fr, f_begin_fr, f_copy_fr, f_takeOut_fr, f_grant_fr, g_put_fr, g_put_20, g_look_fr, g_remove_fr, g_remove_20, g_wake_fr]) (s24 : B' 20 0 24 = B 20 0 24 := by first | rfl | simp [qv_at, qu_fr, f_put_fr, f_look_fr, f_begin_fr, f_copy_fr, f_takeOut_fr, f_grant_fr, g_put_fr, g_put_20, g_look_fr, g_remove_fr, g_remove_20, g_wake_fr]) (s22 : B' 20 0 22 = B 20 0 22 := by first | rfl | simp [qv_at, qu_fr, f_put_fr, f_look_fr, f_begin_fr, f_copy_fr, f_takeOut_fr, f_grant_fr, g_put_fr, g_put_20, g_look_fr, g_remove_fr, g_remove_20, g_wake_fr]) : R0 nb nk nl A' B' := by
  unfold R0
  rw [a0, a12, s1, s24, s22]
  exact h
theorem RB.eq {A B A' B' : qV} (h : RB  A B) (a2 : A' 2 = A 2 := by first | rfl | simp [qv_fr, qu_fr, f_put_fr, f_look_fr, f_begin_fr, f_copy_fr, f_takeOut_fr, f_grant_fr, g_put_fr, g_look_fr, g_remove_fr, g_wake_fr]) (a3 : A' 3 = A 3 := by first | rfl | simp [qv_fr, qu_fr, f_put_fr, f_look_fr, f_begin_fr, f_copy_fr, f_takeOut_fr, f_grant_fr, g_put_fr, g_look_fr, g_remove_fr, g_wake_fr]) (a4 : A' 4 = A 4 := by first | rfl | simp [qv_fr, qu_fr, f_put_fr, f_look_fr, f_begin_fr, f_copy_fr, f_takeOut_fr, f_grant_fr, g_put_fr, g_look_fr, g_remove_fr, g_wake_fr]) (b21 : B' 21 = B 21 := by first | rfl | simp [qv_fr, qu_fr, f_put_fr, f_look_fr, f_begin_fr, f_copy_fr, f_takeOut_fr, f_grant_fr, g_put_fr, g_look_fr, g_remove_fr, g_wake_fr]) (b22 : B' 22 = B 22 := by first | rfl | simp [qv_fr, qu_fr, f_put_fr, f_look_fr, f_begin_fr, f_copy_fr, f_takeOut_fr, f_grant_fr, g_put_fr, g_look_fr, g_remove_fr, g_wake_fr]) (b23 : B' 23 = B 23 := by first | rfl | simp [qv_fr, qu_fr, f_put_fr, f_look_fr, f_begin_fr, f_copy_fr, f_takeOut_fr, f_grant_fr, g_put_fr, g_look_fr, g_remove_fr, g_wake_fr]) : RB  A' B' := by
  unfold RB
  rw [a2, a3, a4, b21, b22, b23]
  exact h
theorem RC.eq {i : Nat} {A B A' B' : qV} (h : RC i A B) (a8 : A' 8 = A 8 := by first | rfl | simp [qv_fr, qu_fr, f_put_fr, f_look_fr, f_begin_fr, f_copy_fr, f_takeOut_fr, f_grant_fr, g_put_fr, g_look_fr, g_remove_fr, g_wake_fr]) (b24 : B' 24 = B 24 := by first | rfl | simp [qv_fr, qu_fr, f_put_fr, f_look_fr, f_begin_fr, f_copy_fr, f_takeOut_fr, f_grant_fr, g_put_fr, g_look_fr, g_remove_fr, g_wake_fr]) (b25 : B' 25 = B 25 := by first | rfl | simp [qv_fr, qu_fr, f_put_fr, f_look_fr, f_begin_fr, f_copy_fr, f_takeOut_fr, f_grant_fr, g_put_fr, g_look_fr, g_remove_fr, g_wake_fr]) : RC i A' B' := by
  unfold RC
  rw [a8, b24, b25]
  exact h
theorem RT.eq {i nb : Nat} {A B A' B' : qV} (h : RT i nb A B) (a7 : A' 7 = A 7 := by first | rfl | simp [qv_fr, qu_fr, f_put_fr, f_look_fr, f_begin_fr, f_copy_fr, f_takeOut_fr, f_grant_fr, g_put_fr, g_look_fr, g_remove_fr, g_wake_fr]) (b26 : B' 26 = B 26 := by first | rfl | simp [qv_fr, qu_fr, f_put_fr, f_look_fr, f_begin_fr, f_copy_fr, f_takeOut_fr, f_grant_fr, g_put_fr, g_look_fr, g_remove_fr, g_wake_fr]) (b27 : B' 27 = B 27 := by first | rfl | simp [qv_fr, qu_fr, f_put_fr, f_look_fr, f_begin_fr, f_copy_fr, f_takeOut_fr, f_grant_fr, g_put_fr, g_look_fr, g_remove_fr, g_wake_fr]) (b28 : B' 28 = B 28 := by first | rfl | simp [qv_fr, qu_fr, f_put_fr, f_look_fr, f_begin_fr, f_copy_fr, f_takeOut_fr, f_grant_fr, g_put_fr, g_look_fr, g_remove_fr, g_wake_fr]) (b29 : B' 29 = B 29 := by first | rfl | simp [qv_fr, qu_fr, f_put_fr, f_look_fr, f_begin_fr, f_copy_fr, f_takeOut_fr, f_grant_fr, g_put_fr, g_look_fr, g_remove_fr, g_wake_fr]) (b30 : B' 30 = B 30 := by first | rfl | simp [qv_fr, qu_fr, f_put_fr, f_look_fr, f_begin_fr, f_copy_fr, f_takeOut_fr, f_grant_fr, g_put_fr, g_look_fr, g_remove_fr, g_wake_fr]) (b31 : B' 31 = B 31 := by first | rfl | simp [qv_fr, qu_fr, f_put_fr, f_look_fr, f_begin_fr, f_copy_fr, f_takeOut_fr, f_grant_fr, g_put_fr, g_look_fr, g_remove_fr, g_wake_fr]) : RT i nb A' B' := by
  unfold RT
  rw [a7, b26, b27, b28, b29, b30, b31]
  exact h
theorem RO.eq {nk : Nat} {A B A' B' : qV} (h : RO nk A B) (a7 : A' 7 = A 7 := by first | rfl | simp [qv_fr, qu_fr, f_put_fr, f_look_fr, f_begin_fr, f_copy_fr, f_takeOut_fr, f_grant_fr, g_put_fr, g_look_fr, g_remove_fr, g_wake_fr]) (b38 : B' 38 = B 38 := by first | rfl | simp [qv_fr, qu_fr, f_put_fr, f_look_fr, f_begin_fr, f_copy_fr, f_takeOut_fr, f_grant_fr, g_put_fr, g_look_fr, g_remove_fr, g_wake_fr]) (b40 : B' 40 = B 40 := by first | rfl | simp [qv_fr, qu_fr, f_put_fr, f_look_fr, f_begin_fr, f_copy_fr, f_takeOut_fr, f_grant_fr, g_put_fr, g_look_fr, g_remove_fr, g_wake_fr]) : RO nk A' B' := by
  intro t ht
  rw [a7, cN_eq (B' := B') (B := B) (nI t) nk (fun k _ => ⟨by rw [b38], by rw [b40]⟩)]
  exact h t ht
theorem RD.eq {i nb : Nat} {A B A' B' : qV} (h : RD i nb A B) (a9 : A' 9 = A 9 := by first | rfl | simp [qv_fr, qu_fr, f_put_fr, f_look_fr, f_begin_fr, f_copy_fr, f_takeOut_fr, f_grant_fr, g_put_fr, g_look_fr, g_remove_fr, g_wake_fr]) (a8 : A' 8 = A 8 := by first | rfl | simp [qv_fr, qu_fr, f_put_fr, f_look_fr, f_begin_fr, f_copy_fr, f_takeOut_fr, f_grant_fr, g_put_fr, g_look_fr, g_remove_fr, g_wake_fr]) (s13 : B' 20 0 13 = B 20 0 13 := by first | rfl | simp [qv_at, qu_fr, f_put_fr, f_look_fr, f_begin_fr, f_copy_fr, f_takeOut_fr, f_grant_fr, g_put_fr, g_put_20, g_look_fr, g_remove_fr, g_remove_20, g_wake_fr]) (s14 : B' 20 0 14 = B 20 0 14 := by first | rfl | simp [qv_at, qu_fr, f_put_fr, f_look_fr, f_begin_fr, f_copy_fr, f_takeOut_fr, f_grant_fr, g_put_fr, g_put_20, g_look_fr, g_remove_fr, g_remove_20, g_wake_fr]) (s15 : B' 20 0 15 = B 20 0 15 := by first | rfl | simp [qv_at, qu_fr, f_put_fr, f_look_fr, f_begin_fr, f_copy_fr, f_takeOut_fr, f_grant_fr, g_put_fr, g_put_20, g_look_fr, g_remove_fr, g_remove_20, g_wake_fr]) (s16 : B' 20 0 16 = B 20 0 16 := by first | rfl | simp [qv_at, qu_fr, f_put_fr, f_look_fr, f_begin_fr, f_copy_fr, f_takeOut_fr, f_grant_fr, g_put_fr, g_put_20, g_look_fr, g_remove_fr, g_remove_20, g_wake_fr]) : RD i nb A' B' := by
  unfold RD
  rw [a9, a8, s13, s14, s15, s16]
  exact h
theorem RN.eq {i : Nat} {A B A' B' : qV} (h : RN i A B) (a11 : A' 11 = A 11 := by first | rfl | simp [qv_fr, qu_fr, f_put_fr, f_look_fr, f_begin_fr, f_copy_fr, f_takeOut_fr, f_grant_fr, g_put_fr, g_look_fr, g_remove_fr, g_wake_fr]) (b32 : B' 32 = B 32 := by first | rfl | simp [qv_fr, qu_fr, f_put_fr, f_look_fr, f_begin_fr, f_copy_fr, f_takeOut_fr, f_grant_fr, g_put_fr, g_look_fr, g_remove_fr, g_wake_fr]) (b33 : B' 33 = B 33 := by first | rfl | simp [qv_fr, qu_fr, f_put_fr, f_look_fr, f_begin_fr, f_copy_fr, f_takeOut_fr, f_grant_fr, g_put_fr, g_look_fr, g_remove_fr, g_wake_fr]) (b34 : B' 34 = B 34 := by first | rfl | simp [qv_fr, qu_fr, f_put_fr, f_look_fr, f_begin_fr, f_copy_fr, f_takeOut_fr, f_grant_fr, g_put_fr, g_look_fr, g_remove_fr, g_wake_fr]) (b35 : B' 35 = B 35 := by first | rfl | simp [qv_fr, qu_fr, f_put_fr, f_look_fr, f_begin_fr, f_copy_fr, f_takeOut_fr, f_grant_fr, g_put_fr, g_look_fr, g_remove_fr, g_wake_fr]) (b36 : B' 36 = B 36 := by first | rfl | simp [qv_fr, qu_fr, f_put_fr, f_look_fr, f_begin_fr, f_copy_fr, f_takeOut_fr, f_grant_fr, g_put_fr, g_look_fr, g_remove_fr, g_wake_fr]) : RN i A' B' := by
  unfold RN
  rw [a11, b32, b33, b34, b35, b36]
  exact h
theorem RL.eq {nl nb : Nat} {A B A' B' : qV} (h : RL nl nb A B) (a13 : A' 13 = A 13 := by first | rfl | simp [qv_fr, qu_fr, f_put_fr, f_look_fr, f_begin_fr, f_copy_fr, f_takeOut_fr, f_grant_fr, g_put_fr, g_look_fr, g_remove_fr, g_wake_fr]) (b37 : B' 37 = B 37 := by first | rfl | simp [qv_fr, qu_fr, f_put_fr, f_look_fr, f_begin_fr, f_copy_fr, f_takeOut_fr, f_grant_fr, g_put_fr, g_look_fr, g_remove_fr, g_wake_fr]) : RL nl nb A' B' := by
  unfold RL
  rw [a13, b37]
  exact h
theorem RK.eq {nk : Nat} {A B A' B' : qV} (h : RK nk A B) (a15 : A' 15 = A 15 := by first | rfl | simp [qv_fr, qu_fr, f_put_fr, f_look_fr, f_begin_fr, f_copy_fr, f_takeOut_fr, f_grant_fr, g_put_fr, g_look_fr, g_remove_fr, g_wake_fr]) (b38 : B' 38 = B 38 := by first | rfl | simp [qv_fr, qu_fr, f_put_fr, f_look_fr, f_begin_fr, f_copy_fr, f_takeOut_fr, f_grant_fr, g_put_fr, g_look_fr, g_remove_fr, g_wake_fr]) (b39 : B' 39 = B 39 := by first | rfl | simp [qv_fr, qu_fr, f_put_fr, f_look_fr, f_begin_fr, f_copy_fr, f_takeOut_fr, f_grant_fr, g_put_fr, g_look_fr, g_remove_fr, g_wake_fr]) (b40 : B' 40 = B 40 := by first | rfl | simp [qv_fr, qu_fr, f_put_fr, f_look_fr, f_begin_fr, f_copy_fr, f_takeOut_fr, f_grant_fr, g_put_fr, g_look_fr, g_remove_fr, g_wake_fr]) : RK nk A' B' := by
  unfold RK
  rw [a15, b38, b39, b40]
  exact h
theorem RP.eq {A B A' B' : qV} (h : RP  A B) (a16 : A' 16 = A 16 := by first | rfl | simp [qv_fr, qu_fr, f_put_fr, f_look_fr, f_begin_fr, f_copy_fr, f_takeOut_fr, f_grant_fr, g_put_fr, g_look_fr, g_remove_fr, g_wake_fr]) (b41 : B' 41 = B 41 := by first | rfl | simp [qv_fr, qu_fr, f_put_fr, f_look_fr, f_begin_fr, f_copy_fr, f_takeOut_fr, f_grant_fr, g_put_fr, g_look_fr, g_remove_fr, g_wake_fr]) : RP  A' B' := by
  unfold RP
  rw [a16, b41]
  exact h
theorem RelN.l {i nb nk nl : Nat} {A B A' : qV} (h : RelN i nb nk nl A B) (e : ∀ g, g < 20 → A' g = A g) : RelN i nb nk nl A' B := by
  obtain ⟨h0, hB, hC, hT, hO, hD, hN, hL, hK, hP⟩ := h
  exact ⟨h0.eq (e _ (by decide)) (e _ (by decide)) rfl rfl rfl, hB.eq (e _ (by decide)) (e _ (by decide)) (e _ (by decide)) rfl rfl rfl, hC.eq (e _ (by decide)) rfl rfl, hT.eq (e _ (by decide)) rfl rfl rfl rfl rfl rfl, hO.eq (e _ (by decide)) rfl rfl, hD.eq (e _ (by decide)) (e _ (by decide)) rfl rfl rfl rfl, hN.eq (e _ (by decide)) rfl rfl rfl rfl rfl, hL.eq (e _ (by decide)) rfl, hK.eq (e _ (by decide)) rfl rfl rfl, hP.eq (e _ (by decide)) rfl⟩
theorem RelN.r {i nb nk nl : Nat} {A B B' : qV} (h : RelN i nb nk nl A B) (e : ∀ g, 20 ≤ g → B' g = B g) : RelN i nb nk nl A B' := by
  obtain ⟨h0, hB, hC, hT, hO, hD, hN, hL, hK, hP⟩ := h
  have e20 : ∀ k, B' 20 0 k = B 20 0 k := fun k => by rw [e 20 (by decide)]
  exact ⟨h0.eq rfl rfl (e20 _) (e20 _) (e20 _), hB.eq rfl rfl rfl (e _ (by decide)) (e _ (by decide)) (e _ (by decide)), hC.eq rfl (e _ (by decide)) (e _ (by decide)), hT.eq rfl (e _ (by decide)) (e _ (by decide)) (e _ (by decide)) (e _ (by decide)) (e _ (by decide)) (e _ (by decide)), hO.eq rfl (e _ (by decide)) (e _ (by decide)), hD.eq rfl rfl (e20 _) (e20 _) (e20 _) (e20 _), hN.eq rfl (e _ (by decide)) (e _ (by decide)) (e _ (by decide)) (e _ (by decide)) (e _ (by decide)), hL.eq rfl (e _ (by decide)), hK.eq rfl (e _ (by decide)) (e _ (by decide)) (e _ (by decide)), hP.eq rfl (e _ (by decide))⟩
theorem RelN.code {i nb nk nl : Nat} {A B : qV} (h : RelN i nb nk nl A B) (c : Int32) : RelN i nb nk nl A (qv B 20 0 0 c) := by
  obtain ⟨h0, hB, hC, hT, hO, hD, hN, hL, hK, hP⟩ := h
  exact ⟨h0, hB, hC, hT, hO.eq, hD, hN, hL, hK, hP⟩
/-- the two halves put together -/
theorem Rel.of {i nb nk nl : Nat} {V F W : qV} (h : RelN i nb nk nl F W) (e : ∀ g, g < 20 → W g = F g) : Rel i W := ⟨nb, nk, nl, h.l e⟩

/-- numbers -/
theorem n_sub {a b k : Nat} (ha : a < 2 ^ 29) (hb : b < 2 ^ 29) (hk : k < 2 ^ 29) : (nI a - nI b < nI k ↔ nI a < nI b + nI k) := by
  rw [nI_add, Int32.lt_iff_toInt_lt, Int32.lt_iff_toInt_lt, pk_sub_toInt (by omega) (by omega), nI_toInt (by omega), nI_toInt (by omega), nI_toInt (by omega)]
  omega
theorem n_sub' {a b k : Nat} (ha : a < 2 ^ 29) (hb : b < 2 ^ 29) (hk : k < 2 ^ 29) : (nI k ≤ nI a - nI b ↔ nI b + nI k ≤ nI a) := by
  rw [nI_add, Int32.le_iff_toInt_le, Int32.le_iff_toInt_le, pk_sub_toInt (by omega) (by omega), nI_toInt (by omega), nI_toInt (by omega), nI_toInt (by omega)]
  omega
theorem n_not {a : Int32} {n : Nat} (hn : n < 2 ^ 31) : (g_not a (nI n) = 0 ↔ ∃ j, j < n ∧ a = nI j) := by
  unfold g_not
  constructor
  · intro h
    by_cases h1 : a < 0
    · rw [if_pos h1] at h; exact absurd h (by decide)
    · rw [if_neg h1] at h
      obtain ⟨j, hj, rfl⟩ := nI_of h1
      by_cases h2 : nI j < nI n
      · exact ⟨j, (nI_ltI hj hn).mp h2, rfl⟩
      · rw [if_neg h2] at h; exact absurd h (by decide)
  · rintro ⟨j, hj, rfl⟩
    rw [if_neg (nI_pos (by omega)), if_pos (nI_lt hj hn)]
theorem n_not1 {a : Int32} {n : Nat} (hn : n < 2 ^ 31) (h : ¬ ∃ j, j < n ∧ a = nI j) : ¬ g_not a (nI n) = 0 := fun q => h ((n_not hn).mp q)
theorem n_art (a : Int32) : (f_isArticle a = 1 ∧ ∃ j, j < 8 ∧ a = nI j) ∨ (f_isArticle a = 0 ∧ ¬ ∃ j, j < 8 ∧ a = nI j) := by
  unfold f_isArticle
  rcases pk_ix a (n := 8) (by decide) with h | h | ⟨j, hj, rfl⟩
  · exact Or.inr ⟨if_pos h, fun ⟨j, hj, e⟩ => absurd h (by rw [e]; exact nI_pos (by omega))⟩
  · refine Or.inr ⟨?_, fun ⟨j, hj, e⟩ => absurd h (by rw [e]; exact nI_ge hj (by decide))⟩
    split
    · rfl
    · exact if_pos h
  · exact Or.inl ⟨by rw [if_neg (nI_pos (by omega)), if_neg (show ¬ (8 : Int32) ≤ nI j from nI_ge hj (by decide))], j, hj, rfl⟩
theorem n_slot (a : Int32) : (f_isSlot a = 1 ∧ ∃ j, j < 2 ∧ a = nI j) ∨ (f_isSlot a = 0 ∧ ¬ ∃ j, j < 2 ∧ a = nI j) := by
  unfold f_isSlot
  rcases pk_ix a (n := 2) (by decide) with h | h | ⟨j, hj, rfl⟩
  · exact Or.inr ⟨if_pos h, fun ⟨j, hj, e⟩ => absurd h (by rw [e]; exact nI_pos (by omega))⟩
  · refine Or.inr ⟨?_, fun ⟨j, hj, e⟩ => absurd h (by rw [e]; exact nI_ge hj (by decide))⟩
    split
    · rfl
    · exact if_pos h
  · exact Or.inl ⟨by rw [if_neg (nI_pos (by omega)), if_neg (show ¬ (2 : Int32) ≤ nI j from nI_ge hj (by decide))], j, hj, rfl⟩
theorem n_amt (w : Int32) : (f_isAmount w = 1 ∧ ¬ w < 0 ∧ w ≤ 10000000) ∨ (f_isAmount w = 0 ∧ (w < 0 ∨ ¬ w ≤ 10000000)) := by
  unfold f_isAmount
  by_cases h1 : w < 0
  · exact Or.inr ⟨if_pos h1, Or.inl h1⟩
  · by_cases h2 : w ≤ 10000000
    · exact Or.inl ⟨by rw [if_neg h1, if_neg (Int32.not_lt.mpr h2)], h1, h2⟩
    · exact Or.inr ⟨by rw [if_neg h1, if_pos (Int32.not_le.mp h2)], Or.inr h2⟩
theorem n_bsz (z : Int32) : (f_isBundleSize z = 1 ∧ (z = 0 ∨ (¬ z < 2 ∧ ¬ 12 < z)) ∧ ∃ k, k < 100 ∧ z = nI k) ∨ (f_isBundleSize z = 0 ∧ ¬ z = 0 ∧ (z < 2 ∨ 12 < z)) := by
  unfold f_isBundleSize
  by_cases h0 : z = 0
  · exact Or.inl ⟨if_pos h0, Or.inl h0, 0, by decide, h0⟩
  · rw [if_neg h0]
    by_cases h1 : z < 2
    · exact Or.inr ⟨if_pos h1, h0, Or.inl h1⟩
    · by_cases h2 : 12 < z
      · exact Or.inr ⟨by rw [if_neg h1, if_pos h2], h0, Or.inr h2⟩
      · refine Or.inl ⟨by rw [if_neg h1, if_neg h2], Or.inr ⟨h1, h2⟩, ?_⟩
        have h3 : ¬ z < 0 := fun q => h1 (Int32.lt_trans q (by decide))
        obtain ⟨k, hk, e⟩ := nI_of2 (x := z) (M := 12) (n := 12) (by decide) h3 (Int32.not_lt.mp h2)
        exact ⟨k, by omega, e⟩
theorem n_td (w : Int32) : (f_isTD w = 1 ∧ ∃ j, j < 5 ∧ w = nI j) ∨ (f_isTD w = 0 ∧ ¬ ∃ j, j < 5 ∧ w = nI j) := by
  unfold f_isTD
  rcases pk_ix w (n := 5) (by decide) with h | h | ⟨j, hj, rfl⟩
  · exact Or.inr ⟨if_pos h, fun ⟨j, hj, e⟩ => absurd h (by rw [e]; exact nI_pos (by omega))⟩
  · refine Or.inr ⟨?_, fun ⟨j, hj, e⟩ => absurd h (by rw [e]; exact nI_ge hj (by decide))⟩
    split
    · rfl
    · exact if_pos (Int32.lt_of_lt_of_le (by decide) h)
  · exact Or.inl ⟨by rw [if_neg (nI_pos (by omega)), if_neg (show ¬ (4 : Int32) < nI j from nI_nlt (a := 4) (b := j) (by omega) (by decide))], j, hj, rfl⟩
theorem n_till (w : Int32) : (∃ t, t < 4 ∧ w = nI t) ∨ ((w < 0 ∨ ¬ w < 4) ∧ ¬ ∃ j, j < 4 ∧ w = nI j) := by
  rcases pk_ix w (n := 4) (by decide) with h | h | ⟨j, hj, rfl⟩
  · exact Or.inr ⟨Or.inl h, fun ⟨j, hj, e⟩ => absurd h (by rw [e]; exact nI_pos (by omega))⟩
  · exact Or.inr ⟨Or.inr (Int32.not_lt.mpr h), fun ⟨j, hj, e⟩ => absurd h (by rw [e]; exact nI_ge hj (by decide))⟩
  · exact Or.inl ⟨j, hj, rfl⟩
theorem n_ix {nl : Nat} (hl : nl ≤ 40) (w : Int32) : (∃ i, i < nl ∧ w = nI i) ∨ ((w < 0 ∨ ¬ w < nI nl) ∧ ¬ ∃ j, j < nl ∧ w = nI j) := by
  rcases pk_ix w (n := nl) (by omega) with h | h | ⟨j, hj, rfl⟩
  · exact Or.inr ⟨Or.inl h, fun ⟨j, hj, e⟩ => absurd h (by rw [e]; exact nI_pos (by omega))⟩
  · exact Or.inr ⟨Or.inr (Int32.not_lt.mpr h), fun ⟨j, hj, e⟩ => absurd h (by rw [e]; exact nI_ge hj (by omega))⟩
  · exact Or.inl ⟨j, hj, rfl⟩
theorem n_bask {V : qV} {nk : Nat} (hk : nk ≤ 40) (h7 : V 0 0 7 = nI nk) (w : Int32) : (f_isBasket V w = 1 ∧ ∃ k, k < nk ∧ w = nI k) ∨ (f_isBasket V w = 0 ∧ ¬ ∃ j, j < nk ∧ w = nI j) := by
  unfold f_isBasket
  rw [h7]
  rcases pk_ix w (n := nk) (by omega) with h | h | ⟨j, hj, rfl⟩
  · exact Or.inr ⟨if_pos h, fun ⟨j, hj, e⟩ => absurd h (by rw [e]; exact nI_pos (by omega))⟩
  · refine Or.inr ⟨?_, fun ⟨j, hj, e⟩ => absurd h (by rw [e]; exact nI_ge hj (by omega))⟩
    split
    · rfl
    · first | rfl | exact if_pos h
  · exact Or.inl ⟨by rw [if_neg (nI_pos (by omega)), if_neg (nI_ge hj (by omega))], j, hj, rfl⟩
theorem n_book {V : qV} {nb : Nat} (hb : nb ≤ 9) (h2 : V 0 0 2 = nI nb) (w : Int32) : (f_isBook V w = 1 ∧ ¬ w < 1 ∧ w ≤ nI nb ∧ ∃ b, b < nb ∧ w = nI (b + 1)) ∨ (f_isBook V w = 0 ∧ (w < 1 ∨ ¬ w ≤ nI nb)) := by
  unfold f_isBook
  rw [h2]
  by_cases h1 : w < 1
  · exact Or.inr ⟨if_pos h1, Or.inl h1⟩
  · by_cases h3 : w ≤ nI nb
    · refine Or.inl ⟨by rw [if_neg h1, if_neg (Int32.not_lt.mpr h3)], h1, h3, ?_⟩
      have h4 : ¬ w < 0 := fun q => h1 (Int32.lt_trans q (by decide))
      obtain ⟨k, hk, rfl⟩ := nI_of2 (x := w) (M := nI nb) (n := nb) (nI_toInt (by omega)) h4 h3
      have h5 : ¬ k = 0 := fun q => h1 (by rw [q]; decide)
      exact ⟨k - 1, by omega, by rw [show k - 1 + 1 = k by omega]⟩
    · exact Or.inr ⟨by rw [if_neg h1, if_pos (Int32.not_le.mp h3)], Or.inr h3⟩
/-- a call that answers nothing, an int, a long: both sides come to an end, with the same code and answer, and what held holds -/
def opV (l : Launch) (Z : qZ) (i : Nat) (V : qV) (Y : qY) (yW yM : MethodName) (rW rM : Room) (aW aM : List Value) : Prop := ∃ (k : Int32) (V1 V2 : qV) (Y1 : qY), CT l yW rW (pX Z) (qA (pX Z)) aW V Y (.inl (some (.int k))) V1 Y1 ∧ CT l yM rM (pX Z) (qA (pX Z)) aM V1 Y1 (.inl none) V2 Y1 ∧ V2 20 0 0 = k ∧ Rel (i + 1) V2
def opI (l : Launch) (Z : qZ) (i : Nat) (V : qV) (Y : qY) (yW yM : MethodName) (rW rM : Room) (aW aM : List Value) : Prop := ∃ (k r : Int32) (V1 V2 : qV) (Y1 : qY), CT l yW rW (pX Z) (qA (pX Z)) aW V Y (.inl (some (.int k))) V1 Y1 ∧ CT l yM rM (pX Z) (qA (pX Z)) aM V1 Y1 (.inl (some (.int r))) V2 Y1 ∧ V2 20 0 0 = k ∧ (k = 0 → Y1 45 0 0 = r.toInt64) ∧ Rel (i + 1) V2
def opJ (l : Launch) (Z : qZ) (i : Nat) (V : qV) (Y : qY) (yW yM : MethodName) (rW rM : Room) (aW aM : List Value) : Prop := ∃ (k : Int32) (r : Int64) (V1 V2 : qV) (Y1 Y2 : qY), CT l yW rW (pX Z) (qA (pX Z)) aW V Y (.inl (some (.int k))) V1 Y1 ∧ CT l yM rM (pX Z) (qA (pX Z)) aM V1 Y1 (.inl (some (.long r))) V2 Y2 ∧ V2 20 0 0 = k ∧ (k = 0 → Y2 45 0 0 = r) ∧ Rel (i + 1) V2
