/-! the reference: its private methods. Family 20: its object (field 0 thrownCode, 1 books, 13 activeBook, 14 change, 15 waits, 16 waitsTo, 22 letters, 24 baskets); 21 .. 42: its arrays in the order of its fields -/
def g_not (a b : Int32) : Int32 := if a < 0 then 1 else if a < b then 0 else 1
def g_post (V : qV) (n : Nat) (k t b a : Int32) : qV := qv (qv (qv (qv (qv V 37 0 (4 * n) k) 37 0 (4 * n + 1) t) 37 0 (4 * n + 2) b) 37 0 (4 * n + 3) a) 20 0 22 (nI (n + 1))
def g_put (V : qV) (k t b a : Int32) : qV := if V 20 0 22 = 40 then V else g_post V (V 20 0 22).toNatClampNeg k t b a
theorem g_put_fr (V : qV) (k t b a : Int32) (g : Nat) (h : g ≠ 20 ∧ g ≠ 37) : g_put V k t b a g = V g := by
  funext j i
  unfold g_put g_post
  split
  · rfl
  · simp [qv_at, h.1, h.2]
theorem g_put_20 (V : qV) (k t b a : Int32) (i : Nat) (h : i ≠ 22) : g_put V k t b a 20 0 i = V 20 0 i := by
  unfold g_put g_post
  split
  · rfl
  · simp [qv_at, h]
theorem g_cnt2 {V V' : qV} (h : ∃ q, q ≤ 40 ∧ V 20 0 22 = nI q) (e : V' 20 0 22 = V 20 0 22) : ∃ q, q ≤ 40 ∧ V' 20 0 22 = nI q := by
  rw [e]
  exact h
def g_free (V : qV) (t : Nat) : Int32 := if V 20 0 14 ≤ V 36 0 t then 1 else if V 33 0 t = 0 then 1 else if V 34 0 t = V 20 0 14 then 1 else if V 24 0 4 / 100 < V 35 0 t + 63 then 0 else 1
def g_wake (V : qV) : qV := if V 20 0 15 = 0 then V else if V 24 0 4 / 100 < V 20 0 16 then V else qv V 20 0 15 0
def g_look1 (V : qV) : qV := if V 20 0 14 = 0 then V else if V 20 0 15 = 0 then (if g_free V 0 = 0 then V else if g_free V 1 = 0 then V else if g_free V 2 = 0 then V else if g_free V 3 = 0 then V else qv (qv V 20 0 13 (V 20 0 14)) 20 0 14 0) else V
def g_look (V : qV) : qV := g_look1 (g_wake V)
theorem g_wake_fr (V : qV) (g : Nat) (h : g ≠ 20) : g_wake V g = V g := by
  funext a i
  unfold g_wake
  repeat' split
  all_goals first | rfl | simp [qv_at, h]
theorem g_look_fr (V : qV) (g : Nat) (h : g ≠ 20) : g_look V g = V g := by
  rw [← g_wake_fr V g h]
  funext a i
  unfold g_look g_look1
  repeat' split
  all_goals first | rfl | simp [qv_at, h]
def g_bookFor (V : qV) (t : Nat) : Int32 := if V 20 0 14 = 0 then V 20 0 13 else if V 36 0 t < V 20 0 14 then 0 else V 20 0 14
def g_asked1 (V : qV) (t : Nat) (a : Int32) : qV := if V 20 0 15 = 0 then (if a < V 32 0 t then V else if g_bookFor V t = 0 then V else g_put (qv (qv (qv (qv V 32 0 t a) 34 0 t (g_bookFor V t)) 35 0 t (V 24 0 4 / 100)) 33 0 t 1) 2 (nI t) (g_bookFor V t) a) else V
def g_asked (V : qV) (t : Nat) (a : Int32) : qV := g_asked1 (g_wake V) t a
def g_lease (V : qV) (t : Nat) : Int32 := if V 31 0 t ≤ 0 then 0 else if V 30 0 t + 60 ≤ V 24 0 t / 100 then 0 else if V 26 0 t < V 31 0 t then 0 else if V 31 0 t < V 27 0 t then 0 else V 31 0 t
def g_shift : (Nat → Int32) → Nat → Nat → (Nat → Int32)
  | f, 0, _ => f
  | f, r + 1, k => g_shift (upd f k (f (k + 4))) r (k + 1)
def g_cut (f : Nat → Int32) (i n : Nat) : Nat → Int32 := fun k => if 4 * i ≤ k ∧ k < 4 * (n - 1) then f (k + 4) else f k
def g_remove (V : qV) (i n : Nat) : qV := qu (qv V 20 0 22 (nI (n - 1))) 37 0 (g_cut (V 37 0) i n)
theorem g_shift_at : ∀ (r : Nat) (f : Nat → Int32) (k j : Nat), g_shift f r k j = if k ≤ j ∧ j < k + r then f (j + 4) else f j := by
  intro r
  induction r with
  | zero => intro f k j; rw [if_neg (by omega)]; rfl
  | succ r ih =>
    intro f k j
    show g_shift (upd f k (f (k + 4))) r (k + 1) j = _
    rw [ih]
    by_cases h1 : j = k
    · subst h1
      rw [if_neg (by omega), if_pos (by omega), pk_us]
    · by_cases h2 : k ≤ j ∧ j < k + (r + 1)
      · rw [if_pos (by omega), if_pos h2, pk_un (by omega)]
      · rw [if_neg (by omega), if_neg h2, pk_un h1]
theorem g_shift_cut (f : Nat → Int32) (i n : Nat) (h : i < n) : g_shift f (4 * (n - 1) - 4 * i) (4 * i) = g_cut f i n := by
  funext j
  rw [g_shift_at]
  unfold g_cut
  by_cases h1 : 4 * i ≤ j ∧ j < 4 * (n - 1)
  · rw [if_pos (by omega), if_pos h1]
  · rw [if_neg (by omega), if_neg h1]
theorem g_qu (V : qV) (g j : Nat) (f : Nat → Int32) (k : Nat) (v : Int32) : qv (qu V g j f) g j k v = qu V g j (upd f k v) := by
  funext a b
  unfold qv qu
  by_cases h : a = g ∧ b = j
  · simp [h]
  · simp [h]
theorem g_remove_fr (V : qV) (i n g : Nat) (h : g ≠ 20 ∧ g ≠ 37) : g_remove V i n g = V g := by
  funext a k
  simp [g_remove, qv, qu, h.1, h.2]
theorem g_remove_20 (V : qV) (i n k : Nat) (h : k ≠ 22) : g_remove V i n 20 0 k = V 20 0 k := by
  have : g_remove V i n 20 0 = qv V 20 0 22 (nI (n - 1)) 20 0 := by simp [g_remove, qu]
  rw [this, qv_at, if_neg (by omega)]

theorem d_M_clock_0 : decode b_M_clock 0 = .ok (.aload_n 0, 1) := by decide +kernel
theorem d_M_clock_1 : decode b_M_clock 1 = .ok (.getfield 26, 3) := by decide +kernel
theorem d_M_clock_4 : decode b_M_clock 4 = .ok (.iload_n 1, 1) := by decide +kernel
theorem d_M_clock_5 : decode b_M_clock 5 = .ok (.iaload, 1) := by decide +kernel
theorem d_M_clock_6 : decode b_M_clock 6 = .ok (.bipush 100, 2) := by decide +kernel
theorem d_M_clock_8 : decode b_M_clock 8 = .ok (.idiv, 1) := by decide +kernel
theorem d_M_clock_9 : decode b_M_clock 9 = .ok (.ireturn, 1) := by decide +kernel

theorem d_M_post_0 : decode b_M_post 0 = .ok (.aload_n 0, 1) := by decide +kernel
theorem d_M_post_1 : decode b_M_post 1 = .ok (.getfield 79, 3) := by decide +kernel
theorem d_M_post_4 : decode b_M_post 4 = .ok (.bipush 40, 2) := by decide +kernel
theorem d_M_post_6 : decode b_M_post 6 = .ok (.if_icmp .ne 4, 3) := by decide +kernel
theorem d_M_post_9 : decode b_M_post 9 = .ok (.return_, 1) := by decide +kernel
theorem d_M_post_10 : decode b_M_post 10 = .ok (.aload_n 0, 1) := by decide +kernel
theorem d_M_post_11 : decode b_M_post 11 = .ok (.getfield 82, 3) := by decide +kernel
theorem d_M_post_14 : decode b_M_post 14 = .ok (.iconst 4, 1) := by decide +kernel
theorem d_M_post_15 : decode b_M_post 15 = .ok (.aload_n 0, 1) := by decide +kernel
theorem d_M_post_16 : decode b_M_post 16 = .ok (.getfield 79, 3) := by decide +kernel
theorem d_M_post_19 : decode b_M_post 19 = .ok (.imul, 1) := by decide +kernel
theorem d_M_post_20 : decode b_M_post 20 = .ok (.iload_n 1, 1) := by decide +kernel
theorem d_M_post_21 : decode b_M_post 21 = .ok (.iastore, 1) := by decide +kernel
theorem d_M_post_22 : decode b_M_post 22 = .ok (.aload_n 0, 1) := by decide +kernel
theorem d_M_post_23 : decode b_M_post 23 = .ok (.getfield 82, 3) := by decide +kernel
theorem d_M_post_26 : decode b_M_post 26 = .ok (.iconst 4, 1) := by decide +kernel
theorem d_M_post_27 : decode b_M_post 27 = .ok (.aload_n 0, 1) := by decide +kernel
theorem d_M_post_28 : decode b_M_post 28 = .ok (.getfield 79, 3) := by decide +kernel
theorem d_M_post_31 : decode b_M_post 31 = .ok (.imul, 1) := by decide +kernel
theorem d_M_post_32 : decode b_M_post 32 = .ok (.iconst 1, 1) := by decide +kernel
theorem d_M_post_33 : decode b_M_post 33 = .ok (.iadd, 1) := by decide +kernel
theorem d_M_post_34 : decode b_M_post 34 = .ok (.iload_n 2, 1) := by decide +kernel
theorem d_M_post_35 : decode b_M_post 35 = .ok (.iastore, 1) := by decide +kernel
theorem d_M_post_36 : decode b_M_post 36 = .ok (.aload_n 0, 1) := by decide +kernel
theorem d_M_post_37 : decode b_M_post 37 = .ok (.getfield 82, 3) := by decide +kernel
theorem d_M_post_40 : decode b_M_post 40 = .ok (.iconst 4, 1) := by decide +kernel
theorem d_M_post_41 : decode b_M_post 41 = .ok (.aload_n 0, 1) := by decide +kernel
theorem d_M_post_42 : decode b_M_post 42 = .ok (.getfield 79, 3) := by decide +kernel
theorem d_M_post_45 : decode b_M_post 45 = .ok (.imul, 1) := by decide +kernel
theorem d_M_post_46 : decode b_M_post 46 = .ok (.iconst 2, 1) := by decide +kernel
theorem d_M_post_47 : decode b_M_post 47 = .ok (.iadd, 1) := by decide +kernel
theorem d_M_post_48 : decode b_M_post 48 = .ok (.iload_n 3, 1) := by decide +kernel
theorem d_M_post_49 : decode b_M_post 49 = .ok (.iastore, 1) := by decide +kernel
theorem d_M_post_50 : decode b_M_post 50 = .ok (.aload_n 0, 1) := by decide +kernel
theorem d_M_post_51 : decode b_M_post 51 = .ok (.getfield 82, 3) := by decide +kernel
theorem d_M_post_54 : decode b_M_post 54 = .ok (.iconst 4, 1) := by decide +kernel
theorem d_M_post_55 : decode b_M_post 55 = .ok (.aload_n 0, 1) := by decide +kernel
theorem d_M_post_56 : decode b_M_post 56 = .ok (.getfield 79, 3) := by decide +kernel
theorem d_M_post_59 : decode b_M_post 59 = .ok (.imul, 1) := by decide +kernel
theorem d_M_post_60 : decode b_M_post 60 = .ok (.iconst 3, 1) := by decide +kernel
theorem d_M_post_61 : decode b_M_post 61 = .ok (.iadd, 1) := by decide +kernel
theorem d_M_post_62 : decode b_M_post 62 = .ok (.iload 4, 2) := by decide +kernel
theorem d_M_post_64 : decode b_M_post 64 = .ok (.iastore, 1) := by decide +kernel
theorem d_M_post_65 : decode b_M_post 65 = .ok (.aload_n 0, 1) := by decide +kernel
theorem d_M_post_66 : decode b_M_post 66 = .ok (.dup, 1) := by decide +kernel
theorem d_M_post_67 : decode b_M_post 67 = .ok (.getfield 79, 3) := by decide +kernel
theorem d_M_post_70 : decode b_M_post 70 = .ok (.iconst 1, 1) := by decide +kernel
theorem d_M_post_71 : decode b_M_post 71 = .ok (.iadd, 1) := by decide +kernel
theorem d_M_post_72 : decode b_M_post 72 = .ok (.putfield 79, 3) := by decide +kernel
theorem d_M_post_75 : decode b_M_post 75 = .ok (.return_, 1) := by decide +kernel

theorem d_M_remove_0 : decode b_M_remove 0 = .ok (.aload_n 0, 1) := by decide +kernel
theorem d_M_remove_1 : decode b_M_remove 1 = .ok (.dup, 1) := by decide +kernel
theorem d_M_remove_2 : decode b_M_remove 2 = .ok (.getfield 79, 3) := by decide +kernel
theorem d_M_remove_5 : decode b_M_remove 5 = .ok (.iconst 1, 1) := by decide +kernel
theorem d_M_remove_6 : decode b_M_remove 6 = .ok (.isub, 1) := by decide +kernel
theorem d_M_remove_7 : decode b_M_remove 7 = .ok (.putfield 79, 3) := by decide +kernel
theorem d_M_remove_10 : decode b_M_remove 10 = .ok (.iconst 4, 1) := by decide +kernel
theorem d_M_remove_11 : decode b_M_remove 11 = .ok (.iload_n 1, 1) := by decide +kernel
theorem d_M_remove_12 : decode b_M_remove 12 = .ok (.imul, 1) := by decide +kernel
theorem d_M_remove_13 : decode b_M_remove 13 = .ok (.istore_n 2, 1) := by decide +kernel
theorem d_M_remove_14 : decode b_M_remove 14 = .ok (.iload_n 2, 1) := by decide +kernel
theorem d_M_remove_15 : decode b_M_remove 15 = .ok (.iconst 4, 1) := by decide +kernel
theorem d_M_remove_16 : decode b_M_remove 16 = .ok (.aload_n 0, 1) := by decide +kernel
theorem d_M_remove_17 : decode b_M_remove 17 = .ok (.getfield 79, 3) := by decide +kernel
theorem d_M_remove_20 : decode b_M_remove 20 = .ok (.imul, 1) := by decide +kernel
theorem d_M_remove_21 : decode b_M_remove 21 = .ok (.if_icmp .ge 23, 3) := by decide +kernel
theorem d_M_remove_24 : decode b_M_remove 24 = .ok (.aload_n 0, 1) := by decide +kernel
theorem d_M_remove_25 : decode b_M_remove 25 = .ok (.getfield 82, 3) := by decide +kernel
theorem d_M_remove_28 : decode b_M_remove 28 = .ok (.iload_n 2, 1) := by decide +kernel
theorem d_M_remove_29 : decode b_M_remove 29 = .ok (.aload_n 0, 1) := by decide +kernel
theorem d_M_remove_30 : decode b_M_remove 30 = .ok (.getfield 82, 3) := by decide +kernel
theorem d_M_remove_33 : decode b_M_remove 33 = .ok (.iload_n 2, 1) := by decide +kernel
theorem d_M_remove_34 : decode b_M_remove 34 = .ok (.iconst 4, 1) := by decide +kernel
theorem d_M_remove_35 : decode b_M_remove 35 = .ok (.iadd, 1) := by decide +kernel
theorem d_M_remove_36 : decode b_M_remove 36 = .ok (.iaload, 1) := by decide +kernel
theorem d_M_remove_37 : decode b_M_remove 37 = .ok (.iastore, 1) := by decide +kernel
theorem d_M_remove_38 : decode b_M_remove 38 = .ok (.iinc 2 1, 3) := by decide +kernel
theorem d_M_remove_41 : decode b_M_remove 41 = .ok (.goto (-27), 3) := by decide +kernel
theorem d_M_remove_44 : decode b_M_remove 44 = .ok (.return_, 1) := by decide +kernel

theorem d_M_free_0 : decode b_M_free 0 = .ok (.aload_n 0, 1) := by decide +kernel
theorem d_M_free_1 : decode b_M_free 1 = .ok (.getfield 76, 3) := by decide +kernel
theorem d_M_free_4 : decode b_M_free 4 = .ok (.iload_n 1, 1) := by decide +kernel
theorem d_M_free_5 : decode b_M_free 5 = .ok (.iaload, 1) := by decide +kernel
theorem d_M_free_6 : decode b_M_free 6 = .ok (.aload_n 0, 1) := by decide +kernel
theorem d_M_free_7 : decode b_M_free 7 = .ok (.getfield 54, 3) := by decide +kernel
theorem d_M_free_10 : decode b_M_free 10 = .ok (.if_icmp .ge 42, 3) := by decide +kernel
theorem d_M_free_13 : decode b_M_free 13 = .ok (.aload_n 0, 1) := by decide +kernel
theorem d_M_free_14 : decode b_M_free 14 = .ok (.getfield 67, 3) := by decide +kernel
theorem d_M_free_17 : decode b_M_free 17 = .ok (.iload_n 1, 1) := by decide +kernel
theorem d_M_free_18 : decode b_M_free 18 = .ok (.baload, 1) := by decide +kernel
theorem d_M_free_19 : decode b_M_free 19 = .ok (.ifCond .eq 33, 3) := by decide +kernel
theorem d_M_free_22 : decode b_M_free 22 = .ok (.aload_n 0, 1) := by decide +kernel
theorem d_M_free_23 : decode b_M_free 23 = .ok (.getfield 70, 3) := by decide +kernel
theorem d_M_free_26 : decode b_M_free 26 = .ok (.iload_n 1, 1) := by decide +kernel
theorem d_M_free_27 : decode b_M_free 27 = .ok (.iaload, 1) := by decide +kernel
theorem d_M_free_28 : decode b_M_free 28 = .ok (.aload_n 0, 1) := by decide +kernel
theorem d_M_free_29 : decode b_M_free 29 = .ok (.getfield 54, 3) := by decide +kernel
theorem d_M_free_32 : decode b_M_free 32 = .ok (.if_icmp .eq 20, 3) := by decide +kernel
theorem d_M_free_35 : decode b_M_free 35 = .ok (.aload_n 0, 1) := by decide +kernel
theorem d_M_free_36 : decode b_M_free 36 = .ok (.iconst 4, 1) := by decide +kernel
theorem d_M_free_37 : decode b_M_free 37 = .ok (.invokevirtual 104, 3) := by decide +kernel
theorem d_M_free_40 : decode b_M_free 40 = .ok (.aload_n 0, 1) := by decide +kernel
theorem d_M_free_41 : decode b_M_free 41 = .ok (.getfield 73, 3) := by decide +kernel
theorem d_M_free_44 : decode b_M_free 44 = .ok (.iload_n 1, 1) := by decide +kernel
theorem d_M_free_45 : decode b_M_free 45 = .ok (.iaload, 1) := by decide +kernel
theorem d_M_free_46 : decode b_M_free 46 = .ok (.bipush 63, 2) := by decide +kernel
theorem d_M_free_48 : decode b_M_free 48 = .ok (.iadd, 1) := by decide +kernel
theorem d_M_free_49 : decode b_M_free 49 = .ok (.if_icmp .lt 7, 3) := by decide +kernel
theorem d_M_free_52 : decode b_M_free 52 = .ok (.iconst 1, 1) := by decide +kernel
theorem d_M_free_53 : decode b_M_free 53 = .ok (.goto 4, 3) := by decide +kernel
theorem d_M_free_56 : decode b_M_free 56 = .ok (.iconst 0, 1) := by decide +kernel
theorem d_M_free_57 : decode b_M_free 57 = .ok (.ireturn, 1) := by decide +kernel

theorem d_M_look_0 : decode b_M_look 0 = .ok (.aload_n 0, 1) := by decide +kernel
theorem d_M_look_1 : decode b_M_look 1 = .ok (.getfield 57, 3) := by decide +kernel
theorem d_M_look_4 : decode b_M_look 4 = .ok (.ifCond .eq 20, 3) := by decide +kernel
theorem d_M_look_7 : decode b_M_look 7 = .ok (.aload_n 0, 1) := by decide +kernel
theorem d_M_look_8 : decode b_M_look 8 = .ok (.iconst 4, 1) := by decide +kernel
theorem d_M_look_9 : decode b_M_look 9 = .ok (.invokevirtual 104, 3) := by decide +kernel
theorem d_M_look_12 : decode b_M_look 12 = .ok (.aload_n 0, 1) := by decide +kernel
theorem d_M_look_13 : decode b_M_look 13 = .ok (.getfield 61, 3) := by decide +kernel
theorem d_M_look_16 : decode b_M_look 16 = .ok (.if_icmp .lt 8, 3) := by decide +kernel
theorem d_M_look_19 : decode b_M_look 19 = .ok (.aload_n 0, 1) := by decide +kernel
theorem d_M_look_20 : decode b_M_look 20 = .ok (.iconst 0, 1) := by decide +kernel
theorem d_M_look_21 : decode b_M_look 21 = .ok (.putfield 57, 3) := by decide +kernel
theorem d_M_look_24 : decode b_M_look 24 = .ok (.aload_n 0, 1) := by decide +kernel
theorem d_M_look_25 : decode b_M_look 25 = .ok (.getfield 54, 3) := by decide +kernel
theorem d_M_look_28 : decode b_M_look 28 = .ok (.ifCond .eq 10, 3) := by decide +kernel
theorem d_M_look_31 : decode b_M_look 31 = .ok (.aload_n 0, 1) := by decide +kernel
theorem d_M_look_32 : decode b_M_look 32 = .ok (.getfield 57, 3) := by decide +kernel
theorem d_M_look_35 : decode b_M_look 35 = .ok (.ifCond .eq 4, 3) := by decide +kernel
theorem d_M_look_38 : decode b_M_look 38 = .ok (.return_, 1) := by decide +kernel
theorem d_M_look_39 : decode b_M_look 39 = .ok (.iconst 0, 1) := by decide +kernel
theorem d_M_look_40 : decode b_M_look 40 = .ok (.istore_n 1, 1) := by decide +kernel
theorem d_M_look_41 : decode b_M_look 41 = .ok (.iload_n 1, 1) := by decide +kernel
theorem d_M_look_42 : decode b_M_look 42 = .ok (.iconst 4, 1) := by decide +kernel
theorem d_M_look_43 : decode b_M_look 43 = .ok (.if_icmp .ge 18, 3) := by decide +kernel
theorem d_M_look_46 : decode b_M_look 46 = .ok (.aload_n 0, 1) := by decide +kernel
theorem d_M_look_47 : decode b_M_look 47 = .ok (.iload_n 1, 1) := by decide +kernel
theorem d_M_look_48 : decode b_M_look 48 = .ok (.invokevirtual 108, 3) := by decide +kernel
theorem d_M_look_51 : decode b_M_look 51 = .ok (.ifCond .ne 4, 3) := by decide +kernel
theorem d_M_look_54 : decode b_M_look 54 = .ok (.return_, 1) := by decide +kernel
theorem d_M_look_55 : decode b_M_look 55 = .ok (.iinc 1 1, 3) := by decide +kernel
theorem d_M_look_58 : decode b_M_look 58 = .ok (.goto (-17), 3) := by decide +kernel
theorem d_M_look_61 : decode b_M_look 61 = .ok (.aload_n 0, 1) := by decide +kernel
theorem d_M_look_62 : decode b_M_look 62 = .ok (.aload_n 0, 1) := by decide +kernel
theorem d_M_look_63 : decode b_M_look 63 = .ok (.getfield 54, 3) := by decide +kernel
theorem d_M_look_66 : decode b_M_look 66 = .ok (.putfield 51, 3) := by decide +kernel
theorem d_M_look_69 : decode b_M_look 69 = .ok (.aload_n 0, 1) := by decide +kernel
theorem d_M_look_70 : decode b_M_look 70 = .ok (.iconst 0, 1) := by decide +kernel
theorem d_M_look_71 : decode b_M_look 71 = .ok (.putfield 54, 3) := by decide +kernel
theorem d_M_look_74 : decode b_M_look 74 = .ok (.return_, 1) := by decide +kernel

theorem d_M_asked_0 : decode b_M_asked 0 = .ok (.aload_n 0, 1) := by decide +kernel
theorem d_M_asked_1 : decode b_M_asked 1 = .ok (.getfield 57, 3) := by decide +kernel
theorem d_M_asked_4 : decode b_M_asked 4 = .ok (.ifCond .eq 20, 3) := by decide +kernel
theorem d_M_asked_7 : decode b_M_asked 7 = .ok (.aload_n 0, 1) := by decide +kernel
theorem d_M_asked_8 : decode b_M_asked 8 = .ok (.iconst 4, 1) := by decide +kernel
theorem d_M_asked_9 : decode b_M_asked 9 = .ok (.invokevirtual 104, 3) := by decide +kernel
theorem d_M_asked_12 : decode b_M_asked 12 = .ok (.aload_n 0, 1) := by decide +kernel
theorem d_M_asked_13 : decode b_M_asked 13 = .ok (.getfield 61, 3) := by decide +kernel
theorem d_M_asked_16 : decode b_M_asked 16 = .ok (.if_icmp .lt 8, 3) := by decide +kernel
theorem d_M_asked_19 : decode b_M_asked 19 = .ok (.aload_n 0, 1) := by decide +kernel
theorem d_M_asked_20 : decode b_M_asked 20 = .ok (.iconst 0, 1) := by decide +kernel
theorem d_M_asked_21 : decode b_M_asked 21 = .ok (.putfield 57, 3) := by decide +kernel
theorem d_M_asked_24 : decode b_M_asked 24 = .ok (.aload_n 0, 1) := by decide +kernel
theorem d_M_asked_25 : decode b_M_asked 25 = .ok (.getfield 54, 3) := by decide +kernel
theorem d_M_asked_28 : decode b_M_asked 28 = .ok (.ifCond .ne 10, 3) := by decide +kernel
theorem d_M_asked_31 : decode b_M_asked 31 = .ok (.aload_n 0, 1) := by decide +kernel
theorem d_M_asked_32 : decode b_M_asked 32 = .ok (.getfield 51, 3) := by decide +kernel
theorem d_M_asked_35 : decode b_M_asked 35 = .ok (.goto 24, 3) := by decide +kernel
theorem d_M_asked_38 : decode b_M_asked 38 = .ok (.aload_n 0, 1) := by decide +kernel
theorem d_M_asked_39 : decode b_M_asked 39 = .ok (.getfield 76, 3) := by decide +kernel
theorem d_M_asked_42 : decode b_M_asked 42 = .ok (.iload_n 1, 1) := by decide +kernel
theorem d_M_asked_43 : decode b_M_asked 43 = .ok (.iaload, 1) := by decide +kernel
theorem d_M_asked_44 : decode b_M_asked 44 = .ok (.aload_n 0, 1) := by decide +kernel
theorem d_M_asked_45 : decode b_M_asked 45 = .ok (.getfield 54, 3) := by decide +kernel
theorem d_M_asked_48 : decode b_M_asked 48 = .ok (.if_icmp .lt 10, 3) := by decide +kernel
theorem d_M_asked_51 : decode b_M_asked 51 = .ok (.aload_n 0, 1) := by decide +kernel
theorem d_M_asked_52 : decode b_M_asked 52 = .ok (.getfield 54, 3) := by decide +kernel
theorem d_M_asked_55 : decode b_M_asked 55 = .ok (.goto 4, 3) := by decide +kernel
theorem d_M_asked_58 : decode b_M_asked 58 = .ok (.iconst 0, 1) := by decide +kernel
theorem d_M_asked_59 : decode b_M_asked 59 = .ok (.istore_n 3, 1) := by decide +kernel
theorem d_M_asked_60 : decode b_M_asked 60 = .ok (.aload_n 0, 1) := by decide +kernel
theorem d_M_asked_61 : decode b_M_asked 61 = .ok (.getfield 57, 3) := by decide +kernel
theorem d_M_asked_64 : decode b_M_asked 64 = .ok (.ifCond .ne 17, 3) := by decide +kernel
theorem d_M_asked_67 : decode b_M_asked 67 = .ok (.iload_n 2, 1) := by decide +kernel
theorem d_M_asked_68 : decode b_M_asked 68 = .ok (.aload_n 0, 1) := by decide +kernel
theorem d_M_asked_69 : decode b_M_asked 69 = .ok (.getfield 64, 3) := by decide +kernel
theorem d_M_asked_72 : decode b_M_asked 72 = .ok (.iload_n 1, 1) := by decide +kernel
theorem d_M_asked_73 : decode b_M_asked 73 = .ok (.iaload, 1) := by decide +kernel
theorem d_M_asked_74 : decode b_M_asked 74 = .ok (.if_icmp .lt 7, 3) := by decide +kernel
theorem d_M_asked_77 : decode b_M_asked 77 = .ok (.iload_n 3, 1) := by decide +kernel
theorem d_M_asked_78 : decode b_M_asked 78 = .ok (.ifCond .ne 4, 3) := by decide +kernel
theorem d_M_asked_81 : decode b_M_asked 81 = .ok (.return_, 1) := by decide +kernel
theorem d_M_asked_82 : decode b_M_asked 82 = .ok (.aload_n 0, 1) := by decide +kernel
theorem d_M_asked_83 : decode b_M_asked 83 = .ok (.getfield 64, 3) := by decide +kernel
theorem d_M_asked_86 : decode b_M_asked 86 = .ok (.iload_n 1, 1) := by decide +kernel
theorem d_M_asked_87 : decode b_M_asked 87 = .ok (.iload_n 2, 1) := by decide +kernel
theorem d_M_asked_88 : decode b_M_asked 88 = .ok (.iastore, 1) := by decide +kernel
theorem d_M_asked_89 : decode b_M_asked 89 = .ok (.aload_n 0, 1) := by decide +kernel
theorem d_M_asked_90 : decode b_M_asked 90 = .ok (.getfield 70, 3) := by decide +kernel
theorem d_M_asked_93 : decode b_M_asked 93 = .ok (.iload_n 1, 1) := by decide +kernel
theorem d_M_asked_94 : decode b_M_asked 94 = .ok (.iload_n 3, 1) := by decide +kernel
theorem d_M_asked_95 : decode b_M_asked 95 = .ok (.iastore, 1) := by decide +kernel
theorem d_M_asked_96 : decode b_M_asked 96 = .ok (.aload_n 0, 1) := by decide +kernel
theorem d_M_asked_97 : decode b_M_asked 97 = .ok (.getfield 73, 3) := by decide +kernel
theorem d_M_asked_100 : decode b_M_asked 100 = .ok (.iload_n 1, 1) := by decide +kernel
theorem d_M_asked_101 : decode b_M_asked 101 = .ok (.aload_n 0, 1) := by decide +kernel
theorem d_M_asked_102 : decode b_M_asked 102 = .ok (.iconst 4, 1) := by decide +kernel
theorem d_M_asked_103 : decode b_M_asked 103 = .ok (.invokevirtual 104, 3) := by decide +kernel
theorem d_M_asked_106 : decode b_M_asked 106 = .ok (.iastore, 1) := by decide +kernel
theorem d_M_asked_107 : decode b_M_asked 107 = .ok (.aload_n 0, 1) := by decide +kernel
theorem d_M_asked_108 : decode b_M_asked 108 = .ok (.getfield 67, 3) := by decide +kernel
theorem d_M_asked_111 : decode b_M_asked 111 = .ok (.iload_n 1, 1) := by decide +kernel
theorem d_M_asked_112 : decode b_M_asked 112 = .ok (.iconst 1, 1) := by decide +kernel
theorem d_M_asked_113 : decode b_M_asked 113 = .ok (.bastore, 1) := by decide +kernel
theorem d_M_asked_114 : decode b_M_asked 114 = .ok (.aload_n 0, 1) := by decide +kernel
theorem d_M_asked_115 : decode b_M_asked 115 = .ok (.iconst 2, 1) := by decide +kernel
theorem d_M_asked_116 : decode b_M_asked 116 = .ok (.iload_n 1, 1) := by decide +kernel
theorem d_M_asked_117 : decode b_M_asked 117 = .ok (.iload_n 3, 1) := by decide +kernel
theorem d_M_asked_118 : decode b_M_asked 118 = .ok (.iload_n 2, 1) := by decide +kernel
theorem d_M_asked_119 : decode b_M_asked 119 = .ok (.invokevirtual 112, 3) := by decide +kernel
theorem d_M_asked_122 : decode b_M_asked 122 = .ok (.return_, 1) := by decide +kernel

theorem d_M_comes_0 : decode b_M_comes 0 = .ok (.iload_n 1, 1) := by decide +kernel
theorem d_M_comes_1 : decode b_M_comes 1 = .ok (.ifCond .ne 25, 3) := by decide +kernel
theorem d_M_comes_4 : decode b_M_comes 4 = .ok (.aload_n 0, 1) := by decide +kernel
theorem d_M_comes_5 : decode b_M_comes 5 = .ok (.getfield 32, 3) := by decide +kernel
theorem d_M_comes_8 : decode b_M_comes 8 = .ok (.iload_n 2, 1) := by decide +kernel
theorem d_M_comes_9 : decode b_M_comes 9 = .ok (.iaload, 1) := by decide +kernel
theorem d_M_comes_10 : decode b_M_comes 10 = .ok (.iload_n 3, 1) := by decide +kernel
theorem d_M_comes_11 : decode b_M_comes 11 = .ok (.iconst 1, 1) := by decide +kernel
theorem d_M_comes_12 : decode b_M_comes 12 = .ok (.isub, 1) := by decide +kernel
theorem d_M_comes_13 : decode b_M_comes 13 = .ok (.if_icmp .ne 109, 3) := by decide +kernel
theorem d_M_comes_16 : decode b_M_comes 16 = .ok (.aload_n 0, 1) := by decide +kernel
theorem d_M_comes_17 : decode b_M_comes 17 = .ok (.getfield 32, 3) := by decide +kernel
theorem d_M_comes_20 : decode b_M_comes 20 = .ok (.iload_n 2, 1) := by decide +kernel
theorem d_M_comes_21 : decode b_M_comes 21 = .ok (.iload_n 3, 1) := by decide +kernel
theorem d_M_comes_22 : decode b_M_comes 22 = .ok (.iastore, 1) := by decide +kernel
theorem d_M_comes_23 : decode b_M_comes 23 = .ok (.goto 99, 3) := by decide +kernel
theorem d_M_comes_26 : decode b_M_comes 26 = .ok (.iload_n 1, 1) := by decide +kernel
theorem d_M_comes_27 : decode b_M_comes 27 = .ok (.iconst 2, 1) := by decide +kernel
theorem d_M_comes_28 : decode b_M_comes 28 = .ok (.if_icmp .ne 33, 3) := by decide +kernel
theorem d_M_comes_31 : decode b_M_comes 31 = .ok (.iload 4, 2) := by decide +kernel
theorem d_M_comes_33 : decode b_M_comes 33 = .ok (.aload_n 0, 1) := by decide +kernel
theorem d_M_comes_34 : decode b_M_comes 34 = .ok (.getfield 38, 3) := by decide +kernel
theorem d_M_comes_37 : decode b_M_comes 37 = .ok (.iload_n 2, 1) := by decide +kernel
theorem d_M_comes_38 : decode b_M_comes 38 = .ok (.iaload, 1) := by decide +kernel
theorem d_M_comes_39 : decode b_M_comes 39 = .ok (.if_icmp .ne 83, 3) := by decide +kernel
theorem d_M_comes_42 : decode b_M_comes 42 = .ok (.aload_n 0, 1) := by decide +kernel
theorem d_M_comes_43 : decode b_M_comes 43 = .ok (.getfield 41, 3) := by decide +kernel
theorem d_M_comes_46 : decode b_M_comes 46 = .ok (.iload_n 2, 1) := by decide +kernel
theorem d_M_comes_47 : decode b_M_comes 47 = .ok (.baload, 1) := by decide +kernel
theorem d_M_comes_48 : decode b_M_comes 48 = .ok (.ifCond .ne 74, 3) := by decide +kernel
theorem d_M_comes_51 : decode b_M_comes 51 = .ok (.aload_n 0, 1) := by decide +kernel
theorem d_M_comes_52 : decode b_M_comes 52 = .ok (.getfield 48, 3) := by decide +kernel
theorem d_M_comes_55 : decode b_M_comes 55 = .ok (.iload_n 2, 1) := by decide +kernel
theorem d_M_comes_56 : decode b_M_comes 56 = .ok (.iload_n 3, 1) := by decide +kernel
theorem d_M_comes_57 : decode b_M_comes 57 = .ok (.iastore, 1) := by decide +kernel
theorem d_M_comes_58 : decode b_M_comes 58 = .ok (.goto 64, 3) := by decide +kernel
theorem d_M_comes_61 : decode b_M_comes 61 = .ok (.iload_n 1, 1) := by decide +kernel
theorem d_M_comes_62 : decode b_M_comes 62 = .ok (.iconst 1, 1) := by decide +kernel
theorem d_M_comes_63 : decode b_M_comes 63 = .ok (.if_icmp .ne 10, 3) := by decide +kernel
theorem d_M_comes_66 : decode b_M_comes 66 = .ok (.aload_n 0, 1) := by decide +kernel
theorem d_M_comes_67 : decode b_M_comes 67 = .ok (.iload_n 2, 1) := by decide +kernel
theorem d_M_comes_68 : decode b_M_comes 68 = .ok (.iload 4, 2) := by decide +kernel
theorem d_M_comes_70 : decode b_M_comes 70 = .ok (.invokevirtual 116, 3) := by decide +kernel
theorem d_M_comes_73 : decode b_M_comes 73 = .ok (.iload_n 1, 1) := by decide +kernel
theorem d_M_comes_74 : decode b_M_comes 74 = .ok (.iconst 3, 1) := by decide +kernel
theorem d_M_comes_75 : decode b_M_comes 75 = .ok (.if_icmp .ne 20, 3) := by decide +kernel
theorem d_M_comes_78 : decode b_M_comes 78 = .ok (.iload_n 3, 1) := by decide +kernel
theorem d_M_comes_79 : decode b_M_comes 79 = .ok (.aload_n 0, 1) := by decide +kernel
theorem d_M_comes_80 : decode b_M_comes 80 = .ok (.getfield 76, 3) := by decide +kernel
theorem d_M_comes_83 : decode b_M_comes 83 = .ok (.iload_n 2, 1) := by decide +kernel
theorem d_M_comes_84 : decode b_M_comes 84 = .ok (.iaload, 1) := by decide +kernel
theorem d_M_comes_85 : decode b_M_comes 85 = .ok (.if_icmp .le 10, 3) := by decide +kernel
theorem d_M_comes_88 : decode b_M_comes 88 = .ok (.aload_n 0, 1) := by decide +kernel
theorem d_M_comes_89 : decode b_M_comes 89 = .ok (.getfield 76, 3) := by decide +kernel
theorem d_M_comes_92 : decode b_M_comes 92 = .ok (.iload_n 2, 1) := by decide +kernel
theorem d_M_comes_93 : decode b_M_comes 93 = .ok (.iload_n 3, 1) := by decide +kernel
theorem d_M_comes_94 : decode b_M_comes 94 = .ok (.iastore, 1) := by decide +kernel
theorem d_M_comes_95 : decode b_M_comes 95 = .ok (.iload_n 1, 1) := by decide +kernel
theorem d_M_comes_96 : decode b_M_comes 96 = .ok (.iconst 4, 1) := by decide +kernel
theorem d_M_comes_97 : decode b_M_comes 97 = .ok (.if_icmp .ne 21, 3) := by decide +kernel
theorem d_M_comes_100 : decode b_M_comes 100 = .ok (.iload 4, 2) := by decide +kernel
theorem d_M_comes_102 : decode b_M_comes 102 = .ok (.aload_n 0, 1) := by decide +kernel
theorem d_M_comes_103 : decode b_M_comes 103 = .ok (.getfield 64, 3) := by decide +kernel
theorem d_M_comes_106 : decode b_M_comes 106 = .ok (.iload_n 2, 1) := by decide +kernel
theorem d_M_comes_107 : decode b_M_comes 107 = .ok (.iaload, 1) := by decide +kernel
theorem d_M_comes_108 : decode b_M_comes 108 = .ok (.if_icmp .ne 10, 3) := by decide +kernel
theorem d_M_comes_111 : decode b_M_comes 111 = .ok (.aload_n 0, 1) := by decide +kernel
theorem d_M_comes_112 : decode b_M_comes 112 = .ok (.getfield 67, 3) := by decide +kernel
theorem d_M_comes_115 : decode b_M_comes 115 = .ok (.iload_n 2, 1) := by decide +kernel
theorem d_M_comes_116 : decode b_M_comes 116 = .ok (.iconst 0, 1) := by decide +kernel
theorem d_M_comes_117 : decode b_M_comes 117 = .ok (.bastore, 1) := by decide +kernel
theorem d_M_comes_118 : decode b_M_comes 118 = .ok (.aload_n 0, 1) := by decide +kernel
theorem d_M_comes_119 : decode b_M_comes 119 = .ok (.invokevirtual 120, 3) := by decide +kernel
theorem d_M_comes_122 : decode b_M_comes 122 = .ok (.return_, 1) := by decide +kernel

theorem d_M_validLease_0 : decode b_M_validLease 0 = .ok (.aload_n 0, 1) := by decide +kernel
theorem d_M_validLease_1 : decode b_M_validLease 1 = .ok (.getfield 48, 3) := by decide +kernel
theorem d_M_validLease_4 : decode b_M_validLease 4 = .ok (.iload_n 1, 1) := by decide +kernel
theorem d_M_validLease_5 : decode b_M_validLease 5 = .ok (.iaload, 1) := by decide +kernel
theorem d_M_validLease_6 : decode b_M_validLease 6 = .ok (.istore_n 2, 1) := by decide +kernel
theorem d_M_validLease_7 : decode b_M_validLease 7 = .ok (.iload_n 2, 1) := by decide +kernel
theorem d_M_validLease_8 : decode b_M_validLease 8 = .ok (.ifCond .le 44, 3) := by decide +kernel
theorem d_M_validLease_11 : decode b_M_validLease 11 = .ok (.aload_n 0, 1) := by decide +kernel
theorem d_M_validLease_12 : decode b_M_validLease 12 = .ok (.iload_n 1, 1) := by decide +kernel
theorem d_M_validLease_13 : decode b_M_validLease 13 = .ok (.invokevirtual 104, 3) := by decide +kernel
theorem d_M_validLease_16 : decode b_M_validLease 16 = .ok (.aload_n 0, 1) := by decide +kernel
theorem d_M_validLease_17 : decode b_M_validLease 17 = .ok (.getfield 45, 3) := by decide +kernel
theorem d_M_validLease_20 : decode b_M_validLease 20 = .ok (.iload_n 1, 1) := by decide +kernel
theorem d_M_validLease_21 : decode b_M_validLease 21 = .ok (.iaload, 1) := by decide +kernel
theorem d_M_validLease_22 : decode b_M_validLease 22 = .ok (.bipush 60, 2) := by decide +kernel
theorem d_M_validLease_24 : decode b_M_validLease 24 = .ok (.iadd, 1) := by decide +kernel
theorem d_M_validLease_25 : decode b_M_validLease 25 = .ok (.if_icmp .ge 27, 3) := by decide +kernel
theorem d_M_validLease_28 : decode b_M_validLease 28 = .ok (.aload_n 0, 1) := by decide +kernel
theorem d_M_validLease_29 : decode b_M_validLease 29 = .ok (.getfield 32, 3) := by decide +kernel
theorem d_M_validLease_32 : decode b_M_validLease 32 = .ok (.iload_n 1, 1) := by decide +kernel
theorem d_M_validLease_33 : decode b_M_validLease 33 = .ok (.iaload, 1) := by decide +kernel
theorem d_M_validLease_34 : decode b_M_validLease 34 = .ok (.iload_n 2, 1) := by decide +kernel
theorem d_M_validLease_35 : decode b_M_validLease 35 = .ok (.if_icmp .lt 17, 3) := by decide +kernel
theorem d_M_validLease_38 : decode b_M_validLease 38 = .ok (.aload_n 0, 1) := by decide +kernel
theorem d_M_validLease_39 : decode b_M_validLease 39 = .ok (.getfield 35, 3) := by decide +kernel
theorem d_M_validLease_42 : decode b_M_validLease 42 = .ok (.iload_n 1, 1) := by decide +kernel
theorem d_M_validLease_43 : decode b_M_validLease 43 = .ok (.iaload, 1) := by decide +kernel
theorem d_M_validLease_44 : decode b_M_validLease 44 = .ok (.iload_n 2, 1) := by decide +kernel
theorem d_M_validLease_45 : decode b_M_validLease 45 = .ok (.if_icmp .gt 7, 3) := by decide +kernel
theorem d_M_validLease_48 : decode b_M_validLease 48 = .ok (.iconst 1, 1) := by decide +kernel
theorem d_M_validLease_49 : decode b_M_validLease 49 = .ok (.goto 4, 3) := by decide +kernel
theorem d_M_validLease_52 : decode b_M_validLease 52 = .ok (.iconst 0, 1) := by decide +kernel
theorem d_M_validLease_53 : decode b_M_validLease 53 = .ok (.istore_n 3, 1) := by decide +kernel
theorem d_M_validLease_54 : decode b_M_validLease 54 = .ok (.iload_n 3, 1) := by decide +kernel
theorem d_M_validLease_55 : decode b_M_validLease 55 = .ok (.ifCond .eq 7, 3) := by decide +kernel
theorem d_M_validLease_58 : decode b_M_validLease 58 = .ok (.iload_n 2, 1) := by decide +kernel
theorem d_M_validLease_59 : decode b_M_validLease 59 = .ok (.goto 4, 3) := by decide +kernel
theorem d_M_validLease_62 : decode b_M_validLease 62 = .ok (.iconst 0, 1) := by decide +kernel
theorem d_M_validLease_63 : decode b_M_validLease 63 = .ok (.ireturn, 1) := by decide +kernel

theorem d_M_not_0 : decode b_M_not 0 = .ok (.iload_n 0, 1) := by decide +kernel
theorem d_M_not_1 : decode b_M_not 1 = .ok (.ifCond .lt 8, 3) := by decide +kernel
theorem d_M_not_4 : decode b_M_not 4 = .ok (.iload_n 0, 1) := by decide +kernel
theorem d_M_not_5 : decode b_M_not 5 = .ok (.iload_n 1, 1) := by decide +kernel
theorem d_M_not_6 : decode b_M_not 6 = .ok (.if_icmp .lt 7, 3) := by decide +kernel
theorem d_M_not_9 : decode b_M_not 9 = .ok (.iconst 1, 1) := by decide +kernel
theorem d_M_not_10 : decode b_M_not 10 = .ok (.goto 4, 3) := by decide +kernel
theorem d_M_not_13 : decode b_M_not 13 = .ok (.iconst 0, 1) := by decide +kernel
theorem d_M_not_14 : decode b_M_not 14 = .ok (.ireturn, 1) := by decide +kernel

theorem d_M_thrown_0 : decode b_M_thrown 0 = .ok (.aload_n 0, 1) := by decide +kernel
theorem d_M_thrown_1 : decode b_M_thrown 1 = .ok (.getfield 7, 3) := by decide +kernel
theorem d_M_thrown_4 : decode b_M_thrown 4 = .ok (.ireturn, 1) := by decide +kernel

set_option maxHeartbeats 4000000 in
set_option maxRecDepth 100000 in
theorem c_M_clock (l : Launch) (Z : qZ) (hZ : qok (pX Z)) (V : qV) (Y : qY) (j : Nat) (hj : j < 5) : CT l y_M_clock { frames := 1, cells := 0, slots := 0, locals := 40 } (pX Z) qN [.ref (al Z 20 0), .int (nI j)] V Y (.inl (some (.int ((V 24 0 j) / 100)))) V Y := by
  refine CT.of (cc := b_M_clock) (maxL := 2) (ret := (some .int)) hZ (by decide) w_788 (Nat.le_of_ble_eq_true rfl) ?_
  intro p e s m below meth c C hr hex hlt
  refine gq_aload_n C d_M_clock_0 rfl ?_
  refine gq_get C (g := 20) (j := 0) (ci := 8) (k := 5) (v := .ref (al Z 24 0)) (qm (by decide) (by decide)) rfl rfl in_M (by decide) w_666 rfl d_M_clock_1 ?_
  refine gq_iload_n C d_M_clock_4 rfl ?_
  refine gq_iald C (g := 24) (j := 0) (a := j) (t0 := 0) (qm (by decide) (by decide)) rfl rfl rfl hj (by decide) d_M_clock_5 ?_
  refine gq_bipush C (v := 100) d_M_clock_6 (by decide) ?_
  refine gq_idiv C d_M_clock_8 (by decide) ?_
  exact gq_iret C hr (by decide) (by decide) d_M_clock_9

set_option maxHeartbeats 4000000 in
set_option maxRecDepth 100000 in
theorem c_M_not (l : Launch) (Z : qZ) (hZ : qok (pX Z)) (V : qV) (Y : qY) (a b : Int32) : CT l y_M_not { frames := 1, cells := 0, slots := 0, locals := 40 } (pX Z) qN [.int a, .int b] V Y (.inl (some (.int (g_not a b)))) V Y := by
  refine CT.of (cc := b_M_not) (maxL := 2) (ret := (some .boolean)) hZ (by decide) w_763 (Nat.le_of_ble_eq_true rfl) ?_
  intro p e s m below meth c C hr hex hlt
  refine gq_iload_n C d_M_not_0 rfl ?_
  refine gq_if_lt C (tgt := 9) d_M_not_1 rfl (fun hb1 => ?_) (fun hb1 => ?_)
  · skip
    refine gq_iconst C (v := 1) d_M_not_9 (by decide) ?_
    refine gq_goto C (tgt := 14) d_M_not_10 rfl ?_
    exact gq_zretE C hr (by decide) (by unfold g_not; simp [*]) rfl rfl (by decide) (by decide) d_M_not_14
  · skip
    refine gq_iload_n C d_M_not_4 rfl ?_
    refine gq_iload_n C d_M_not_5 rfl ?_
    refine gq_icmp_lt C (tgt := 13) d_M_not_6 rfl (fun hb6 => ?_) (fun hb6 => ?_)
    · skip
      refine gq_iconst C (v := 0) d_M_not_13 (by decide) ?_
      exact gq_zretE C hr (by decide) (by unfold g_not; simp [*]) rfl rfl (by decide) (by decide) d_M_not_14
    · skip
      refine gq_iconst C (v := 1) d_M_not_9 (by decide) ?_
      refine gq_goto C (tgt := 14) d_M_not_10 rfl ?_
      exact gq_zretE C hr (by decide) (by unfold g_not; simp [*]) rfl rfl (by decide) (by decide) d_M_not_14

set_option maxHeartbeats 4000000 in
set_option maxRecDepth 100000 in
theorem c_M_thrown (l : Launch) (Z : qZ) (hZ : qok (pX Z)) (V : qV) (Y : qY)  : CT l y_M_thrown { frames := 1, cells := 0, slots := 0, locals := 40 } (pX Z) qN [.ref (al Z 20 0)] V Y (.inl (some (.int (V 20 0 0)))) V Y := by
  refine CT.of (cc := b_M_thrown) (maxL := 1) (ret := (some .int)) hZ (by decide) w_756 (Nat.le_of_ble_eq_true rfl) ?_
  intro p e s m below meth c C hr hex hlt
  refine gq_aload_n C d_M_thrown_0 rfl ?_
  refine gq_get C (g := 20) (j := 0) (ci := 8) (k := 0) (v := .int (V 20 0 0)) (qm (by decide) (by decide)) rfl rfl in_M (by decide) w_661 rfl d_M_thrown_1 ?_
  exact gq_iret C hr (by decide) (by decide) d_M_thrown_4

set_option maxHeartbeats 4000000 in
set_option maxRecDepth 100000 in
theorem c_M_post_full (l : Launch) (Z : qZ) (hZ : qok (pX Z)) (V : qV) (Y : qY) (h : V 20 0 22 = 40) (k t b a : Int32) : CT l y_M_post { frames := 1, cells := 0, slots := 0, locals := 40 } (pX Z) (qA (pX Z)) [.ref (al Z 20 0), .int k, .int t, .int b, .int a] V Y (.inl none) V Y := by
  refine CT.of (cc := b_M_post) (maxL := 5) (ret := none) hZ (by decide) w_776 (Nat.le_of_ble_eq_true rfl) ?_
  intro p e s m below meth c C hr hex hlt
  refine gq_aload_n C d_M_post_0 rfl ?_
  refine gq_get C (g := 20) (j := 0) (ci := 8) (k := 22) (v := .int (V 20 0 22)) (qm (by decide) (by decide)) rfl rfl in_M (by decide) w_683 rfl d_M_post_1 ?_
  refine gq_bipush C (v := 40) d_M_post_4 (by decide) ?_
  refine gq_icmp_ne C (tgt := 10) d_M_post_6 rfl (fun hb => by first | contradiction | contradiction) (fun hb6 => ?_)
  exact gq_vret C hr (by decide) (by decide) d_M_post_9

set_option maxHeartbeats 4000000 in
set_option maxRecDepth 100000 in
theorem c_M_post (l : Launch) (Z : qZ) (hZ : qok (pX Z)) (V : qV) (Y : qY) (n : Nat) (hn : n < 40) (h22 : V 20 0 22 = nI n) (k t b a : Int32) : CT l y_M_post { frames := 1, cells := 0, slots := 0, locals := 40 } (pX Z) (qA (pX Z)) [.ref (al Z 20 0), .int k, .int t, .int b, .int a] V Y (.inl none) (g_post V n k t b a) Y := by
  refine CT.of (cc := b_M_post) (maxL := 5) (ret := none) hZ (by decide) w_776 (Nat.le_of_ble_eq_true rfl) ?_
  intro p e s m below meth c C hr hex hlt
  refine gq_aload_n C d_M_post_0 rfl ?_
  refine gq_get C (g := 20) (j := 0) (ci := 8) (k := 22) (v := .int (V 20 0 22)) (qm (by decide) (by decide)) rfl rfl in_M (by decide) w_683 rfl d_M_post_1 ?_
  refine gq_bipush C (v := 40) d_M_post_4 (by decide) ?_
  refine gq_icmp_ne C (tgt := 10) d_M_post_6 rfl (fun hb6 => ?_) (fun hb => by exact absurd ((nI_eq (a := n) (b := 40) (by omega) (by omega)).mp (h22.symm.trans hb)) (by omega))
  refine gq_aload_n C d_M_post_10 rfl ?_
  refine gq_get C (g := 20) (j := 0) (ci := 8) (k := 23) (v := .ref (al Z 37 0)) (qm (by decide) (by decide)) rfl rfl in_M (by decide) w_684 rfl d_M_post_11 ?_
  refine gq_iconst C (v := 4) d_M_post_14 (by decide) ?_
  refine gq_aload_n C d_M_post_15 rfl ?_
  refine gq_get C (g := 20) (j := 0) (ci := 8) (k := 22) (v := .int (V 20 0 22)) (qm (by decide) (by decide)) rfl rfl in_M (by decide) w_683 rfl d_M_post_16 ?_
  refine gq_imul C d_M_post_19 ?_
  refine gq_iload_n C d_M_post_20 rfl ?_
  refine gq_iast C (fun _ h => h) (g := 37) (j := 0) (a := (4 * n)) (t0 := 0) (qm (by decide) (by decide)) (fun _ => rfl) rfl (by rw [h22, show (4 : Int32) = nI 4 from rfl, pk_mul]) (by omega) (by decide) d_M_post_21 ?_
  refine gq_aload_n C d_M_post_22 rfl ?_
  refine gq_get C (g := 20) (j := 0) (ci := 8) (k := 23) (v := .ref (al Z 37 0)) (qm (by decide) (by decide)) rfl rfl in_M (by decide) w_684 rfl d_M_post_23 ?_
  refine gq_iconst C (v := 4) d_M_post_26 (by decide) ?_
  refine gq_aload_n C d_M_post_27 rfl ?_
  refine gq_get C (g := 20) (j := 0) (ci := 8) (k := 22) (v := .int (V 20 0 22)) (qm (by decide) (by decide)) rfl rfl in_M (by decide) w_683 rfl d_M_post_28 ?_
  refine gq_imul C d_M_post_31 ?_
  refine gq_iconst C (v := 1) d_M_post_32 (by decide) ?_
  refine gq_iadd C d_M_post_33 ?_
  refine gq_iload_n C d_M_post_34 rfl ?_
  refine gq_iast C (fun _ h => h) (g := 37) (j := 0) (a := (4 * n + 1)) (t0 := 0) (qm (by decide) (by decide)) (fun _ => rfl) rfl (by rw [h22, show (4 : Int32) = nI 4 from rfl, pk_mul]; exact nI_add _ _) (by omega) (by decide) d_M_post_35 ?_
  refine gq_aload_n C d_M_post_36 rfl ?_
  refine gq_get C (g := 20) (j := 0) (ci := 8) (k := 23) (v := .ref (al Z 37 0)) (qm (by decide) (by decide)) rfl rfl in_M (by decide) w_684 rfl d_M_post_37 ?_
  refine gq_iconst C (v := 4) d_M_post_40 (by decide) ?_
  refine gq_aload_n C d_M_post_41 rfl ?_
  refine gq_get C (g := 20) (j := 0) (ci := 8) (k := 22) (v := .int (V 20 0 22)) (qm (by decide) (by decide)) rfl rfl in_M (by decide) w_683 rfl d_M_post_42 ?_
  refine gq_imul C d_M_post_45 ?_
  refine gq_iconst C (v := 2) d_M_post_46 (by decide) ?_
  refine gq_iadd C d_M_post_47 ?_
  refine gq_iload_n C d_M_post_48 rfl ?_
  refine gq_iast C (fun _ h => h) (g := 37) (j := 0) (a := (4 * n + 2)) (t0 := 0) (qm (by decide) (by decide)) (fun _ => rfl) rfl (by rw [h22, show (4 : Int32) = nI 4 from rfl, pk_mul]; exact nI_add _ _) (by omega) (by decide) d_M_post_49 ?_
  refine gq_aload_n C d_M_post_50 rfl ?_
  refine gq_get C (g := 20) (j := 0) (ci := 8) (k := 23) (v := .ref (al Z 37 0)) (qm (by decide) (by decide)) rfl rfl in_M (by decide) w_684 rfl d_M_post_51 ?_
  refine gq_iconst C (v := 4) d_M_post_54 (by decide) ?_
  refine gq_aload_n C d_M_post_55 rfl ?_
  refine gq_get C (g := 20) (j := 0) (ci := 8) (k := 22) (v := .int (V 20 0 22)) (qm (by decide) (by decide)) rfl rfl in_M (by decide) w_683 rfl d_M_post_56 ?_
  refine gq_imul C d_M_post_59 ?_
  refine gq_iconst C (v := 3) d_M_post_60 (by decide) ?_
  refine gq_iadd C d_M_post_61 ?_
  refine gq_iload C d_M_post_62 rfl ?_
  refine gq_iast C (fun _ h => h) (g := 37) (j := 0) (a := (4 * n + 3)) (t0 := 0) (qm (by decide) (by decide)) (fun _ => rfl) rfl (by rw [h22, show (4 : Int32) = nI 4 from rfl, pk_mul]; exact nI_add _ _) (by omega) (by decide) d_M_post_64 ?_
  refine gq_aload_n C d_M_post_65 rfl ?_
  refine gq_dup C d_M_post_66 rfl ?_
  refine gq_get C (g := 20) (j := 0) (ci := 8) (k := 22) (v := .int (V 20 0 22)) (qm (by decide) (by decide)) rfl rfl in_M (by decide) w_683 rfl d_M_post_67 ?_
  refine gq_iconst C (v := 1) d_M_post_70 (by decide) ?_
  refine gq_iadd C d_M_post_71 ?_
  refine gq_put C (fun _ h => h) (g := 20) (j := 0) (ci := 8) (k := 22) ft_M k_M n_M (qm (by decide) (by decide)) rfl rfl in_M (by decide) w_683 rfl (k_M 22 (by decide)) rfl rfl (Nat.le_of_ble_eq_true rfl) rfl d_M_post_72 ?_
  exact gq_vretE C hr (by unfold g_post; rw [h22, nI_succ]) rfl (by decide) (by decide) d_M_post_75

theorem g_put_cnt {V : qV} (k t b a : Int32) (h : ∃ n, n ≤ 40 ∧ V 20 0 22 = nI n) : ∃ n, n ≤ 40 ∧ g_put V k t b a 20 0 22 = nI n := by
  obtain ⟨n, hn, h4⟩ := h
  by_cases hl : n < 40
  · refine ⟨n + 1, hl, ?_⟩
    unfold g_put g_post
    rw [if_neg (show ¬ V 20 0 22 = (40 : Int32) from fun q => absurd ((nI_eq (a := n) (b := 40) (by omega) (by omega)).mp (h4.symm.trans q)) (by omega)), h4, nI_clamp (by omega)]
    simp [qv_at]
  · refine ⟨n, hn, ?_⟩
    unfold g_put
    rw [if_pos (show V 20 0 22 = (40 : Int32) by rw [h4, show n = 40 by omega]; rfl)]
    exact h4
theorem c_M_put (l : Launch) (Z : qZ) (hZ : qok (pX Z)) (V : qV) (Y : qY) (h : ∃ n, n ≤ 40 ∧ V 20 0 22 = nI n) (k t b a : Int32) : CT l y_M_post { frames := 1, cells := 0, slots := 0, locals := 40 } (pX Z) (qA (pX Z)) [.ref (al Z 20 0), .int k, .int t, .int b, .int a] V Y (.inl none) (g_put V k t b a) Y := by
  obtain ⟨n, hn, h4⟩ := h
  by_cases hl : n < 40
  · have e : g_put V k t b a = g_post V n k t b a := by
      unfold g_put
      rw [if_neg (show ¬ V 20 0 22 = (40 : Int32) from fun q => absurd ((nI_eq (a := n) (b := 40) (by omega) (by omega)).mp (h4.symm.trans q)) (by omega)), h4, nI_clamp (by omega)]
    rw [e]
    exact c_M_post l Z hZ V Y n hl h4 k t b a
  · have hf : V 20 0 22 = 40 := by rw [h4, show n = 40 by omega]; rfl
    have e : g_put V k t b a = V := by
      unfold g_put
      rw [if_pos hf]
    rw [e]
    exact c_M_post_full l Z hZ V Y hf k t b a

set_option maxHeartbeats 4000000 in
set_option maxRecDepth 100000 in
theorem c_M_free (l : Launch) (Z : qZ) (hZ : qok (pX Z)) (V : qV) (Y : qY) (t : Nat) (ht : t < 4) : CT l y_M_free { frames := 2, cells := 0, slots := 0, locals := 61 } (pX Z) qN [.ref (al Z 20 0), .int (nI t)] V Y (.inl (some (.int (g_free V t)))) V Y := by
  refine CT.of (cc := b_M_free) (maxL := 2) (ret := (some .boolean)) hZ (by decide) w_792 (Nat.le_of_ble_eq_true rfl) ?_
  intro p e s m below meth c C hr hex hlt
  refine gq_aload_n C d_M_free_0 rfl ?_
  refine gq_get C (g := 20) (j := 0) (ci := 8) (k := 21) (v := .ref (al Z 36 0)) (qm (by decide) (by decide)) rfl rfl in_M (by decide) w_682 rfl d_M_free_1 ?_
  refine gq_iload_n C d_M_free_4 rfl ?_
  refine gq_iald C (g := 36) (j := 0) (a := t) (t0 := 0) (qm (by decide) (by decide)) rfl rfl rfl ht (by decide) d_M_free_5 ?_
  refine gq_aload_n C d_M_free_6 rfl ?_
  refine gq_get C (g := 20) (j := 0) (ci := 8) (k := 14) (v := .int (V 20 0 14)) (qm (by decide) (by decide)) rfl rfl in_M (by decide) w_675 rfl d_M_free_7 ?_
  refine gq_icmp_ge C (tgt := 52) d_M_free_10 rfl (fun hb10 => ?_) (fun hb10 => ?_)
  · skip
    refine gq_iconst C (v := 1) d_M_free_52 (by decide) ?_
    refine gq_goto C (tgt := 57) d_M_free_53 rfl ?_
    exact gq_zretE C hr (by decide) (by unfold g_free; simp [*]) rfl rfl (by decide) (by decide) d_M_free_57
  · skip
    refine gq_aload_n C d_M_free_13 rfl ?_
    refine gq_get C (g := 20) (j := 0) (ci := 8) (k := 18) (v := .ref (al Z 33 0)) (qm (by decide) (by decide)) rfl rfl in_M (by decide) w_679 rfl d_M_free_14 ?_
    refine gq_iload_n C d_M_free_17 rfl ?_
    refine gq_zald C (g := 33) (j := 0) (a := t) (t0 := 2) (qm (by decide) (by decide)) rfl rfl rfl ht (by decide) d_M_free_18 ?_
    refine gq_if_eq C (tgt := 52) d_M_free_19 rfl (fun hb19 => ?_) (fun hb19 => ?_)
    · skip
      refine gq_iconst C (v := 1) d_M_free_52 (by decide) ?_
      refine gq_goto C (tgt := 57) d_M_free_53 rfl ?_
      exact gq_zretE C hr (by decide) (by unfold g_free; simp [*]) rfl rfl (by decide) (by decide) d_M_free_57
    · skip
      refine gq_aload_n C d_M_free_22 rfl ?_
      refine gq_get C (g := 20) (j := 0) (ci := 8) (k := 19) (v := .ref (al Z 34 0)) (qm (by decide) (by decide)) rfl rfl in_M (by decide) w_680 rfl d_M_free_23 ?_
      refine gq_iload_n C d_M_free_26 rfl ?_
      refine gq_iald C (g := 34) (j := 0) (a := t) (t0 := 0) (qm (by decide) (by decide)) rfl rfl rfl ht (by decide) d_M_free_27 ?_
      refine gq_aload_n C d_M_free_28 rfl ?_
      refine gq_get C (g := 20) (j := 0) (ci := 8) (k := 14) (v := .int (V 20 0 14)) (qm (by decide) (by decide)) rfl rfl in_M (by decide) w_675 rfl d_M_free_29 ?_
      refine gq_icmp_eq C (tgt := 52) d_M_free_32 rfl (fun hb32 => ?_) (fun hb32 => ?_)
      · skip
        refine gq_iconst C (v := 1) d_M_free_52 (by decide) ?_
        refine gq_goto C (tgt := 57) d_M_free_53 rfl ?_
        exact gq_zretE C hr (by decide) (by unfold g_free; simp [*]) rfl rfl (by decide) (by decide) d_M_free_57
      · skip
        refine gq_aload_n C d_M_free_35 rfl ?_
        refine gq_iconst C (v := 4) d_M_free_36 (by decide) ?_
        refine gq_callV C (st := []) (fun _ h => h) (c_M_clock l Z hZ _ _ 4 (by decide)) (qm (by decide) (by decide)) rfl rfl w_785 w_787 ws_M_clock w_788 w_9 ⟨by decide, by decide, (by decide +kernel : (parseMethodDescriptor y_M_clock.desc).map (fun d => d.parameters.length) = some 1)⟩ ⟨by decide, by decide⟩ ⟨by decide, by decide⟩ rfl (Nat.le_of_ble_eq_true rfl) d_M_free_37 ?_
        refine gq_aload_n C d_M_free_40 rfl ?_
        refine gq_get C (g := 20) (j := 0) (ci := 8) (k := 20) (v := .ref (al Z 35 0)) (qm (by decide) (by decide)) rfl rfl in_M (by decide) w_681 rfl d_M_free_41 ?_
        refine gq_iload_n C d_M_free_44 rfl ?_
        refine gq_iald C (g := 35) (j := 0) (a := t) (t0 := 0) (qm (by decide) (by decide)) rfl rfl rfl ht (by decide) d_M_free_45 ?_
        refine gq_bipush C (v := 63) d_M_free_46 (by decide) ?_
        refine gq_iadd C d_M_free_48 ?_
        refine gq_icmp_lt C (tgt := 56) d_M_free_49 rfl (fun hb49 => ?_) (fun hb49 => ?_)
        · skip
          refine gq_iconst C (v := 0) d_M_free_56 (by decide) ?_
          exact gq_zretE C hr (by decide) (by unfold g_free; simp [*]) rfl rfl (by decide) (by decide) d_M_free_57
        · skip
          refine gq_iconst C (v := 1) d_M_free_52 (by decide) ?_
          refine gq_goto C (tgt := 57) d_M_free_53 rfl ?_
          exact gq_zretE C hr (by decide) (by unfold g_free; simp [*]) rfl rfl (by decide) (by decide) d_M_free_57

set_option maxHeartbeats 4000000 in
set_option maxRecDepth 100000 in
theorem c_M_look (l : Launch) (Z : qZ) (hZ : qok (pX Z)) (V : qV) (Y : qY)  : CT l y_M_look { frames := 3, cells := 0, slots := 0, locals := 82 } (pX Z) (qA (pX Z)) [.ref (al Z 20 0)] V Y (.inl none) (g_look V) Y := by
  refine CT.of (cc := b_M_look) (maxL := 2) (ret := none) hZ (by decide) w_784 (Nat.le_of_ble_eq_true rfl) ?_
  intro p e s m below meth c C hr hex hlt
  refine gq_aload_n C d_M_look_0 rfl ?_
  refine gq_get C (g := 20) (j := 0) (ci := 8) (k := 15) (v := .int (V 20 0 15)) (qm (by decide) (by decide)) rfl rfl in_M (by decide) w_676 rfl d_M_look_1 ?_
  refine gq_if_eq C (tgt := 24) d_M_look_4 rfl (fun hb4 => ?_) (fun hb4 => ?_)
  · skip
    refine gq_aload_n C d_M_look_24 rfl ?_
    refine gq_get C (g := 20) (j := 0) (ci := 8) (k := 14) (v := .int (V 20 0 14)) (qm (by decide) (by decide)) rfl rfl in_M (by decide) w_675 rfl d_M_look_25 ?_
    refine gq_if_eq C (tgt := 38) d_M_look_28 rfl (fun hb28 => ?_) (fun hb28 => ?_)
    · skip
      exact gq_vretE C hr (by first | contradiction | (unfold g_look g_look1 g_wake; simp [*, qv_at])) rfl (by decide) (by decide) d_M_look_38
    · skip
      refine gq_aload_n C d_M_look_31 rfl ?_
      refine gq_get C (g := 20) (j := 0) (ci := 8) (k := 15) (v := .int (V 20 0 15)) (qm (by decide) (by decide)) rfl rfl in_M (by decide) w_676 rfl d_M_look_32 ?_
      refine gq_if_eq C (tgt := 39) d_M_look_35 rfl (fun hb35 => ?_) (fun hb35 => ?_)
      · skip
        refine gq_iconst C (v := 0) d_M_look_39 (by decide) ?_
        refine gq_istore_n C (lo' := [(1, .int 0), (0, .ref (al Z 20 0))]) d_M_look_40 rfl (by decide) rfl ?_
        refine gq_iload_n C d_M_look_41 rfl ?_
        refine gq_iconst C (v := 4) d_M_look_42 (by decide) ?_
        refine gq_icmp_ge C (tgt := 61) d_M_look_43 rfl (fun hb => by exact absurd hb (by decide)) (fun hb43 => ?_)
        refine gq_aload_n C d_M_look_46 rfl ?_
        refine gq_iload_n C d_M_look_47 rfl ?_
        refine gq_callV C (st := []) (fun _ h => h.elim) (c_M_free l Z hZ _ _ 0 (by decide)) (qm (by decide) (by decide)) rfl rfl w_789 w_791 ws_M_free w_792 w_9 ⟨by decide, by decide, (by decide +kernel : (parseMethodDescriptor y_M_free.desc).map (fun d => d.parameters.length) = some 1)⟩ ⟨by decide, by decide⟩ ⟨by decide, by decide⟩ rfl (Nat.le_of_ble_eq_true rfl) d_M_look_48 ?_
        refine gq_if_ne C (tgt := 55) d_M_look_51 rfl (fun hb51 => ?_) (fun hb51 => ?_)
        · skip
          refine gq_iinc C (k := 0) (w := 1) (lo' := [(1, .int 1), (0, .ref (al Z 20 0))]) d_M_look_55 rfl (by decide) (by decide) rfl ?_
          refine gq_goto C (tgt := 41) d_M_look_58 rfl ?_
          refine gq_iload_n C d_M_look_41 rfl ?_
          refine gq_iconst C (v := 4) d_M_look_42 (by decide) ?_
          refine gq_icmp_ge C (tgt := 61) d_M_look_43 rfl (fun hb => by exact absurd hb (by decide)) (fun hb43 => ?_)
          refine gq_aload_n C d_M_look_46 rfl ?_
          refine gq_iload_n C d_M_look_47 rfl ?_
          refine gq_callV C (st := []) (fun _ h => h.elim) (c_M_free l Z hZ _ _ 1 (by decide)) (qm (by decide) (by decide)) rfl rfl w_789 w_791 ws_M_free w_792 w_9 ⟨by decide, by decide, (by decide +kernel : (parseMethodDescriptor y_M_free.desc).map (fun d => d.parameters.length) = some 1)⟩ ⟨by decide, by decide⟩ ⟨by decide, by decide⟩ rfl (Nat.le_of_ble_eq_true rfl) d_M_look_48 ?_
          refine gq_if_ne C (tgt := 55) d_M_look_51 rfl (fun hb51 => ?_) (fun hb51 => ?_)
          · skip
            refine gq_iinc C (k := 0) (w := 2) (lo' := [(1, .int 2), (0, .ref (al Z 20 0))]) d_M_look_55 rfl (by decide) (by decide) rfl ?_
            refine gq_goto C (tgt := 41) d_M_look_58 rfl ?_
            refine gq_iload_n C d_M_look_41 rfl ?_
            refine gq_iconst C (v := 4) d_M_look_42 (by decide) ?_
            refine gq_icmp_ge C (tgt := 61) d_M_look_43 rfl (fun hb => by exact absurd hb (by decide)) (fun hb43 => ?_)
            refine gq_aload_n C d_M_look_46 rfl ?_
            refine gq_iload_n C d_M_look_47 rfl ?_
            refine gq_callV C (st := []) (fun _ h => h.elim) (c_M_free l Z hZ _ _ 2 (by decide)) (qm (by decide) (by decide)) rfl rfl w_789 w_791 ws_M_free w_792 w_9 ⟨by decide, by decide, (by decide +kernel : (parseMethodDescriptor y_M_free.desc).map (fun d => d.parameters.length) = some 1)⟩ ⟨by decide, by decide⟩ ⟨by decide, by decide⟩ rfl (Nat.le_of_ble_eq_true rfl) d_M_look_48 ?_
            refine gq_if_ne C (tgt := 55) d_M_look_51 rfl (fun hb51 => ?_) (fun hb51 => ?_)
            · skip
              refine gq_iinc C (k := 0) (w := 3) (lo' := [(1, .int 3), (0, .ref (al Z 20 0))]) d_M_look_55 rfl (by decide) (by decide) rfl ?_
              refine gq_goto C (tgt := 41) d_M_look_58 rfl ?_
              refine gq_iload_n C d_M_look_41 rfl ?_
              refine gq_iconst C (v := 4) d_M_look_42 (by decide) ?_
              refine gq_icmp_ge C (tgt := 61) d_M_look_43 rfl (fun hb => by exact absurd hb (by decide)) (fun hb43 => ?_)
              refine gq_aload_n C d_M_look_46 rfl ?_
              refine gq_iload_n C d_M_look_47 rfl ?_
              refine gq_callV C (st := []) (fun _ h => h.elim) (c_M_free l Z hZ _ _ 3 (by decide)) (qm (by decide) (by decide)) rfl rfl w_789 w_791 ws_M_free w_792 w_9 ⟨by decide, by decide, (by decide +kernel : (parseMethodDescriptor y_M_free.desc).map (fun d => d.parameters.length) = some 1)⟩ ⟨by decide, by decide⟩ ⟨by decide, by decide⟩ rfl (Nat.le_of_ble_eq_true rfl) d_M_look_48 ?_
              refine gq_if_ne C (tgt := 55) d_M_look_51 rfl (fun hb51 => ?_) (fun hb51 => ?_)
              · skip
                refine gq_iinc C (k := 0) (w := 4) (lo' := [(1, .int 4), (0, .ref (al Z 20 0))]) d_M_look_55 rfl (by decide) (by decide) rfl ?_
                refine gq_goto C (tgt := 41) d_M_look_58 rfl ?_
                refine gq_iload_n C d_M_look_41 rfl ?_
                refine gq_iconst C (v := 4) d_M_look_42 (by decide) ?_
                refine gq_icmp_ge C (tgt := 61) d_M_look_43 rfl (fun hb43 => ?_) (fun hb => by exact absurd hb (by decide))
                refine gq_aload_n C d_M_look_61 rfl ?_
                refine gq_aload_n C d_M_look_62 rfl ?_
                refine gq_get C (g := 20) (j := 0) (ci := 8) (k := 14) (v := .int (V 20 0 14)) (qm (by decide) (by decide)) rfl rfl in_M (by decide) w_675 rfl d_M_look_63 ?_
                refine gq_put C (fun _ h => h) (g := 20) (j := 0) (ci := 8) (k := 13) ft_M k_M n_M (qm (by decide) (by decide)) rfl rfl in_M (by decide) w_674 rfl (k_M 13 (by decide)) rfl rfl (Nat.le_of_ble_eq_true rfl) rfl d_M_look_66 ?_
                refine gq_aload_n C d_M_look_69 rfl ?_
                refine gq_iconst C (v := 0) d_M_look_70 (by decide) ?_
                refine gq_put C (fun _ h => h) (g := 20) (j := 0) (ci := 8) (k := 14) ft_M k_M n_M (qm (by decide) (by decide)) rfl rfl in_M (by decide) w_675 rfl (k_M 14 (by decide)) rfl rfl (Nat.le_of_ble_eq_true rfl) rfl d_M_look_71 ?_
                exact gq_vretE C hr (by first | contradiction | (unfold g_look g_look1 g_wake; simp [*, qv_at])) rfl (by decide) (by decide) d_M_look_74
              · skip
                exact gq_vretE C hr (by first | contradiction | (unfold g_look g_look1 g_wake; simp [*, qv_at])) rfl (by decide) (by decide) d_M_look_54
            · skip
              exact gq_vretE C hr (by first | contradiction | (unfold g_look g_look1 g_wake; simp [*, qv_at])) rfl (by decide) (by decide) d_M_look_54
          · skip
            exact gq_vretE C hr (by first | contradiction | (unfold g_look g_look1 g_wake; simp [*, qv_at])) rfl (by decide) (by decide) d_M_look_54
        · skip
          exact gq_vretE C hr (by first | contradiction | (unfold g_look g_look1 g_wake; simp [*, qv_at])) rfl (by decide) (by decide) d_M_look_54
      · skip
        exact gq_vretE C hr (by first | contradiction | (unfold g_look g_look1 g_wake; simp [*, qv_at])) rfl (by decide) (by decide) d_M_look_38
  · skip
    refine gq_aload_n C d_M_look_7 rfl ?_
    refine gq_iconst C (v := 4) d_M_look_8 (by decide) ?_
    refine gq_callV C (st := []) (fun _ h => h.elim) (c_M_clock l Z hZ _ _ 4 (by decide)) (qm (by decide) (by decide)) rfl rfl w_785 w_787 ws_M_clock w_788 w_9 ⟨by decide, by decide, (by decide +kernel : (parseMethodDescriptor y_M_clock.desc).map (fun d => d.parameters.length) = some 1)⟩ ⟨by decide, by decide⟩ ⟨by decide, by decide⟩ rfl (Nat.le_of_ble_eq_true rfl) d_M_look_9 ?_
    refine gq_aload_n C d_M_look_12 rfl ?_
    refine gq_get C (g := 20) (j := 0) (ci := 8) (k := 16) (v := .int (V 20 0 16)) (qm (by decide) (by decide)) rfl rfl in_M (by decide) w_677 rfl d_M_look_13 ?_
    refine gq_icmp_lt C (tgt := 24) d_M_look_16 rfl (fun hb16 => ?_) (fun hb16 => ?_)
    · skip
      refine gq_aload_n C d_M_look_24 rfl ?_
      refine gq_get C (g := 20) (j := 0) (ci := 8) (k := 14) (v := .int (V 20 0 14)) (qm (by decide) (by decide)) rfl rfl in_M (by decide) w_675 rfl d_M_look_25 ?_
      refine gq_if_eq C (tgt := 38) d_M_look_28 rfl (fun hb28 => ?_) (fun hb28 => ?_)
      · skip
        exact gq_vretE C hr (by first | contradiction | (unfold g_look g_look1 g_wake; simp [*, qv_at])) rfl (by decide) (by decide) d_M_look_38
      · skip
        refine gq_aload_n C d_M_look_31 rfl ?_
        refine gq_get C (g := 20) (j := 0) (ci := 8) (k := 15) (v := .int (V 20 0 15)) (qm (by decide) (by decide)) rfl rfl in_M (by decide) w_676 rfl d_M_look_32 ?_
        refine gq_if_eq C (tgt := 39) d_M_look_35 rfl (fun hb35 => ?_) (fun hb35 => ?_)
        · skip
          refine gq_iconst C (v := 0) d_M_look_39 (by decide) ?_
          refine gq_istore_n C (lo' := [(1, .int 0), (0, .ref (al Z 20 0))]) d_M_look_40 rfl (by decide) rfl ?_
          refine gq_iload_n C d_M_look_41 rfl ?_
          refine gq_iconst C (v := 4) d_M_look_42 (by decide) ?_
          refine gq_icmp_ge C (tgt := 61) d_M_look_43 rfl (fun hb => by exact absurd hb (by decide)) (fun hb43 => ?_)
          refine gq_aload_n C d_M_look_46 rfl ?_
          refine gq_iload_n C d_M_look_47 rfl ?_
          refine gq_callV C (st := []) (fun _ h => h.elim) (c_M_free l Z hZ _ _ 0 (by decide)) (qm (by decide) (by decide)) rfl rfl w_789 w_791 ws_M_free w_792 w_9 ⟨by decide, by decide, (by decide +kernel : (parseMethodDescriptor y_M_free.desc).map (fun d => d.parameters.length) = some 1)⟩ ⟨by decide, by decide⟩ ⟨by decide, by decide⟩ rfl (Nat.le_of_ble_eq_true rfl) d_M_look_48 ?_
          refine gq_if_ne C (tgt := 55) d_M_look_51 rfl (fun hb51 => ?_) (fun hb51 => ?_)
          · skip
            refine gq_iinc C (k := 0) (w := 1) (lo' := [(1, .int 1), (0, .ref (al Z 20 0))]) d_M_look_55 rfl (by decide) (by decide) rfl ?_
            refine gq_goto C (tgt := 41) d_M_look_58 rfl ?_
            refine gq_iload_n C d_M_look_41 rfl ?_
            refine gq_iconst C (v := 4) d_M_look_42 (by decide) ?_
            refine gq_icmp_ge C (tgt := 61) d_M_look_43 rfl (fun hb => by exact absurd hb (by decide)) (fun hb43 => ?_)
            refine gq_aload_n C d_M_look_46 rfl ?_
            refine gq_iload_n C d_M_look_47 rfl ?_
            refine gq_callV C (st := []) (fun _ h => h.elim) (c_M_free l Z hZ _ _ 1 (by decide)) (qm (by decide) (by decide)) rfl rfl w_789 w_791 ws_M_free w_792 w_9 ⟨by decide, by decide, (by decide +kernel : (parseMethodDescriptor y_M_free.desc).map (fun d => d.parameters.length) = some 1)⟩ ⟨by decide, by decide⟩ ⟨by decide, by decide⟩ rfl (Nat.le_of_ble_eq_true rfl) d_M_look_48 ?_
            refine gq_if_ne C (tgt := 55) d_M_look_51 rfl (fun hb51 => ?_) (fun hb51 => ?_)
            · skip
              refine gq_iinc C (k := 0) (w := 2) (lo' := [(1, .int 2), (0, .ref (al Z 20 0))]) d_M_look_55 rfl (by decide) (by decide) rfl ?_
              refine gq_goto C (tgt := 41) d_M_look_58 rfl ?_
              refine gq_iload_n C d_M_look_41 rfl ?_
              refine gq_iconst C (v := 4) d_M_look_42 (by decide) ?_
              refine gq_icmp_ge C (tgt := 61) d_M_look_43 rfl (fun hb => by exact absurd hb (by decide)) (fun hb43 => ?_)
              refine gq_aload_n C d_M_look_46 rfl ?_
              refine gq_iload_n C d_M_look_47 rfl ?_
              refine gq_callV C (st := []) (fun _ h => h.elim) (c_M_free l Z hZ _ _ 2 (by decide)) (qm (by decide) (by decide)) rfl rfl w_789 w_791 ws_M_free w_792 w_9 ⟨by decide, by decide, (by decide +kernel : (parseMethodDescriptor y_M_free.desc).map (fun d => d.parameters.length) = some 1)⟩ ⟨by decide, by decide⟩ ⟨by decide, by decide⟩ rfl (Nat.le_of_ble_eq_true rfl) d_M_look_48 ?_
              refine gq_if_ne C (tgt := 55) d_M_look_51 rfl (fun hb51 => ?_) (fun hb51 => ?_)
              · skip
                refine gq_iinc C (k := 0) (w := 3) (lo' := [(1, .int 3), (0, .ref (al Z 20 0))]) d_M_look_55 rfl (by decide) (by decide) rfl ?_
                refine gq_goto C (tgt := 41) d_M_look_58 rfl ?_
                refine gq_iload_n C d_M_look_41 rfl ?_
                refine gq_iconst C (v := 4) d_M_look_42 (by decide) ?_
                refine gq_icmp_ge C (tgt := 61) d_M_look_43 rfl (fun hb => by exact absurd hb (by decide)) (fun hb43 => ?_)
                refine gq_aload_n C d_M_look_46 rfl ?_
                refine gq_iload_n C d_M_look_47 rfl ?_
                refine gq_callV C (st := []) (fun _ h => h.elim) (c_M_free l Z hZ _ _ 3 (by decide)) (qm (by decide) (by decide)) rfl rfl w_789 w_791 ws_M_free w_792 w_9 ⟨by decide, by decide, (by decide +kernel : (parseMethodDescriptor y_M_free.desc).map (fun d => d.parameters.length) = some 1)⟩ ⟨by decide, by decide⟩ ⟨by decide, by decide⟩ rfl (Nat.le_of_ble_eq_true rfl) d_M_look_48 ?_
                refine gq_if_ne C (tgt := 55) d_M_look_51 rfl (fun hb51 => ?_) (fun hb51 => ?_)
                · skip
                  refine gq_iinc C (k := 0) (w := 4) (lo' := [(1, .int 4), (0, .ref (al Z 20 0))]) d_M_look_55 rfl (by decide) (by decide) rfl ?_
                  refine gq_goto C (tgt := 41) d_M_look_58 rfl ?_
                  refine gq_iload_n C d_M_look_41 rfl ?_
                  refine gq_iconst C (v := 4) d_M_look_42 (by decide) ?_
                  refine gq_icmp_ge C (tgt := 61) d_M_look_43 rfl (fun hb43 => ?_) (fun hb => by exact absurd hb (by decide))
                  refine gq_aload_n C d_M_look_61 rfl ?_
                  refine gq_aload_n C d_M_look_62 rfl ?_
                  refine gq_get C (g := 20) (j := 0) (ci := 8) (k := 14) (v := .int (V 20 0 14)) (qm (by decide) (by decide)) rfl rfl in_M (by decide) w_675 rfl d_M_look_63 ?_
                  refine gq_put C (fun _ h => h) (g := 20) (j := 0) (ci := 8) (k := 13) ft_M k_M n_M (qm (by decide) (by decide)) rfl rfl in_M (by decide) w_674 rfl (k_M 13 (by decide)) rfl rfl (Nat.le_of_ble_eq_true rfl) rfl d_M_look_66 ?_
                  refine gq_aload_n C d_M_look_69 rfl ?_
                  refine gq_iconst C (v := 0) d_M_look_70 (by decide) ?_
                  refine gq_put C (fun _ h => h) (g := 20) (j := 0) (ci := 8) (k := 14) ft_M k_M n_M (qm (by decide) (by decide)) rfl rfl in_M (by decide) w_675 rfl (k_M 14 (by decide)) rfl rfl (Nat.le_of_ble_eq_true rfl) rfl d_M_look_71 ?_
                  exact gq_vretE C hr (by first | contradiction | (unfold g_look g_look1 g_wake; simp [*, qv_at])) rfl (by decide) (by decide) d_M_look_74
                · skip
                  exact gq_vretE C hr (by first | contradiction | (unfold g_look g_look1 g_wake; simp [*, qv_at])) rfl (by decide) (by decide) d_M_look_54
              · skip
                exact gq_vretE C hr (by first | contradiction | (unfold g_look g_look1 g_wake; simp [*, qv_at])) rfl (by decide) (by decide) d_M_look_54
            · skip
              exact gq_vretE C hr (by first | contradiction | (unfold g_look g_look1 g_wake; simp [*, qv_at])) rfl (by decide) (by decide) d_M_look_54
          · skip
            exact gq_vretE C hr (by first | contradiction | (unfold g_look g_look1 g_wake; simp [*, qv_at])) rfl (by decide) (by decide) d_M_look_54
        · skip
          exact gq_vretE C hr (by first | contradiction | (unfold g_look g_look1 g_wake; simp [*, qv_at])) rfl (by decide) (by decide) d_M_look_38
    · skip
      refine gq_aload_n C d_M_look_19 rfl ?_
      refine gq_iconst C (v := 0) d_M_look_20 (by decide) ?_
      refine gq_put C (fun _ h => h) (g := 20) (j := 0) (ci := 8) (k := 15) ft_M k_M n_M (qm (by decide) (by decide)) rfl rfl in_M (by decide) w_676 rfl (k_M 15 (by decide)) rfl rfl (Nat.le_of_ble_eq_true rfl) rfl d_M_look_21 ?_
      refine gq_aload_n C d_M_look_24 rfl ?_
      refine gq_get C (g := 20) (j := 0) (ci := 8) (k := 14) (v := .int (V 20 0 14)) (qm (by decide) (by decide)) rfl rfl in_M (by decide) w_675 rfl d_M_look_25 ?_
      refine gq_if_eq C (tgt := 38) d_M_look_28 rfl (fun hb28 => ?_) (fun hb28 => ?_)
      · skip
        exact gq_vretE C hr (by first | contradiction | (unfold g_look g_look1 g_wake; simp [*, qv_at])) rfl (by decide) (by decide) d_M_look_38
      · skip
        refine gq_aload_n C d_M_look_31 rfl ?_
        refine gq_get C (g := 20) (j := 0) (ci := 8) (k := 15) (v := .int 0) (qm (by decide) (by decide)) rfl rfl in_M (by decide) w_676 rfl d_M_look_32 ?_
        refine gq_if_eq C (tgt := 39) d_M_look_35 rfl (fun hb35 => ?_) (fun hb => by exact absurd hb (by decide))
        refine gq_iconst C (v := 0) d_M_look_39 (by decide) ?_
        refine gq_istore_n C (lo' := [(1, .int 0), (0, .ref (al Z 20 0))]) d_M_look_40 rfl (by decide) rfl ?_
        refine gq_iload_n C d_M_look_41 rfl ?_
        refine gq_iconst C (v := 4) d_M_look_42 (by decide) ?_
        refine gq_icmp_ge C (tgt := 61) d_M_look_43 rfl (fun hb => by exact absurd hb (by decide)) (fun hb43 => ?_)
        refine gq_aload_n C d_M_look_46 rfl ?_
        refine gq_iload_n C d_M_look_47 rfl ?_
        refine gq_callV C (st := []) (fun _ h => h.elim) (c_M_free l Z hZ _ _ 0 (by decide)) (qm (by decide) (by decide)) rfl rfl w_789 w_791 ws_M_free w_792 w_9 ⟨by decide, by decide, (by decide +kernel : (parseMethodDescriptor y_M_free.desc).map (fun d => d.parameters.length) = some 1)⟩ ⟨by decide, by decide⟩ ⟨by decide, by decide⟩ rfl (Nat.le_of_ble_eq_true rfl) d_M_look_48 ?_
        refine gq_if_ne C (tgt := 55) d_M_look_51 rfl (fun hb51 => ?_) (fun hb51 => ?_)
        · skip
          refine gq_iinc C (k := 0) (w := 1) (lo' := [(1, .int 1), (0, .ref (al Z 20 0))]) d_M_look_55 rfl (by decide) (by decide) rfl ?_
          refine gq_goto C (tgt := 41) d_M_look_58 rfl ?_
          refine gq_iload_n C d_M_look_41 rfl ?_
          refine gq_iconst C (v := 4) d_M_look_42 (by decide) ?_
          refine gq_icmp_ge C (tgt := 61) d_M_look_43 rfl (fun hb => by exact absurd hb (by decide)) (fun hb43 => ?_)
          refine gq_aload_n C d_M_look_46 rfl ?_
          refine gq_iload_n C d_M_look_47 rfl ?_
          refine gq_callV C (st := []) (fun _ h => h.elim) (c_M_free l Z hZ _ _ 1 (by decide)) (qm (by decide) (by decide)) rfl rfl w_789 w_791 ws_M_free w_792 w_9 ⟨by decide, by decide, (by decide +kernel : (parseMethodDescriptor y_M_free.desc).map (fun d => d.parameters.length) = some 1)⟩ ⟨by decide, by decide⟩ ⟨by decide, by decide⟩ rfl (Nat.le_of_ble_eq_true rfl) d_M_look_48 ?_
          refine gq_if_ne C (tgt := 55) d_M_look_51 rfl (fun hb51 => ?_) (fun hb51 => ?_)
          · skip
            refine gq_iinc C (k := 0) (w := 2) (lo' := [(1, .int 2), (0, .ref (al Z 20 0))]) d_M_look_55 rfl (by decide) (by decide) rfl ?_
            refine gq_goto C (tgt := 41) d_M_look_58 rfl ?_
            refine gq_iload_n C d_M_look_41 rfl ?_
            refine gq_iconst C (v := 4) d_M_look_42 (by decide) ?_
            refine gq_icmp_ge C (tgt := 61) d_M_look_43 rfl (fun hb => by exact absurd hb (by decide)) (fun hb43 => ?_)
            refine gq_aload_n C d_M_look_46 rfl ?_
            refine gq_iload_n C d_M_look_47 rfl ?_
            refine gq_callV C (st := []) (fun _ h => h.elim) (c_M_free l Z hZ _ _ 2 (by decide)) (qm (by decide) (by decide)) rfl rfl w_789 w_791 ws_M_free w_792 w_9 ⟨by decide, by decide, (by decide +kernel : (parseMethodDescriptor y_M_free.desc).map (fun d => d.parameters.length) = some 1)⟩ ⟨by decide, by decide⟩ ⟨by decide, by decide⟩ rfl (Nat.le_of_ble_eq_true rfl) d_M_look_48 ?_
            refine gq_if_ne C (tgt := 55) d_M_look_51 rfl (fun hb51 => ?_) (fun hb51 => ?_)
            · skip
              refine gq_iinc C (k := 0) (w := 3) (lo' := [(1, .int 3), (0, .ref (al Z 20 0))]) d_M_look_55 rfl (by decide) (by decide) rfl ?_
              refine gq_goto C (tgt := 41) d_M_look_58 rfl ?_
              refine gq_iload_n C d_M_look_41 rfl ?_
              refine gq_iconst C (v := 4) d_M_look_42 (by decide) ?_
              refine gq_icmp_ge C (tgt := 61) d_M_look_43 rfl (fun hb => by exact absurd hb (by decide)) (fun hb43 => ?_)
              refine gq_aload_n C d_M_look_46 rfl ?_
              refine gq_iload_n C d_M_look_47 rfl ?_
              refine gq_callV C (st := []) (fun _ h => h.elim) (c_M_free l Z hZ _ _ 3 (by decide)) (qm (by decide) (by decide)) rfl rfl w_789 w_791 ws_M_free w_792 w_9 ⟨by decide, by decide, (by decide +kernel : (parseMethodDescriptor y_M_free.desc).map (fun d => d.parameters.length) = some 1)⟩ ⟨by decide, by decide⟩ ⟨by decide, by decide⟩ rfl (Nat.le_of_ble_eq_true rfl) d_M_look_48 ?_
              refine gq_if_ne C (tgt := 55) d_M_look_51 rfl (fun hb51 => ?_) (fun hb51 => ?_)
              · skip
                refine gq_iinc C (k := 0) (w := 4) (lo' := [(1, .int 4), (0, .ref (al Z 20 0))]) d_M_look_55 rfl (by decide) (by decide) rfl ?_
                refine gq_goto C (tgt := 41) d_M_look_58 rfl ?_
                refine gq_iload_n C d_M_look_41 rfl ?_
                refine gq_iconst C (v := 4) d_M_look_42 (by decide) ?_
                refine gq_icmp_ge C (tgt := 61) d_M_look_43 rfl (fun hb43 => ?_) (fun hb => by exact absurd hb (by decide))
                refine gq_aload_n C d_M_look_61 rfl ?_
                refine gq_aload_n C d_M_look_62 rfl ?_
                refine gq_get C (g := 20) (j := 0) (ci := 8) (k := 14) (v := .int (V 20 0 14)) (qm (by decide) (by decide)) rfl rfl in_M (by decide) w_675 rfl d_M_look_63 ?_
                refine gq_put C (fun _ h => h) (g := 20) (j := 0) (ci := 8) (k := 13) ft_M k_M n_M (qm (by decide) (by decide)) rfl rfl in_M (by decide) w_674 rfl (k_M 13 (by decide)) rfl rfl (Nat.le_of_ble_eq_true rfl) rfl d_M_look_66 ?_
                refine gq_aload_n C d_M_look_69 rfl ?_
                refine gq_iconst C (v := 0) d_M_look_70 (by decide) ?_
                refine gq_put C (fun _ h => h) (g := 20) (j := 0) (ci := 8) (k := 14) ft_M k_M n_M (qm (by decide) (by decide)) rfl rfl in_M (by decide) w_675 rfl (k_M 14 (by decide)) rfl rfl (Nat.le_of_ble_eq_true rfl) rfl d_M_look_71 ?_
                exact gq_vretE C hr (by first | contradiction | (unfold g_look g_look1 g_wake; simp [*, qv_at])) rfl (by decide) (by decide) d_M_look_74
              · skip
                exact gq_vretE C hr (by first | contradiction | (unfold g_look g_look1 g_wake; simp [*, qv_at])) rfl (by decide) (by decide) d_M_look_54
            · skip
              exact gq_vretE C hr (by first | contradiction | (unfold g_look g_look1 g_wake; simp [*, qv_at])) rfl (by decide) (by decide) d_M_look_54
          · skip
            exact gq_vretE C hr (by first | contradiction | (unfold g_look g_look1 g_wake; simp [*, qv_at])) rfl (by decide) (by decide) d_M_look_54
        · skip
          exact gq_vretE C hr (by first | contradiction | (unfold g_look g_look1 g_wake; simp [*, qv_at])) rfl (by decide) (by decide) d_M_look_54

set_option maxHeartbeats 4000000 in
set_option maxRecDepth 100000 in
theorem c_M_validLease (l : Launch) (Z : qZ) (hZ : qok (pX Z)) (V : qV) (Y : qY) (t : Nat) (ht : t < 4) : CT l y_M_validLease { frames := 2, cells := 0, slots := 0, locals := 61 } (pX Z) qN [.ref (al Z 20 0), .int (nI t)] V Y (.inl (some (.int (g_lease V t)))) V Y := by
  refine CT.of (cc := b_M_validLease) (maxL := 4) (ret := (some .int)) hZ (by decide) w_828 (Nat.le_of_ble_eq_true rfl) ?_
  intro p e s m below meth c C hr hex hlt
  refine gq_aload_n C d_M_validLease_0 rfl ?_
  refine gq_get C (g := 20) (j := 0) (ci := 8) (k := 12) (v := .ref (al Z 31 0)) (qm (by decide) (by decide)) rfl rfl in_M (by decide) w_673 rfl d_M_validLease_1 ?_
  refine gq_iload_n C d_M_validLease_4 rfl ?_
  refine gq_iald C (g := 31) (j := 0) (a := t) (t0 := 0) (qm (by decide) (by decide)) rfl rfl rfl ht (by decide) d_M_validLease_5 ?_
  refine gq_istore_n C (lo' := [(2, .int (V 31 0 t)), (0, .ref (al Z 20 0)), (1, .int (nI t))]) d_M_validLease_6 rfl (by decide) rfl ?_
  refine gq_iload_n C d_M_validLease_7 rfl ?_
  refine gq_if_le C (tgt := 52) d_M_validLease_8 rfl (fun hb8 => ?_) (fun hb8 => ?_)
  · skip
    refine gq_iconst C (v := 0) d_M_validLease_52 (by decide) ?_
    refine gq_istore_n C (lo' := [(3, .int 0), (2, .int (V 31 0 t)), (0, .ref (al Z 20 0)), (1, .int (nI t))]) d_M_validLease_53 rfl (by decide) rfl ?_
    refine gq_iload_n C d_M_validLease_54 rfl ?_
    refine gq_if_eq C (tgt := 62) d_M_validLease_55 rfl (fun hb55 => ?_) (fun hb => by exact absurd hb (by decide))
    refine gq_iconst C (v := 0) d_M_validLease_62 (by decide) ?_
    exact gq_iretE C hr (by unfold g_lease; simp [*]) rfl rfl (by decide) (by decide) d_M_validLease_63
  · skip
    refine gq_aload_n C d_M_validLease_11 rfl ?_
    refine gq_iload_n C d_M_validLease_12 rfl ?_
    refine gq_callV C (st := []) (fun _ h => h) (c_M_clock l Z hZ _ _ t (Nat.lt_trans ht (by decide))) (qm (by decide) (by decide)) rfl rfl w_785 w_787 ws_M_clock w_788 w_9 ⟨by decide, by decide, (by decide +kernel : (parseMethodDescriptor y_M_clock.desc).map (fun d => d.parameters.length) = some 1)⟩ ⟨by decide, by decide⟩ ⟨by decide, by decide⟩ rfl (Nat.le_of_ble_eq_true rfl) d_M_validLease_13 ?_
    refine gq_aload_n C d_M_validLease_16 rfl ?_
    refine gq_get C (g := 20) (j := 0) (ci := 8) (k := 11) (v := .ref (al Z 30 0)) (qm (by decide) (by decide)) rfl rfl in_M (by decide) w_672 rfl d_M_validLease_17 ?_
    refine gq_iload_n C d_M_validLease_20 rfl ?_
    refine gq_iald C (g := 30) (j := 0) (a := t) (t0 := 0) (qm (by decide) (by decide)) rfl rfl rfl ht (by decide) d_M_validLease_21 ?_
    refine gq_bipush C (v := 60) d_M_validLease_22 (by decide) ?_
    refine gq_iadd C d_M_validLease_24 ?_
    refine gq_icmp_ge C (tgt := 52) d_M_validLease_25 rfl (fun hb25 => ?_) (fun hb25 => ?_)
    · skip
      refine gq_iconst C (v := 0) d_M_validLease_52 (by decide) ?_
      refine gq_istore_n C (lo' := [(3, .int 0), (2, .int (V 31 0 t)), (0, .ref (al Z 20 0)), (1, .int (nI t))]) d_M_validLease_53 rfl (by decide) rfl ?_
      refine gq_iload_n C d_M_validLease_54 rfl ?_
      refine gq_if_eq C (tgt := 62) d_M_validLease_55 rfl (fun hb55 => ?_) (fun hb => by exact absurd hb (by decide))
      refine gq_iconst C (v := 0) d_M_validLease_62 (by decide) ?_
      exact gq_iretE C hr (by unfold g_lease; simp [*]) rfl rfl (by decide) (by decide) d_M_validLease_63
    · skip
      refine gq_aload_n C d_M_validLease_28 rfl ?_
      refine gq_get C (g := 20) (j := 0) (ci := 8) (k := 7) (v := .ref (al Z 26 0)) (qm (by decide) (by decide)) rfl rfl in_M (by decide) w_668 rfl d_M_validLease_29 ?_
      refine gq_iload_n C d_M_validLease_32 rfl ?_
      refine gq_iald C (g := 26) (j := 0) (a := t) (t0 := 0) (qm (by decide) (by decide)) rfl rfl rfl ht (by decide) d_M_validLease_33 ?_
      refine gq_iload_n C d_M_validLease_34 rfl ?_
      refine gq_icmp_lt C (tgt := 52) d_M_validLease_35 rfl (fun hb35 => ?_) (fun hb35 => ?_)
      · skip
        refine gq_iconst C (v := 0) d_M_validLease_52 (by decide) ?_
        refine gq_istore_n C (lo' := [(3, .int 0), (2, .int (V 31 0 t)), (0, .ref (al Z 20 0)), (1, .int (nI t))]) d_M_validLease_53 rfl (by decide) rfl ?_
        refine gq_iload_n C d_M_validLease_54 rfl ?_
        refine gq_if_eq C (tgt := 62) d_M_validLease_55 rfl (fun hb55 => ?_) (fun hb => by exact absurd hb (by decide))
        refine gq_iconst C (v := 0) d_M_validLease_62 (by decide) ?_
        exact gq_iretE C hr (by unfold g_lease; simp [*]) rfl rfl (by decide) (by decide) d_M_validLease_63
      · skip
        refine gq_aload_n C d_M_validLease_38 rfl ?_
        refine gq_get C (g := 20) (j := 0) (ci := 8) (k := 8) (v := .ref (al Z 27 0)) (qm (by decide) (by decide)) rfl rfl in_M (by decide) w_669 rfl d_M_validLease_39 ?_
        refine gq_iload_n C d_M_validLease_42 rfl ?_
        refine gq_iald C (g := 27) (j := 0) (a := t) (t0 := 0) (qm (by decide) (by decide)) rfl rfl rfl ht (by decide) d_M_validLease_43 ?_
        refine gq_iload_n C d_M_validLease_44 rfl ?_
        refine gq_icmp_gt C (tgt := 52) d_M_validLease_45 rfl (fun hb45 => ?_) (fun hb45 => ?_)
        · skip
          refine gq_iconst C (v := 0) d_M_validLease_52 (by decide) ?_
          refine gq_istore_n C (lo' := [(3, .int 0), (2, .int (V 31 0 t)), (0, .ref (al Z 20 0)), (1, .int (nI t))]) d_M_validLease_53 rfl (by decide) rfl ?_
          refine gq_iload_n C d_M_validLease_54 rfl ?_
          refine gq_if_eq C (tgt := 62) d_M_validLease_55 rfl (fun hb55 => ?_) (fun hb => by exact absurd hb (by decide))
          refine gq_iconst C (v := 0) d_M_validLease_62 (by decide) ?_
          exact gq_iretE C hr (by unfold g_lease; simp [*]) rfl rfl (by decide) (by decide) d_M_validLease_63
        · skip
          refine gq_iconst C (v := 1) d_M_validLease_48 (by decide) ?_
          refine gq_goto C (tgt := 53) d_M_validLease_49 rfl ?_
          refine gq_istore_n C (lo' := [(3, .int 1), (2, .int (V 31 0 t)), (0, .ref (al Z 20 0)), (1, .int (nI t))]) d_M_validLease_53 rfl (by decide) rfl ?_
          refine gq_iload_n C d_M_validLease_54 rfl ?_
          refine gq_if_eq C (tgt := 62) d_M_validLease_55 rfl (fun hb => by exact absurd hb (by decide)) (fun hb55 => ?_)
          refine gq_iload_n C d_M_validLease_58 rfl ?_
          refine gq_goto C (tgt := 63) d_M_validLease_59 rfl ?_
          exact gq_iretE C hr (by unfold g_lease; simp [*]) rfl rfl (by decide) (by decide) d_M_validLease_63

set_option maxHeartbeats 4000000 in
set_option maxRecDepth 100000 in
theorem c_M_asked (l : Launch) (Z : qZ) (hZ : qok (pX Z)) (V : qV) (Y : qY) (t : Nat) (ht : t < 4) (a : Int32) (hc : ∃ q, q ≤ 40 ∧ V 20 0 22 = nI q) : CT l y_M_asked { frames := 2, cells := 0, slots := 0, locals := 64 } (pX Z) (qA (pX Z)) [.ref (al Z 20 0), .int (nI t), .int a] V Y (.inl none) (g_asked V t a) Y := by
  refine CT.of (cc := b_M_asked) (maxL := 4) (ret := none) hZ (by decide) w_848 (Nat.le_of_ble_eq_true rfl) ?_
  intro p e s m below meth c C hr hex hlt
  refine gq_aload_n C d_M_asked_0 rfl ?_
  refine gq_get C (g := 20) (j := 0) (ci := 8) (k := 15) (v := .int (V 20 0 15)) (qm (by decide) (by decide)) rfl rfl in_M (by decide) w_676 rfl d_M_asked_1 ?_
  refine gq_if_eq C (tgt := 24) d_M_asked_4 rfl (fun hb4 => ?_) (fun hb4 => ?_)
  · skip
    refine gq_aload_n C d_M_asked_24 rfl ?_
    refine gq_get C (g := 20) (j := 0) (ci := 8) (k := 14) (v := .int (V 20 0 14)) (qm (by decide) (by decide)) rfl rfl in_M (by decide) w_675 rfl d_M_asked_25 ?_
    refine gq_if_ne C (tgt := 38) d_M_asked_28 rfl (fun hb28 => ?_) (fun hb28 => ?_)
    · skip
      refine gq_aload_n C d_M_asked_38 rfl ?_
      refine gq_get C (g := 20) (j := 0) (ci := 8) (k := 21) (v := .ref (al Z 36 0)) (qm (by decide) (by decide)) rfl rfl in_M (by decide) w_682 rfl d_M_asked_39 ?_
      refine gq_iload_n C d_M_asked_42 rfl ?_
      refine gq_iald C (g := 36) (j := 0) (a := t) (t0 := 0) (qm (by decide) (by decide)) rfl rfl rfl ht (by decide) d_M_asked_43 ?_
      refine gq_aload_n C d_M_asked_44 rfl ?_
      refine gq_get C (g := 20) (j := 0) (ci := 8) (k := 14) (v := .int (V 20 0 14)) (qm (by decide) (by decide)) rfl rfl in_M (by decide) w_675 rfl d_M_asked_45 ?_
      refine gq_icmp_lt C (tgt := 58) d_M_asked_48 rfl (fun hb48 => ?_) (fun hb48 => ?_)
      · skip
        refine gq_iconst C (v := 0) d_M_asked_58 (by decide) ?_
        refine gq_istore_n C (lo' := [(3, .int 0), (0, .ref (al Z 20 0)), (1, .int (nI t)), (2, .int a)]) d_M_asked_59 rfl (by decide) rfl ?_
        refine gq_aload_n C d_M_asked_60 rfl ?_
        refine gq_get C (g := 20) (j := 0) (ci := 8) (k := 15) (v := .int (V 20 0 15)) (qm (by decide) (by decide)) rfl rfl in_M (by decide) w_676 rfl d_M_asked_61 ?_
        refine gq_if_ne C (tgt := 81) d_M_asked_64 rfl (fun hb64 => ?_) (fun hb64 => ?_)
        · skip
          exact gq_vretE C hr (by first | contradiction | (unfold g_asked g_asked1 g_bookFor g_wake; simp [*, qv_at])) rfl (by decide) (by decide) d_M_asked_81
        · skip
          refine gq_iload_n C d_M_asked_67 rfl ?_
          refine gq_aload_n C d_M_asked_68 rfl ?_
          refine gq_get C (g := 20) (j := 0) (ci := 8) (k := 17) (v := .ref (al Z 32 0)) (qm (by decide) (by decide)) rfl rfl in_M (by decide) w_678 rfl d_M_asked_69 ?_
          refine gq_iload_n C d_M_asked_72 rfl ?_
          refine gq_iald C (g := 32) (j := 0) (a := t) (t0 := 0) (qm (by decide) (by decide)) rfl rfl rfl ht (by decide) d_M_asked_73 ?_
          refine gq_icmp_lt C (tgt := 81) d_M_asked_74 rfl (fun hb74 => ?_) (fun hb74 => ?_)
          · skip
            exact gq_vretE C hr (by first | contradiction | (unfold g_asked g_asked1 g_bookFor g_wake; simp [*, qv_at])) rfl (by decide) (by decide) d_M_asked_81
          · skip
            refine gq_iload_n C d_M_asked_77 rfl ?_
            refine gq_if_ne C (tgt := 82) d_M_asked_78 rfl (fun hb => by exact absurd hb (by decide)) (fun hb78 => ?_)
            exact gq_vretE C hr (by first | contradiction | (unfold g_asked g_asked1 g_bookFor g_wake; simp [*, qv_at])) rfl (by decide) (by decide) d_M_asked_81
      · skip
        refine gq_aload_n C d_M_asked_51 rfl ?_
        refine gq_get C (g := 20) (j := 0) (ci := 8) (k := 14) (v := .int (V 20 0 14)) (qm (by decide) (by decide)) rfl rfl in_M (by decide) w_675 rfl d_M_asked_52 ?_
        refine gq_goto C (tgt := 59) d_M_asked_55 rfl ?_
        refine gq_istore_n C (lo' := [(3, .int (V 20 0 14)), (0, .ref (al Z 20 0)), (1, .int (nI t)), (2, .int a)]) d_M_asked_59 rfl (by decide) rfl ?_
        refine gq_aload_n C d_M_asked_60 rfl ?_
        refine gq_get C (g := 20) (j := 0) (ci := 8) (k := 15) (v := .int (V 20 0 15)) (qm (by decide) (by decide)) rfl rfl in_M (by decide) w_676 rfl d_M_asked_61 ?_
        refine gq_if_ne C (tgt := 81) d_M_asked_64 rfl (fun hb64 => ?_) (fun hb64 => ?_)
        · skip
          exact gq_vretE C hr (by first | contradiction | (unfold g_asked g_asked1 g_bookFor g_wake; simp [*, qv_at])) rfl (by decide) (by decide) d_M_asked_81
        · skip
          refine gq_iload_n C d_M_asked_67 rfl ?_
          refine gq_aload_n C d_M_asked_68 rfl ?_
          refine gq_get C (g := 20) (j := 0) (ci := 8) (k := 17) (v := .ref (al Z 32 0)) (qm (by decide) (by decide)) rfl rfl in_M (by decide) w_678 rfl d_M_asked_69 ?_
          refine gq_iload_n C d_M_asked_72 rfl ?_
          refine gq_iald C (g := 32) (j := 0) (a := t) (t0 := 0) (qm (by decide) (by decide)) rfl rfl rfl ht (by decide) d_M_asked_73 ?_
          refine gq_icmp_lt C (tgt := 81) d_M_asked_74 rfl (fun hb74 => ?_) (fun hb74 => ?_)
          · skip
            exact gq_vretE C hr (by first | contradiction | (unfold g_asked g_asked1 g_bookFor g_wake; simp [*, qv_at])) rfl (by decide) (by decide) d_M_asked_81
          · skip
            refine gq_iload_n C d_M_asked_77 rfl ?_
            refine gq_if_ne C (tgt := 82) d_M_asked_78 rfl (fun hb78 => ?_) (fun hb78 => ?_)
            · skip
              refine gq_aload_n C d_M_asked_82 rfl ?_
              refine gq_get C (g := 20) (j := 0) (ci := 8) (k := 17) (v := .ref (al Z 32 0)) (qm (by decide) (by decide)) rfl rfl in_M (by decide) w_678 rfl d_M_asked_83 ?_
              refine gq_iload_n C d_M_asked_86 rfl ?_
              refine gq_iload_n C d_M_asked_87 rfl ?_
              refine gq_iast C (fun _ h => h) (g := 32) (j := 0) (a := t) (t0 := 0) (qm (by decide) (by decide)) (fun _ => rfl) rfl rfl ht (by decide) d_M_asked_88 ?_
              refine gq_aload_n C d_M_asked_89 rfl ?_
              refine gq_get C (g := 20) (j := 0) (ci := 8) (k := 19) (v := .ref (al Z 34 0)) (qm (by decide) (by decide)) rfl rfl in_M (by decide) w_680 rfl d_M_asked_90 ?_
              refine gq_iload_n C d_M_asked_93 rfl ?_
              refine gq_iload_n C d_M_asked_94 rfl ?_
              refine gq_iast C (fun _ h => h) (g := 34) (j := 0) (a := t) (t0 := 0) (qm (by decide) (by decide)) (fun _ => rfl) rfl rfl ht (by decide) d_M_asked_95 ?_
              refine gq_aload_n C d_M_asked_96 rfl ?_
              refine gq_get C (g := 20) (j := 0) (ci := 8) (k := 20) (v := .ref (al Z 35 0)) (qm (by decide) (by decide)) rfl rfl in_M (by decide) w_681 rfl d_M_asked_97 ?_
              refine gq_iload_n C d_M_asked_100 rfl ?_
              refine gq_aload_n C d_M_asked_101 rfl ?_
              refine gq_iconst C (v := 4) d_M_asked_102 (by decide) ?_
              refine gq_callV C (st := [.int (nI t), .ref (al Z 35 0)]) (fun _ h => h.elim) (c_M_clock l Z hZ _ _ 4 (by decide)) (qm (by decide) (by decide)) rfl rfl w_785 w_787 ws_M_clock w_788 w_9 ⟨by decide, by decide, (by decide +kernel : (parseMethodDescriptor y_M_clock.desc).map (fun d => d.parameters.length) = some 1)⟩ ⟨by decide, by decide⟩ ⟨by decide, by decide⟩ rfl (Nat.le_of_ble_eq_true rfl) d_M_asked_103 ?_
              refine G.eqS (st' := [.int ((V 24 0 4) / 100), .int (nI t), .ref (al Z 35 0)]) rfl ?_
              refine gq_iast C (fun _ h => h) (g := 35) (j := 0) (a := t) (t0 := 0) (qm (by decide) (by decide)) (fun _ => rfl) rfl rfl ht (by decide) d_M_asked_106 ?_
              refine gq_aload_n C d_M_asked_107 rfl ?_
              refine gq_get C (g := 20) (j := 0) (ci := 8) (k := 18) (v := .ref (al Z 33 0)) (qm (by decide) (by decide)) rfl rfl in_M (by decide) w_679 rfl d_M_asked_108 ?_
              refine gq_iload_n C d_M_asked_111 rfl ?_
              refine gq_iconst C (v := 1) d_M_asked_112 (by decide) ?_
              refine gq_zast C (fun _ h => h) (g := 33) (j := 0) (a := t) (t0 := 2) (qm (by decide) (by decide)) (fun _ => rfl) rfl rfl ht (by decide) rfl d_M_asked_113 ?_
              refine gq_aload_n C d_M_asked_114 rfl ?_
              refine gq_iconst C (v := 2) d_M_asked_115 (by decide) ?_
              refine gq_iload_n C d_M_asked_116 rfl ?_
              refine gq_iload_n C d_M_asked_117 rfl ?_
              refine gq_iload_n C d_M_asked_118 rfl ?_
              refine gq_callV C (st := []) (fun _ h => h) (c_M_put l Z hZ _ _ (g_cnt2 hc (by simp [qv_at])) 2 (nI t) (V 20 0 14) a) (qm (by decide) (by decide)) rfl rfl w_773 w_775 ws_M_post w_776 w_9 ⟨by decide, by decide, (by decide +kernel : (parseMethodDescriptor y_M_post.desc).map (fun d => d.parameters.length) = some 4)⟩ ⟨by decide, by decide⟩ ⟨by decide, by decide⟩ rfl (Nat.le_of_ble_eq_true rfl) d_M_asked_119 ?_
              exact gq_vretE C hr (by first | contradiction | (unfold g_asked g_asked1 g_bookFor g_wake; simp [*, qv_at])) rfl (by decide) (by decide) d_M_asked_122
            · skip
              exact gq_vretE C hr (by first | contradiction | (unfold g_asked g_asked1 g_bookFor g_wake; simp [*, qv_at])) rfl (by decide) (by decide) d_M_asked_81
    · skip
      refine gq_aload_n C d_M_asked_31 rfl ?_
      refine gq_get C (g := 20) (j := 0) (ci := 8) (k := 13) (v := .int (V 20 0 13)) (qm (by decide) (by decide)) rfl rfl in_M (by decide) w_674 rfl d_M_asked_32 ?_
      refine gq_goto C (tgt := 59) d_M_asked_35 rfl ?_
      refine gq_istore_n C (lo' := [(3, .int (V 20 0 13)), (0, .ref (al Z 20 0)), (1, .int (nI t)), (2, .int a)]) d_M_asked_59 rfl (by decide) rfl ?_
      refine gq_aload_n C d_M_asked_60 rfl ?_
      refine gq_get C (g := 20) (j := 0) (ci := 8) (k := 15) (v := .int (V 20 0 15)) (qm (by decide) (by decide)) rfl rfl in_M (by decide) w_676 rfl d_M_asked_61 ?_
      refine gq_if_ne C (tgt := 81) d_M_asked_64 rfl (fun hb64 => ?_) (fun hb64 => ?_)
      · skip
        exact gq_vretE C hr (by first | contradiction | (unfold g_asked g_asked1 g_bookFor g_wake; simp [*, qv_at])) rfl (by decide) (by decide) d_M_asked_81
      · skip
        refine gq_iload_n C d_M_asked_67 rfl ?_
        refine gq_aload_n C d_M_asked_68 rfl ?_
        refine gq_get C (g := 20) (j := 0) (ci := 8) (k := 17) (v := .ref (al Z 32 0)) (qm (by decide) (by decide)) rfl rfl in_M (by decide) w_678 rfl d_M_asked_69 ?_
        refine gq_iload_n C d_M_asked_72 rfl ?_
        refine gq_iald C (g := 32) (j := 0) (a := t) (t0 := 0) (qm (by decide) (by decide)) rfl rfl rfl ht (by decide) d_M_asked_73 ?_
        refine gq_icmp_lt C (tgt := 81) d_M_asked_74 rfl (fun hb74 => ?_) (fun hb74 => ?_)
        · skip
          exact gq_vretE C hr (by first | contradiction | (unfold g_asked g_asked1 g_bookFor g_wake; simp [*, qv_at])) rfl (by decide) (by decide) d_M_asked_81
        · skip
          refine gq_iload_n C d_M_asked_77 rfl ?_
          refine gq_if_ne C (tgt := 82) d_M_asked_78 rfl (fun hb78 => ?_) (fun hb78 => ?_)
          · skip
            refine gq_aload_n C d_M_asked_82 rfl ?_
            refine gq_get C (g := 20) (j := 0) (ci := 8) (k := 17) (v := .ref (al Z 32 0)) (qm (by decide) (by decide)) rfl rfl in_M (by decide) w_678 rfl d_M_asked_83 ?_
            refine gq_iload_n C d_M_asked_86 rfl ?_
            refine gq_iload_n C d_M_asked_87 rfl ?_
            refine gq_iast C (fun _ h => h) (g := 32) (j := 0) (a := t) (t0 := 0) (qm (by decide) (by decide)) (fun _ => rfl) rfl rfl ht (by decide) d_M_asked_88 ?_
            refine gq_aload_n C d_M_asked_89 rfl ?_
            refine gq_get C (g := 20) (j := 0) (ci := 8) (k := 19) (v := .ref (al Z 34 0)) (qm (by decide) (by decide)) rfl rfl in_M (by decide) w_680 rfl d_M_asked_90 ?_
            refine gq_iload_n C d_M_asked_93 rfl ?_
            refine gq_iload_n C d_M_asked_94 rfl ?_
            refine gq_iast C (fun _ h => h) (g := 34) (j := 0) (a := t) (t0 := 0) (qm (by decide) (by decide)) (fun _ => rfl) rfl rfl ht (by decide) d_M_asked_95 ?_
            refine gq_aload_n C d_M_asked_96 rfl ?_
            refine gq_get C (g := 20) (j := 0) (ci := 8) (k := 20) (v := .ref (al Z 35 0)) (qm (by decide) (by decide)) rfl rfl in_M (by decide) w_681 rfl d_M_asked_97 ?_
            refine gq_iload_n C d_M_asked_100 rfl ?_
            refine gq_aload_n C d_M_asked_101 rfl ?_
            refine gq_iconst C (v := 4) d_M_asked_102 (by decide) ?_
            refine gq_callV C (st := [.int (nI t), .ref (al Z 35 0)]) (fun _ h => h.elim) (c_M_clock l Z hZ _ _ 4 (by decide)) (qm (by decide) (by decide)) rfl rfl w_785 w_787 ws_M_clock w_788 w_9 ⟨by decide, by decide, (by decide +kernel : (parseMethodDescriptor y_M_clock.desc).map (fun d => d.parameters.length) = some 1)⟩ ⟨by decide, by decide⟩ ⟨by decide, by decide⟩ rfl (Nat.le_of_ble_eq_true rfl) d_M_asked_103 ?_
            refine G.eqS (st' := [.int ((V 24 0 4) / 100), .int (nI t), .ref (al Z 35 0)]) rfl ?_
            refine gq_iast C (fun _ h => h) (g := 35) (j := 0) (a := t) (t0 := 0) (qm (by decide) (by decide)) (fun _ => rfl) rfl rfl ht (by decide) d_M_asked_106 ?_
            refine gq_aload_n C d_M_asked_107 rfl ?_
            refine gq_get C (g := 20) (j := 0) (ci := 8) (k := 18) (v := .ref (al Z 33 0)) (qm (by decide) (by decide)) rfl rfl in_M (by decide) w_679 rfl d_M_asked_108 ?_
            refine gq_iload_n C d_M_asked_111 rfl ?_
            refine gq_iconst C (v := 1) d_M_asked_112 (by decide) ?_
            refine gq_zast C (fun _ h => h) (g := 33) (j := 0) (a := t) (t0 := 2) (qm (by decide) (by decide)) (fun _ => rfl) rfl rfl ht (by decide) rfl d_M_asked_113 ?_
            refine gq_aload_n C d_M_asked_114 rfl ?_
            refine gq_iconst C (v := 2) d_M_asked_115 (by decide) ?_
            refine gq_iload_n C d_M_asked_116 rfl ?_
            refine gq_iload_n C d_M_asked_117 rfl ?_
            refine gq_iload_n C d_M_asked_118 rfl ?_
            refine gq_callV C (st := []) (fun _ h => h) (c_M_put l Z hZ _ _ (g_cnt2 hc (by simp [qv_at])) 2 (nI t) (V 20 0 13) a) (qm (by decide) (by decide)) rfl rfl w_773 w_775 ws_M_post w_776 w_9 ⟨by decide, by decide, (by decide +kernel : (parseMethodDescriptor y_M_post.desc).map (fun d => d.parameters.length) = some 4)⟩ ⟨by decide, by decide⟩ ⟨by decide, by decide⟩ rfl (Nat.le_of_ble_eq_true rfl) d_M_asked_119 ?_
            exact gq_vretE C hr (by first | contradiction | (unfold g_asked g_asked1 g_bookFor g_wake; simp [*, qv_at])) rfl (by decide) (by decide) d_M_asked_122
          · skip
            exact gq_vretE C hr (by first | contradiction | (unfold g_asked g_asked1 g_bookFor g_wake; simp [*, qv_at])) rfl (by decide) (by decide) d_M_asked_81
  · skip
    refine gq_aload_n C d_M_asked_7 rfl ?_
    refine gq_iconst C (v := 4) d_M_asked_8 (by decide) ?_
    refine gq_callV C (st := []) (fun _ h => h.elim) (c_M_clock l Z hZ _ _ 4 (by decide)) (qm (by decide) (by decide)) rfl rfl w_785 w_787 ws_M_clock w_788 w_9 ⟨by decide, by decide, (by decide +kernel : (parseMethodDescriptor y_M_clock.desc).map (fun d => d.parameters.length) = some 1)⟩ ⟨by decide, by decide⟩ ⟨by decide, by decide⟩ rfl (Nat.le_of_ble_eq_true rfl) d_M_asked_9 ?_
    refine gq_aload_n C d_M_asked_12 rfl ?_
    refine gq_get C (g := 20) (j := 0) (ci := 8) (k := 16) (v := .int (V 20 0 16)) (qm (by decide) (by decide)) rfl rfl in_M (by decide) w_677 rfl d_M_asked_13 ?_
    refine gq_icmp_lt C (tgt := 24) d_M_asked_16 rfl (fun hb16 => ?_) (fun hb16 => ?_)
    · skip
      refine gq_aload_n C d_M_asked_24 rfl ?_
      refine gq_get C (g := 20) (j := 0) (ci := 8) (k := 14) (v := .int (V 20 0 14)) (qm (by decide) (by decide)) rfl rfl in_M (by decide) w_675 rfl d_M_asked_25 ?_
      refine gq_if_ne C (tgt := 38) d_M_asked_28 rfl (fun hb28 => ?_) (fun hb28 => ?_)
      · skip
        refine gq_aload_n C d_M_asked_38 rfl ?_
        refine gq_get C (g := 20) (j := 0) (ci := 8) (k := 21) (v := .ref (al Z 36 0)) (qm (by decide) (by decide)) rfl rfl in_M (by decide) w_682 rfl d_M_asked_39 ?_
        refine gq_iload_n C d_M_asked_42 rfl ?_
        refine gq_iald C (g := 36) (j := 0) (a := t) (t0 := 0) (qm (by decide) (by decide)) rfl rfl rfl ht (by decide) d_M_asked_43 ?_
        refine gq_aload_n C d_M_asked_44 rfl ?_
        refine gq_get C (g := 20) (j := 0) (ci := 8) (k := 14) (v := .int (V 20 0 14)) (qm (by decide) (by decide)) rfl rfl in_M (by decide) w_675 rfl d_M_asked_45 ?_
        refine gq_icmp_lt C (tgt := 58) d_M_asked_48 rfl (fun hb48 => ?_) (fun hb48 => ?_)
        · skip
          refine gq_iconst C (v := 0) d_M_asked_58 (by decide) ?_
          refine gq_istore_n C (lo' := [(3, .int 0), (0, .ref (al Z 20 0)), (1, .int (nI t)), (2, .int a)]) d_M_asked_59 rfl (by decide) rfl ?_
          refine gq_aload_n C d_M_asked_60 rfl ?_
          refine gq_get C (g := 20) (j := 0) (ci := 8) (k := 15) (v := .int (V 20 0 15)) (qm (by decide) (by decide)) rfl rfl in_M (by decide) w_676 rfl d_M_asked_61 ?_
          refine gq_if_ne C (tgt := 81) d_M_asked_64 rfl (fun hb64 => ?_) (fun hb64 => ?_)
          · skip
            exact gq_vretE C hr (by first | contradiction | (unfold g_asked g_asked1 g_bookFor g_wake; simp [*, qv_at])) rfl (by decide) (by decide) d_M_asked_81
          · skip
            refine gq_iload_n C d_M_asked_67 rfl ?_
            refine gq_aload_n C d_M_asked_68 rfl ?_
            refine gq_get C (g := 20) (j := 0) (ci := 8) (k := 17) (v := .ref (al Z 32 0)) (qm (by decide) (by decide)) rfl rfl in_M (by decide) w_678 rfl d_M_asked_69 ?_
            refine gq_iload_n C d_M_asked_72 rfl ?_
            refine gq_iald C (g := 32) (j := 0) (a := t) (t0 := 0) (qm (by decide) (by decide)) rfl rfl rfl ht (by decide) d_M_asked_73 ?_
            refine gq_icmp_lt C (tgt := 81) d_M_asked_74 rfl (fun hb74 => ?_) (fun hb74 => ?_)
            · skip
              exact gq_vretE C hr (by first | contradiction | (unfold g_asked g_asked1 g_bookFor g_wake; simp [*, qv_at])) rfl (by decide) (by decide) d_M_asked_81
            · skip
              refine gq_iload_n C d_M_asked_77 rfl ?_
              refine gq_if_ne C (tgt := 82) d_M_asked_78 rfl (fun hb => by exact absurd hb (by decide)) (fun hb78 => ?_)
              exact gq_vretE C hr (by first | contradiction | (unfold g_asked g_asked1 g_bookFor g_wake; simp [*, qv_at])) rfl (by decide) (by decide) d_M_asked_81
        · skip
          refine gq_aload_n C d_M_asked_51 rfl ?_
          refine gq_get C (g := 20) (j := 0) (ci := 8) (k := 14) (v := .int (V 20 0 14)) (qm (by decide) (by decide)) rfl rfl in_M (by decide) w_675 rfl d_M_asked_52 ?_
          refine gq_goto C (tgt := 59) d_M_asked_55 rfl ?_
          refine gq_istore_n C (lo' := [(3, .int (V 20 0 14)), (0, .ref (al Z 20 0)), (1, .int (nI t)), (2, .int a)]) d_M_asked_59 rfl (by decide) rfl ?_
          refine gq_aload_n C d_M_asked_60 rfl ?_
          refine gq_get C (g := 20) (j := 0) (ci := 8) (k := 15) (v := .int (V 20 0 15)) (qm (by decide) (by decide)) rfl rfl in_M (by decide) w_676 rfl d_M_asked_61 ?_
          refine gq_if_ne C (tgt := 81) d_M_asked_64 rfl (fun hb64 => ?_) (fun hb64 => ?_)
          · skip
            exact gq_vretE C hr (by first | contradiction | (unfold g_asked g_asked1 g_bookFor g_wake; simp [*, qv_at])) rfl (by decide) (by decide) d_M_asked_81
          · skip
            refine gq_iload_n C d_M_asked_67 rfl ?_
            refine gq_aload_n C d_M_asked_68 rfl ?_
            refine gq_get C (g := 20) (j := 0) (ci := 8) (k := 17) (v := .ref (al Z 32 0)) (qm (by decide) (by decide)) rfl rfl in_M (by decide) w_678 rfl d_M_asked_69 ?_
            refine gq_iload_n C d_M_asked_72 rfl ?_
            refine gq_iald C (g := 32) (j := 0) (a := t) (t0 := 0) (qm (by decide) (by decide)) rfl rfl rfl ht (by decide) d_M_asked_73 ?_
            refine gq_icmp_lt C (tgt := 81) d_M_asked_74 rfl (fun hb74 => ?_) (fun hb74 => ?_)
            · skip
              exact gq_vretE C hr (by first | contradiction | (unfold g_asked g_asked1 g_bookFor g_wake; simp [*, qv_at])) rfl (by decide) (by decide) d_M_asked_81
            · skip
              refine gq_iload_n C d_M_asked_77 rfl ?_
              refine gq_if_ne C (tgt := 82) d_M_asked_78 rfl (fun hb78 => ?_) (fun hb78 => ?_)
              · skip
                refine gq_aload_n C d_M_asked_82 rfl ?_
                refine gq_get C (g := 20) (j := 0) (ci := 8) (k := 17) (v := .ref (al Z 32 0)) (qm (by decide) (by decide)) rfl rfl in_M (by decide) w_678 rfl d_M_asked_83 ?_
                refine gq_iload_n C d_M_asked_86 rfl ?_
                refine gq_iload_n C d_M_asked_87 rfl ?_
                refine gq_iast C (fun _ h => h) (g := 32) (j := 0) (a := t) (t0 := 0) (qm (by decide) (by decide)) (fun _ => rfl) rfl rfl ht (by decide) d_M_asked_88 ?_
                refine gq_aload_n C d_M_asked_89 rfl ?_
                refine gq_get C (g := 20) (j := 0) (ci := 8) (k := 19) (v := .ref (al Z 34 0)) (qm (by decide) (by decide)) rfl rfl in_M (by decide) w_680 rfl d_M_asked_90 ?_
                refine gq_iload_n C d_M_asked_93 rfl ?_
                refine gq_iload_n C d_M_asked_94 rfl ?_
                refine gq_iast C (fun _ h => h) (g := 34) (j := 0) (a := t) (t0 := 0) (qm (by decide) (by decide)) (fun _ => rfl) rfl rfl ht (by decide) d_M_asked_95 ?_
                refine gq_aload_n C d_M_asked_96 rfl ?_
                refine gq_get C (g := 20) (j := 0) (ci := 8) (k := 20) (v := .ref (al Z 35 0)) (qm (by decide) (by decide)) rfl rfl in_M (by decide) w_681 rfl d_M_asked_97 ?_
                refine gq_iload_n C d_M_asked_100 rfl ?_
                refine gq_aload_n C d_M_asked_101 rfl ?_
                refine gq_iconst C (v := 4) d_M_asked_102 (by decide) ?_
                refine gq_callV C (st := [.int (nI t), .ref (al Z 35 0)]) (fun _ h => h.elim) (c_M_clock l Z hZ _ _ 4 (by decide)) (qm (by decide) (by decide)) rfl rfl w_785 w_787 ws_M_clock w_788 w_9 ⟨by decide, by decide, (by decide +kernel : (parseMethodDescriptor y_M_clock.desc).map (fun d => d.parameters.length) = some 1)⟩ ⟨by decide, by decide⟩ ⟨by decide, by decide⟩ rfl (Nat.le_of_ble_eq_true rfl) d_M_asked_103 ?_
                refine G.eqS (st' := [.int ((V 24 0 4) / 100), .int (nI t), .ref (al Z 35 0)]) rfl ?_
                refine gq_iast C (fun _ h => h) (g := 35) (j := 0) (a := t) (t0 := 0) (qm (by decide) (by decide)) (fun _ => rfl) rfl rfl ht (by decide) d_M_asked_106 ?_
                refine gq_aload_n C d_M_asked_107 rfl ?_
                refine gq_get C (g := 20) (j := 0) (ci := 8) (k := 18) (v := .ref (al Z 33 0)) (qm (by decide) (by decide)) rfl rfl in_M (by decide) w_679 rfl d_M_asked_108 ?_
                refine gq_iload_n C d_M_asked_111 rfl ?_
                refine gq_iconst C (v := 1) d_M_asked_112 (by decide) ?_
                refine gq_zast C (fun _ h => h) (g := 33) (j := 0) (a := t) (t0 := 2) (qm (by decide) (by decide)) (fun _ => rfl) rfl rfl ht (by decide) rfl d_M_asked_113 ?_
                refine gq_aload_n C d_M_asked_114 rfl ?_
                refine gq_iconst C (v := 2) d_M_asked_115 (by decide) ?_
                refine gq_iload_n C d_M_asked_116 rfl ?_
                refine gq_iload_n C d_M_asked_117 rfl ?_
                refine gq_iload_n C d_M_asked_118 rfl ?_
                refine gq_callV C (st := []) (fun _ h => h) (c_M_put l Z hZ _ _ (g_cnt2 hc (by simp [qv_at])) 2 (nI t) (V 20 0 14) a) (qm (by decide) (by decide)) rfl rfl w_773 w_775 ws_M_post w_776 w_9 ⟨by decide, by decide, (by decide +kernel : (parseMethodDescriptor y_M_post.desc).map (fun d => d.parameters.length) = some 4)⟩ ⟨by decide, by decide⟩ ⟨by decide, by decide⟩ rfl (Nat.le_of_ble_eq_true rfl) d_M_asked_119 ?_
                exact gq_vretE C hr (by first | contradiction | (unfold g_asked g_asked1 g_bookFor g_wake; simp [*, qv_at])) rfl (by decide) (by decide) d_M_asked_122
              · skip
                exact gq_vretE C hr (by first | contradiction | (unfold g_asked g_asked1 g_bookFor g_wake; simp [*, qv_at])) rfl (by decide) (by decide) d_M_asked_81
      · skip
        refine gq_aload_n C d_M_asked_31 rfl ?_
        refine gq_get C (g := 20) (j := 0) (ci := 8) (k := 13) (v := .int (V 20 0 13)) (qm (by decide) (by decide)) rfl rfl in_M (by decide) w_674 rfl d_M_asked_32 ?_
        refine gq_goto C (tgt := 59) d_M_asked_35 rfl ?_
        refine gq_istore_n C (lo' := [(3, .int (V 20 0 13)), (0, .ref (al Z 20 0)), (1, .int (nI t)), (2, .int a)]) d_M_asked_59 rfl (by decide) rfl ?_
        refine gq_aload_n C d_M_asked_60 rfl ?_
        refine gq_get C (g := 20) (j := 0) (ci := 8) (k := 15) (v := .int (V 20 0 15)) (qm (by decide) (by decide)) rfl rfl in_M (by decide) w_676 rfl d_M_asked_61 ?_
        refine gq_if_ne C (tgt := 81) d_M_asked_64 rfl (fun hb64 => ?_) (fun hb64 => ?_)
        · skip
          exact gq_vretE C hr (by first | contradiction | (unfold g_asked g_asked1 g_bookFor g_wake; simp [*, qv_at])) rfl (by decide) (by decide) d_M_asked_81
        · skip
          refine gq_iload_n C d_M_asked_67 rfl ?_
          refine gq_aload_n C d_M_asked_68 rfl ?_
          refine gq_get C (g := 20) (j := 0) (ci := 8) (k := 17) (v := .ref (al Z 32 0)) (qm (by decide) (by decide)) rfl rfl in_M (by decide) w_678 rfl d_M_asked_69 ?_
          refine gq_iload_n C d_M_asked_72 rfl ?_
          refine gq_iald C (g := 32) (j := 0) (a := t) (t0 := 0) (qm (by decide) (by decide)) rfl rfl rfl ht (by decide) d_M_asked_73 ?_
          refine gq_icmp_lt C (tgt := 81) d_M_asked_74 rfl (fun hb74 => ?_) (fun hb74 => ?_)
          · skip
            exact gq_vretE C hr (by first | contradiction | (unfold g_asked g_asked1 g_bookFor g_wake; simp [*, qv_at])) rfl (by decide) (by decide) d_M_asked_81
          · skip
            refine gq_iload_n C d_M_asked_77 rfl ?_
            refine gq_if_ne C (tgt := 82) d_M_asked_78 rfl (fun hb78 => ?_) (fun hb78 => ?_)
            · skip
              refine gq_aload_n C d_M_asked_82 rfl ?_
              refine gq_get C (g := 20) (j := 0) (ci := 8) (k := 17) (v := .ref (al Z 32 0)) (qm (by decide) (by decide)) rfl rfl in_M (by decide) w_678 rfl d_M_asked_83 ?_
              refine gq_iload_n C d_M_asked_86 rfl ?_
              refine gq_iload_n C d_M_asked_87 rfl ?_
              refine gq_iast C (fun _ h => h) (g := 32) (j := 0) (a := t) (t0 := 0) (qm (by decide) (by decide)) (fun _ => rfl) rfl rfl ht (by decide) d_M_asked_88 ?_
              refine gq_aload_n C d_M_asked_89 rfl ?_
              refine gq_get C (g := 20) (j := 0) (ci := 8) (k := 19) (v := .ref (al Z 34 0)) (qm (by decide) (by decide)) rfl rfl in_M (by decide) w_680 rfl d_M_asked_90 ?_
              refine gq_iload_n C d_M_asked_93 rfl ?_
              refine gq_iload_n C d_M_asked_94 rfl ?_
              refine gq_iast C (fun _ h => h) (g := 34) (j := 0) (a := t) (t0 := 0) (qm (by decide) (by decide)) (fun _ => rfl) rfl rfl ht (by decide) d_M_asked_95 ?_
              refine gq_aload_n C d_M_asked_96 rfl ?_
              refine gq_get C (g := 20) (j := 0) (ci := 8) (k := 20) (v := .ref (al Z 35 0)) (qm (by decide) (by decide)) rfl rfl in_M (by decide) w_681 rfl d_M_asked_97 ?_
              refine gq_iload_n C d_M_asked_100 rfl ?_
              refine gq_aload_n C d_M_asked_101 rfl ?_
              refine gq_iconst C (v := 4) d_M_asked_102 (by decide) ?_
              refine gq_callV C (st := [.int (nI t), .ref (al Z 35 0)]) (fun _ h => h.elim) (c_M_clock l Z hZ _ _ 4 (by decide)) (qm (by decide) (by decide)) rfl rfl w_785 w_787 ws_M_clock w_788 w_9 ⟨by decide, by decide, (by decide +kernel : (parseMethodDescriptor y_M_clock.desc).map (fun d => d.parameters.length) = some 1)⟩ ⟨by decide, by decide⟩ ⟨by decide, by decide⟩ rfl (Nat.le_of_ble_eq_true rfl) d_M_asked_103 ?_
              refine G.eqS (st' := [.int ((V 24 0 4) / 100), .int (nI t), .ref (al Z 35 0)]) rfl ?_
              refine gq_iast C (fun _ h => h) (g := 35) (j := 0) (a := t) (t0 := 0) (qm (by decide) (by decide)) (fun _ => rfl) rfl rfl ht (by decide) d_M_asked_106 ?_
              refine gq_aload_n C d_M_asked_107 rfl ?_
              refine gq_get C (g := 20) (j := 0) (ci := 8) (k := 18) (v := .ref (al Z 33 0)) (qm (by decide) (by decide)) rfl rfl in_M (by decide) w_679 rfl d_M_asked_108 ?_
              refine gq_iload_n C d_M_asked_111 rfl ?_
              refine gq_iconst C (v := 1) d_M_asked_112 (by decide) ?_
              refine gq_zast C (fun _ h => h) (g := 33) (j := 0) (a := t) (t0 := 2) (qm (by decide) (by decide)) (fun _ => rfl) rfl rfl ht (by decide) rfl d_M_asked_113 ?_
              refine gq_aload_n C d_M_asked_114 rfl ?_
              refine gq_iconst C (v := 2) d_M_asked_115 (by decide) ?_
              refine gq_iload_n C d_M_asked_116 rfl ?_
              refine gq_iload_n C d_M_asked_117 rfl ?_
              refine gq_iload_n C d_M_asked_118 rfl ?_
              refine gq_callV C (st := []) (fun _ h => h) (c_M_put l Z hZ _ _ (g_cnt2 hc (by simp [qv_at])) 2 (nI t) (V 20 0 13) a) (qm (by decide) (by decide)) rfl rfl w_773 w_775 ws_M_post w_776 w_9 ⟨by decide, by decide, (by decide +kernel : (parseMethodDescriptor y_M_post.desc).map (fun d => d.parameters.length) = some 4)⟩ ⟨by decide, by decide⟩ ⟨by decide, by decide⟩ rfl (Nat.le_of_ble_eq_true rfl) d_M_asked_119 ?_
              exact gq_vretE C hr (by first | contradiction | (unfold g_asked g_asked1 g_bookFor g_wake; simp [*, qv_at])) rfl (by decide) (by decide) d_M_asked_122
            · skip
              exact gq_vretE C hr (by first | contradiction | (unfold g_asked g_asked1 g_bookFor g_wake; simp [*, qv_at])) rfl (by decide) (by decide) d_M_asked_81
    · skip
      refine gq_aload_n C d_M_asked_19 rfl ?_
      refine gq_iconst C (v := 0) d_M_asked_20 (by decide) ?_
      refine gq_put C (fun _ h => h) (g := 20) (j := 0) (ci := 8) (k := 15) ft_M k_M n_M (qm (by decide) (by decide)) rfl rfl in_M (by decide) w_676 rfl (k_M 15 (by decide)) rfl rfl (Nat.le_of_ble_eq_true rfl) rfl d_M_asked_21 ?_
      refine gq_aload_n C d_M_asked_24 rfl ?_
      refine gq_get C (g := 20) (j := 0) (ci := 8) (k := 14) (v := .int (V 20 0 14)) (qm (by decide) (by decide)) rfl rfl in_M (by decide) w_675 rfl d_M_asked_25 ?_
      refine gq_if_ne C (tgt := 38) d_M_asked_28 rfl (fun hb28 => ?_) (fun hb28 => ?_)
      · skip
        refine gq_aload_n C d_M_asked_38 rfl ?_
        refine gq_get C (g := 20) (j := 0) (ci := 8) (k := 21) (v := .ref (al Z 36 0)) (qm (by decide) (by decide)) rfl rfl in_M (by decide) w_682 rfl d_M_asked_39 ?_
        refine gq_iload_n C d_M_asked_42 rfl ?_
        refine gq_iald C (g := 36) (j := 0) (a := t) (t0 := 0) (qm (by decide) (by decide)) rfl rfl rfl ht (by decide) d_M_asked_43 ?_
        refine G.eqS (st' := [.int (V 36 0 t)]) rfl ?_
        refine gq_aload_n C d_M_asked_44 rfl ?_
        refine gq_get C (g := 20) (j := 0) (ci := 8) (k := 14) (v := .int (V 20 0 14)) (qm (by decide) (by decide)) rfl rfl in_M (by decide) w_675 rfl d_M_asked_45 ?_
        refine gq_icmp_lt C (tgt := 58) d_M_asked_48 rfl (fun hb48 => ?_) (fun hb48 => ?_)
        · skip
          refine gq_iconst C (v := 0) d_M_asked_58 (by decide) ?_
          refine gq_istore_n C (lo' := [(3, .int 0), (0, .ref (al Z 20 0)), (1, .int (nI t)), (2, .int a)]) d_M_asked_59 rfl (by decide) rfl ?_
          refine gq_aload_n C d_M_asked_60 rfl ?_
          refine gq_get C (g := 20) (j := 0) (ci := 8) (k := 15) (v := .int 0) (qm (by decide) (by decide)) rfl rfl in_M (by decide) w_676 rfl d_M_asked_61 ?_
          refine gq_if_ne C (tgt := 81) d_M_asked_64 rfl (fun hb => by exact absurd hb (by decide)) (fun hb64 => ?_)
          refine gq_iload_n C d_M_asked_67 rfl ?_
          refine gq_aload_n C d_M_asked_68 rfl ?_
          refine gq_get C (g := 20) (j := 0) (ci := 8) (k := 17) (v := .ref (al Z 32 0)) (qm (by decide) (by decide)) rfl rfl in_M (by decide) w_678 rfl d_M_asked_69 ?_
          refine gq_iload_n C d_M_asked_72 rfl ?_
          refine gq_iald C (g := 32) (j := 0) (a := t) (t0 := 0) (qm (by decide) (by decide)) rfl rfl rfl ht (by decide) d_M_asked_73 ?_
          refine G.eqS (st' := [.int (V 32 0 t), .int a]) rfl ?_
          refine gq_icmp_lt C (tgt := 81) d_M_asked_74 rfl (fun hb74 => ?_) (fun hb74 => ?_)
          · skip
            exact gq_vretE C hr (by first | contradiction | (unfold g_asked g_asked1 g_bookFor g_wake; simp [*, qv_at])) rfl (by decide) (by decide) d_M_asked_81
          · skip
            refine gq_iload_n C d_M_asked_77 rfl ?_
            refine gq_if_ne C (tgt := 82) d_M_asked_78 rfl (fun hb => by exact absurd hb (by decide)) (fun hb78 => ?_)
            exact gq_vretE C hr (by first | contradiction | (unfold g_asked g_asked1 g_bookFor g_wake; simp [*, qv_at])) rfl (by decide) (by decide) d_M_asked_81
        · skip
          refine gq_aload_n C d_M_asked_51 rfl ?_
          refine gq_get C (g := 20) (j := 0) (ci := 8) (k := 14) (v := .int (V 20 0 14)) (qm (by decide) (by decide)) rfl rfl in_M (by decide) w_675 rfl d_M_asked_52 ?_
          refine gq_goto C (tgt := 59) d_M_asked_55 rfl ?_
          refine gq_istore_n C (lo' := [(3, .int (V 20 0 14)), (0, .ref (al Z 20 0)), (1, .int (nI t)), (2, .int a)]) d_M_asked_59 rfl (by decide) rfl ?_
          refine gq_aload_n C d_M_asked_60 rfl ?_
          refine gq_get C (g := 20) (j := 0) (ci := 8) (k := 15) (v := .int 0) (qm (by decide) (by decide)) rfl rfl in_M (by decide) w_676 rfl d_M_asked_61 ?_
          refine gq_if_ne C (tgt := 81) d_M_asked_64 rfl (fun hb => by exact absurd hb (by decide)) (fun hb64 => ?_)
          refine gq_iload_n C d_M_asked_67 rfl ?_
          refine gq_aload_n C d_M_asked_68 rfl ?_
          refine gq_get C (g := 20) (j := 0) (ci := 8) (k := 17) (v := .ref (al Z 32 0)) (qm (by decide) (by decide)) rfl rfl in_M (by decide) w_678 rfl d_M_asked_69 ?_
          refine gq_iload_n C d_M_asked_72 rfl ?_
          refine gq_iald C (g := 32) (j := 0) (a := t) (t0 := 0) (qm (by decide) (by decide)) rfl rfl rfl ht (by decide) d_M_asked_73 ?_
          refine G.eqS (st' := [.int (V 32 0 t), .int a]) rfl ?_
          refine gq_icmp_lt C (tgt := 81) d_M_asked_74 rfl (fun hb74 => ?_) (fun hb74 => ?_)
          · skip
            exact gq_vretE C hr (by first | contradiction | (unfold g_asked g_asked1 g_bookFor g_wake; simp [*, qv_at])) rfl (by decide) (by decide) d_M_asked_81
          · skip
            refine gq_iload_n C d_M_asked_77 rfl ?_
            refine gq_if_ne C (tgt := 82) d_M_asked_78 rfl (fun hb78 => ?_) (fun hb78 => ?_)
            · skip
              refine gq_aload_n C d_M_asked_82 rfl ?_
              refine gq_get C (g := 20) (j := 0) (ci := 8) (k := 17) (v := .ref (al Z 32 0)) (qm (by decide) (by decide)) rfl rfl in_M (by decide) w_678 rfl d_M_asked_83 ?_
              refine gq_iload_n C d_M_asked_86 rfl ?_
              refine gq_iload_n C d_M_asked_87 rfl ?_
              refine gq_iast C (fun _ h => h) (g := 32) (j := 0) (a := t) (t0 := 0) (qm (by decide) (by decide)) (fun _ => rfl) rfl rfl ht (by decide) d_M_asked_88 ?_
              refine gq_aload_n C d_M_asked_89 rfl ?_
              refine gq_get C (g := 20) (j := 0) (ci := 8) (k := 19) (v := .ref (al Z 34 0)) (qm (by decide) (by decide)) rfl rfl in_M (by decide) w_680 rfl d_M_asked_90 ?_
              refine gq_iload_n C d_M_asked_93 rfl ?_
              refine gq_iload_n C d_M_asked_94 rfl ?_
              refine gq_iast C (fun _ h => h) (g := 34) (j := 0) (a := t) (t0 := 0) (qm (by decide) (by decide)) (fun _ => rfl) rfl rfl ht (by decide) d_M_asked_95 ?_
              refine gq_aload_n C d_M_asked_96 rfl ?_
              refine gq_get C (g := 20) (j := 0) (ci := 8) (k := 20) (v := .ref (al Z 35 0)) (qm (by decide) (by decide)) rfl rfl in_M (by decide) w_681 rfl d_M_asked_97 ?_
              refine gq_iload_n C d_M_asked_100 rfl ?_
              refine gq_aload_n C d_M_asked_101 rfl ?_
              refine gq_iconst C (v := 4) d_M_asked_102 (by decide) ?_
              refine gq_callV C (st := [.int (nI t), .ref (al Z 35 0)]) (fun _ h => h.elim) (c_M_clock l Z hZ _ _ 4 (by decide)) (qm (by decide) (by decide)) rfl rfl w_785 w_787 ws_M_clock w_788 w_9 ⟨by decide, by decide, (by decide +kernel : (parseMethodDescriptor y_M_clock.desc).map (fun d => d.parameters.length) = some 1)⟩ ⟨by decide, by decide⟩ ⟨by decide, by decide⟩ rfl (Nat.le_of_ble_eq_true rfl) d_M_asked_103 ?_
              refine G.eqS (st' := [.int ((V 24 0 4) / 100), .int (nI t), .ref (al Z 35 0)]) rfl ?_
              refine gq_iast C (fun _ h => h) (g := 35) (j := 0) (a := t) (t0 := 0) (qm (by decide) (by decide)) (fun _ => rfl) rfl rfl ht (by decide) d_M_asked_106 ?_
              refine gq_aload_n C d_M_asked_107 rfl ?_
              refine gq_get C (g := 20) (j := 0) (ci := 8) (k := 18) (v := .ref (al Z 33 0)) (qm (by decide) (by decide)) rfl rfl in_M (by decide) w_679 rfl d_M_asked_108 ?_
              refine gq_iload_n C d_M_asked_111 rfl ?_
              refine gq_iconst C (v := 1) d_M_asked_112 (by decide) ?_
              refine gq_zast C (fun _ h => h) (g := 33) (j := 0) (a := t) (t0 := 2) (qm (by decide) (by decide)) (fun _ => rfl) rfl rfl ht (by decide) rfl d_M_asked_113 ?_
              refine gq_aload_n C d_M_asked_114 rfl ?_
              refine gq_iconst C (v := 2) d_M_asked_115 (by decide) ?_
              refine gq_iload_n C d_M_asked_116 rfl ?_
              refine gq_iload_n C d_M_asked_117 rfl ?_
              refine gq_iload_n C d_M_asked_118 rfl ?_
              refine gq_callV C (st := []) (fun _ h => h) (c_M_put l Z hZ _ _ (g_cnt2 hc (by simp [qv_at])) 2 (nI t) (V 20 0 14) a) (qm (by decide) (by decide)) rfl rfl w_773 w_775 ws_M_post w_776 w_9 ⟨by decide, by decide, (by decide +kernel : (parseMethodDescriptor y_M_post.desc).map (fun d => d.parameters.length) = some 4)⟩ ⟨by decide, by decide⟩ ⟨by decide, by decide⟩ rfl (Nat.le_of_ble_eq_true rfl) d_M_asked_119 ?_
              exact gq_vretE C hr (by first | contradiction | (unfold g_asked g_asked1 g_bookFor g_wake; simp [*, qv_at])) rfl (by decide) (by decide) d_M_asked_122
            · skip
              exact gq_vretE C hr (by first | contradiction | (unfold g_asked g_asked1 g_bookFor g_wake; simp [*, qv_at])) rfl (by decide) (by decide) d_M_asked_81
      · skip
        refine gq_aload_n C d_M_asked_31 rfl ?_
        refine gq_get C (g := 20) (j := 0) (ci := 8) (k := 13) (v := .int (V 20 0 13)) (qm (by decide) (by decide)) rfl rfl in_M (by decide) w_674 rfl d_M_asked_32 ?_
        refine gq_goto C (tgt := 59) d_M_asked_35 rfl ?_
        refine gq_istore_n C (lo' := [(3, .int (V 20 0 13)), (0, .ref (al Z 20 0)), (1, .int (nI t)), (2, .int a)]) d_M_asked_59 rfl (by decide) rfl ?_
        refine gq_aload_n C d_M_asked_60 rfl ?_
        refine gq_get C (g := 20) (j := 0) (ci := 8) (k := 15) (v := .int 0) (qm (by decide) (by decide)) rfl rfl in_M (by decide) w_676 rfl d_M_asked_61 ?_
        refine gq_if_ne C (tgt := 81) d_M_asked_64 rfl (fun hb => by exact absurd hb (by decide)) (fun hb64 => ?_)
        refine gq_iload_n C d_M_asked_67 rfl ?_
        refine gq_aload_n C d_M_asked_68 rfl ?_
        refine gq_get C (g := 20) (j := 0) (ci := 8) (k := 17) (v := .ref (al Z 32 0)) (qm (by decide) (by decide)) rfl rfl in_M (by decide) w_678 rfl d_M_asked_69 ?_
        refine gq_iload_n C d_M_asked_72 rfl ?_
        refine gq_iald C (g := 32) (j := 0) (a := t) (t0 := 0) (qm (by decide) (by decide)) rfl rfl rfl ht (by decide) d_M_asked_73 ?_
        refine G.eqS (st' := [.int (V 32 0 t), .int a]) rfl ?_
        refine gq_icmp_lt C (tgt := 81) d_M_asked_74 rfl (fun hb74 => ?_) (fun hb74 => ?_)
        · skip
          exact gq_vretE C hr (by first | contradiction | (unfold g_asked g_asked1 g_bookFor g_wake; simp [*, qv_at])) rfl (by decide) (by decide) d_M_asked_81
        · skip
          refine gq_iload_n C d_M_asked_77 rfl ?_
          refine gq_if_ne C (tgt := 82) d_M_asked_78 rfl (fun hb78 => ?_) (fun hb78 => ?_)
          · skip
            refine gq_aload_n C d_M_asked_82 rfl ?_
            refine gq_get C (g := 20) (j := 0) (ci := 8) (k := 17) (v := .ref (al Z 32 0)) (qm (by decide) (by decide)) rfl rfl in_M (by decide) w_678 rfl d_M_asked_83 ?_
            refine gq_iload_n C d_M_asked_86 rfl ?_
            refine gq_iload_n C d_M_asked_87 rfl ?_
            refine gq_iast C (fun _ h => h) (g := 32) (j := 0) (a := t) (t0 := 0) (qm (by decide) (by decide)) (fun _ => rfl) rfl rfl ht (by decide) d_M_asked_88 ?_
            refine gq_aload_n C d_M_asked_89 rfl ?_
            refine gq_get C (g := 20) (j := 0) (ci := 8) (k := 19) (v := .ref (al Z 34 0)) (qm (by decide) (by decide)) rfl rfl in_M (by decide) w_680 rfl d_M_asked_90 ?_
            refine gq_iload_n C d_M_asked_93 rfl ?_
            refine gq_iload_n C d_M_asked_94 rfl ?_
            refine gq_iast C (fun _ h => h) (g := 34) (j := 0) (a := t) (t0 := 0) (qm (by decide) (by decide)) (fun _ => rfl) rfl rfl ht (by decide) d_M_asked_95 ?_
            refine gq_aload_n C d_M_asked_96 rfl ?_
            refine gq_get C (g := 20) (j := 0) (ci := 8) (k := 20) (v := .ref (al Z 35 0)) (qm (by decide) (by decide)) rfl rfl in_M (by decide) w_681 rfl d_M_asked_97 ?_
            refine gq_iload_n C d_M_asked_100 rfl ?_
            refine gq_aload_n C d_M_asked_101 rfl ?_
            refine gq_iconst C (v := 4) d_M_asked_102 (by decide) ?_
            refine gq_callV C (st := [.int (nI t), .ref (al Z 35 0)]) (fun _ h => h.elim) (c_M_clock l Z hZ _ _ 4 (by decide)) (qm (by decide) (by decide)) rfl rfl w_785 w_787 ws_M_clock w_788 w_9 ⟨by decide, by decide, (by decide +kernel : (parseMethodDescriptor y_M_clock.desc).map (fun d => d.parameters.length) = some 1)⟩ ⟨by decide, by decide⟩ ⟨by decide, by decide⟩ rfl (Nat.le_of_ble_eq_true rfl) d_M_asked_103 ?_
            refine G.eqS (st' := [.int ((V 24 0 4) / 100), .int (nI t), .ref (al Z 35 0)]) rfl ?_
            refine gq_iast C (fun _ h => h) (g := 35) (j := 0) (a := t) (t0 := 0) (qm (by decide) (by decide)) (fun _ => rfl) rfl rfl ht (by decide) d_M_asked_106 ?_
            refine gq_aload_n C d_M_asked_107 rfl ?_
            refine gq_get C (g := 20) (j := 0) (ci := 8) (k := 18) (v := .ref (al Z 33 0)) (qm (by decide) (by decide)) rfl rfl in_M (by decide) w_679 rfl d_M_asked_108 ?_
            refine gq_iload_n C d_M_asked_111 rfl ?_
            refine gq_iconst C (v := 1) d_M_asked_112 (by decide) ?_
            refine gq_zast C (fun _ h => h) (g := 33) (j := 0) (a := t) (t0 := 2) (qm (by decide) (by decide)) (fun _ => rfl) rfl rfl ht (by decide) rfl d_M_asked_113 ?_
            refine gq_aload_n C d_M_asked_114 rfl ?_
            refine gq_iconst C (v := 2) d_M_asked_115 (by decide) ?_
            refine gq_iload_n C d_M_asked_116 rfl ?_
            refine gq_iload_n C d_M_asked_117 rfl ?_
            refine gq_iload_n C d_M_asked_118 rfl ?_
            refine gq_callV C (st := []) (fun _ h => h) (c_M_put l Z hZ _ _ (g_cnt2 hc (by simp [qv_at])) 2 (nI t) (V 20 0 13) a) (qm (by decide) (by decide)) rfl rfl w_773 w_775 ws_M_post w_776 w_9 ⟨by decide, by decide, (by decide +kernel : (parseMethodDescriptor y_M_post.desc).map (fun d => d.parameters.length) = some 4)⟩ ⟨by decide, by decide⟩ ⟨by decide, by decide⟩ rfl (Nat.le_of_ble_eq_true rfl) d_M_asked_119 ?_
            exact gq_vretE C hr (by first | contradiction | (unfold g_asked g_asked1 g_bookFor g_wake; simp [*, qv_at])) rfl (by decide) (by decide) d_M_asked_122
          · skip
            exact gq_vretE C hr (by first | contradiction | (unfold g_asked g_asked1 g_bookFor g_wake; simp [*, qv_at])) rfl (by decide) (by decide) d_M_asked_81

set_option maxHeartbeats 4000000 in
set_option maxRecDepth 100000 in
theorem c_M_comes0 (l : Launch) (Z : qZ) (hZ : qok (pX Z)) (V : qV) (Y : qY) (t : Nat) (ht : t < 4) (b a : Int32) : CT l y_M_comes { frames := 4, cells := 0, slots := 0, locals := 103 } (pX Z) (qA (pX Z)) [.ref (al Z 20 0), .int 0, .int (nI t), .int b, .int a] V Y (.inl none) (if V 26 0 t = b - 1 then qv V 26 0 t b else V) Y := by
  refine CT.of (cc := b_M_comes) (maxL := 5) (ret := none) hZ (by decide) w_844 (Nat.le_of_ble_eq_true rfl) ?_
  intro p e s m below meth c C hr hex hlt
  refine gq_iload_n C d_M_comes_0 rfl ?_
  refine gq_if_ne C (tgt := 26) d_M_comes_1 rfl (fun hb => by exact absurd hb (by decide)) (fun hb1 => ?_)
  refine gq_aload_n C d_M_comes_4 rfl ?_
  refine gq_get C (g := 20) (j := 0) (ci := 8) (k := 7) (v := .ref (al Z 26 0)) (qm (by decide) (by decide)) rfl rfl in_M (by decide) w_668 rfl d_M_comes_5 ?_
  refine gq_iload_n C d_M_comes_8 rfl ?_
  refine gq_iald C (g := 26) (j := 0) (a := t) (t0 := 0) (qm (by decide) (by decide)) rfl rfl rfl ht (by decide) d_M_comes_9 ?_
  refine gq_iload_n C d_M_comes_10 rfl ?_
  refine gq_iconst C (v := 1) d_M_comes_11 (by decide) ?_
  refine gq_isub C d_M_comes_12 ?_
  refine gq_icmp_ne C (tgt := 122) d_M_comes_13 rfl (fun hb13 => ?_) (fun hb13 => ?_)
  · skip
    exact gq_vretE C hr (by simp [*]) rfl (by decide) (by decide) d_M_comes_122
  · skip
    refine gq_aload_n C d_M_comes_16 rfl ?_
    refine gq_get C (g := 20) (j := 0) (ci := 8) (k := 7) (v := .ref (al Z 26 0)) (qm (by decide) (by decide)) rfl rfl in_M (by decide) w_668 rfl d_M_comes_17 ?_
    refine gq_iload_n C d_M_comes_20 rfl ?_
    refine gq_iload_n C d_M_comes_21 rfl ?_
    refine gq_iast C (fun _ h => h) (g := 26) (j := 0) (a := t) (t0 := 0) (qm (by decide) (by decide)) (fun _ => rfl) rfl rfl ht (by decide) d_M_comes_22 ?_
    refine gq_goto C (tgt := 122) d_M_comes_23 rfl ?_
    exact gq_vretE C hr (by simp [*]) rfl (by decide) (by decide) d_M_comes_122

theorem c_M_comes0e (l : Launch) (Z : qZ) (hZ : qok (pX Z)) (V : qV) (Y : qY) (t : Nat) (ht : t < 4) (b a : Int32) (k u : Int32) (hk : k = 0) (hu : u = nI t) : CT l y_M_comes { frames := 4, cells := 0, slots := 0, locals := 103 } (pX Z) (qA (pX Z)) [.ref (al Z 20 0), .int k, .int u, .int b, .int a] V Y (.inl none) (if V 26 0 t = b - 1 then qv V 26 0 t b else V) Y := by
  subst hk; subst hu
  exact c_M_comes0 l Z hZ V Y t ht b a

set_option maxHeartbeats 4000000 in
set_option maxRecDepth 100000 in
theorem c_M_comes2 (l : Launch) (Z : qZ) (hZ : qok (pX Z)) (V : qV) (Y : qY) (t : Nat) (ht : t < 4) (b a : Int32) : CT l y_M_comes { frames := 4, cells := 0, slots := 0, locals := 103 } (pX Z) (qA (pX Z)) [.ref (al Z 20 0), .int 2, .int (nI t), .int b, .int a] V Y (.inl none) (if a = V 28 0 t ∧ V 29 0 t = 0 then qv V 31 0 t b else V) Y := by
  refine CT.of (cc := b_M_comes) (maxL := 5) (ret := none) hZ (by decide) w_844 (Nat.le_of_ble_eq_true rfl) ?_
  intro p e s m below meth c C hr hex hlt
  refine gq_iload_n C d_M_comes_0 rfl ?_
  refine gq_if_ne C (tgt := 26) d_M_comes_1 rfl (fun hb1 => ?_) (fun hb => by exact absurd hb (by decide))
  refine gq_iload_n C d_M_comes_26 rfl ?_
  refine gq_iconst C (v := 2) d_M_comes_27 (by decide) ?_
  refine gq_icmp_ne C (tgt := 61) d_M_comes_28 rfl (fun hb => by exact absurd hb (by decide)) (fun hb28 => ?_)
  refine gq_iload C d_M_comes_31 rfl ?_
  refine gq_aload_n C d_M_comes_33 rfl ?_
  refine gq_get C (g := 20) (j := 0) (ci := 8) (k := 9) (v := .ref (al Z 28 0)) (qm (by decide) (by decide)) rfl rfl in_M (by decide) w_670 rfl d_M_comes_34 ?_
  refine gq_iload_n C d_M_comes_37 rfl ?_
  refine gq_iald C (g := 28) (j := 0) (a := t) (t0 := 0) (qm (by decide) (by decide)) rfl rfl rfl ht (by decide) d_M_comes_38 ?_
  refine gq_icmp_ne C (tgt := 122) d_M_comes_39 rfl (fun hb39 => ?_) (fun hb39 => ?_)
  · skip
    exact gq_vretE C hr (by simp [*]) rfl (by decide) (by decide) d_M_comes_122
  · skip
    refine gq_aload_n C d_M_comes_42 rfl ?_
    refine gq_get C (g := 20) (j := 0) (ci := 8) (k := 10) (v := .ref (al Z 29 0)) (qm (by decide) (by decide)) rfl rfl in_M (by decide) w_671 rfl d_M_comes_43 ?_
    refine gq_iload_n C d_M_comes_46 rfl ?_
    refine gq_zald C (g := 29) (j := 0) (a := t) (t0 := 2) (qm (by decide) (by decide)) rfl rfl rfl ht (by decide) d_M_comes_47 ?_
    refine gq_if_ne C (tgt := 122) d_M_comes_48 rfl (fun hb48 => ?_) (fun hb48 => ?_)
    · skip
      exact gq_vretE C hr (by simp [*]) rfl (by decide) (by decide) d_M_comes_122
    · skip
      refine gq_aload_n C d_M_comes_51 rfl ?_
      refine gq_get C (g := 20) (j := 0) (ci := 8) (k := 12) (v := .ref (al Z 31 0)) (qm (by decide) (by decide)) rfl rfl in_M (by decide) w_673 rfl d_M_comes_52 ?_
      refine gq_iload_n C d_M_comes_55 rfl ?_
      refine gq_iload_n C d_M_comes_56 rfl ?_
      refine gq_iast C (fun _ h => h) (g := 31) (j := 0) (a := t) (t0 := 0) (qm (by decide) (by decide)) (fun _ => rfl) rfl rfl ht (by decide) d_M_comes_57 ?_
      refine gq_goto C (tgt := 122) d_M_comes_58 rfl ?_
      exact gq_vretE C hr (by simp [*]) rfl (by decide) (by decide) d_M_comes_122

theorem c_M_comes2e (l : Launch) (Z : qZ) (hZ : qok (pX Z)) (V : qV) (Y : qY) (t : Nat) (ht : t < 4) (b a : Int32) (k u : Int32) (hk : k = 2) (hu : u = nI t) : CT l y_M_comes { frames := 4, cells := 0, slots := 0, locals := 103 } (pX Z) (qA (pX Z)) [.ref (al Z 20 0), .int k, .int u, .int b, .int a] V Y (.inl none) (if a = V 28 0 t ∧ V 29 0 t = 0 then qv V 31 0 t b else V) Y := by
  subst hk; subst hu
  exact c_M_comes2 l Z hZ V Y t ht b a

set_option maxHeartbeats 4000000 in
set_option maxRecDepth 100000 in
theorem c_M_comes1 (l : Launch) (Z : qZ) (hZ : qok (pX Z)) (V : qV) (Y : qY) (t : Nat) (ht : t < 4) (b a : Int32) (hc : ∃ q, q ≤ 40 ∧ V 20 0 22 = nI q) : CT l y_M_comes { frames := 4, cells := 0, slots := 0, locals := 103 } (pX Z) (qA (pX Z)) [.ref (al Z 20 0), .int 1, .int (nI t), .int b, .int a] V Y (.inl none) (g_look (g_asked V t a)) Y := by
  refine CT.of (cc := b_M_comes) (maxL := 5) (ret := none) hZ (by decide) w_844 (Nat.le_of_ble_eq_true rfl) ?_
  intro p e s m below meth c C hr hex hlt
  refine gq_iload_n C d_M_comes_0 rfl ?_
  refine gq_if_ne C (tgt := 26) d_M_comes_1 rfl (fun hb1 => ?_) (fun hb => by exact absurd hb (by decide))
  refine gq_iload_n C d_M_comes_26 rfl ?_
  refine gq_iconst C (v := 2) d_M_comes_27 (by decide) ?_
  refine gq_icmp_ne C (tgt := 61) d_M_comes_28 rfl (fun hb28 => ?_) (fun hb => by exact absurd hb (by decide))
  refine gq_iload_n C d_M_comes_61 rfl ?_
  refine gq_iconst C (v := 1) d_M_comes_62 (by decide) ?_
  refine gq_icmp_ne C (tgt := 73) d_M_comes_63 rfl (fun hb => by exact absurd hb (by decide)) (fun hb63 => ?_)
  refine gq_aload_n C d_M_comes_66 rfl ?_
  refine gq_iload_n C d_M_comes_67 rfl ?_
  refine gq_iload C d_M_comes_68 rfl ?_
  refine gq_callV C (st := []) (fun _ h => h) (c_M_asked l Z hZ _ _ t ht a hc) (qm (by decide) (by decide)) rfl rfl w_845 w_847 ws_M_asked w_848 w_9 ⟨by decide, by decide, (by decide +kernel : (parseMethodDescriptor y_M_asked.desc).map (fun d => d.parameters.length) = some 2)⟩ ⟨by decide, by decide⟩ ⟨by decide, by decide⟩ rfl (Nat.le_of_ble_eq_true rfl) d_M_comes_70 ?_
  refine gq_iload_n C d_M_comes_73 rfl ?_
  refine gq_iconst C (v := 3) d_M_comes_74 (by decide) ?_
  refine gq_icmp_ne C (tgt := 95) d_M_comes_75 rfl (fun hb75 => ?_) (fun hb => by exact absurd hb (by decide))
  refine gq_iload_n C d_M_comes_95 rfl ?_
  refine gq_iconst C (v := 4) d_M_comes_96 (by decide) ?_
  refine gq_icmp_ne C (tgt := 118) d_M_comes_97 rfl (fun hb97 => ?_) (fun hb => by exact absurd hb (by decide))
  refine gq_aload_n C d_M_comes_118 rfl ?_
  refine gq_callV C (st := []) (fun _ h => h) (c_M_look l Z hZ _ _) (qm (by decide) (by decide)) rfl rfl w_781 w_783 ws_M_look w_784 w_9 ⟨by decide, by decide, (by decide +kernel : (parseMethodDescriptor y_M_look.desc).map (fun d => d.parameters.length) = some 0)⟩ ⟨by decide, by decide⟩ ⟨by decide, by decide⟩ rfl (Nat.le_of_ble_eq_true rfl) d_M_comes_119 ?_
  exact gq_vretE C hr rfl rfl (by decide) (by decide) d_M_comes_122

theorem c_M_comes1e (l : Launch) (Z : qZ) (hZ : qok (pX Z)) (V : qV) (Y : qY) (t : Nat) (ht : t < 4) (b a : Int32) (hc : ∃ q, q ≤ 40 ∧ V 20 0 22 = nI q) (k u : Int32) (hk : k = 1) (hu : u = nI t) : CT l y_M_comes { frames := 4, cells := 0, slots := 0, locals := 103 } (pX Z) (qA (pX Z)) [.ref (al Z 20 0), .int k, .int u, .int b, .int a] V Y (.inl none) (g_look (g_asked V t a)) Y := by
  subst hk; subst hu
  exact c_M_comes1 l Z hZ V Y t ht b a hc

set_option maxHeartbeats 4000000 in
set_option maxRecDepth 100000 in
theorem c_M_comes3 (l : Launch) (Z : qZ) (hZ : qok (pX Z)) (V : qV) (Y : qY) (t : Nat) (ht : t < 4) (b a : Int32) : CT l y_M_comes { frames := 4, cells := 0, slots := 0, locals := 103 } (pX Z) (qA (pX Z)) [.ref (al Z 20 0), .int 3, .int (nI t), .int b, .int a] V Y (.inl none) (g_look (if b ≤ V 36 0 t then V else qv V 36 0 t b)) Y := by
  refine CT.of (cc := b_M_comes) (maxL := 5) (ret := none) hZ (by decide) w_844 (Nat.le_of_ble_eq_true rfl) ?_
  intro p e s m below meth c C hr hex hlt
  refine gq_iload_n C d_M_comes_0 rfl ?_
  refine gq_if_ne C (tgt := 26) d_M_comes_1 rfl (fun hb1 => ?_) (fun hb => by exact absurd hb (by decide))
  refine gq_iload_n C d_M_comes_26 rfl ?_
  refine gq_iconst C (v := 2) d_M_comes_27 (by decide) ?_
  refine gq_icmp_ne C (tgt := 61) d_M_comes_28 rfl (fun hb28 => ?_) (fun hb => by exact absurd hb (by decide))
  refine gq_iload_n C d_M_comes_61 rfl ?_
  refine gq_iconst C (v := 1) d_M_comes_62 (by decide) ?_
  refine gq_icmp_ne C (tgt := 73) d_M_comes_63 rfl (fun hb63 => ?_) (fun hb => by exact absurd hb (by decide))
  refine gq_iload_n C d_M_comes_73 rfl ?_
  refine gq_iconst C (v := 3) d_M_comes_74 (by decide) ?_
  refine gq_icmp_ne C (tgt := 95) d_M_comes_75 rfl (fun hb => by exact absurd hb (by decide)) (fun hb75 => ?_)
  refine gq_iload_n C d_M_comes_78 rfl ?_
  refine gq_aload_n C d_M_comes_79 rfl ?_
  refine gq_get C (g := 20) (j := 0) (ci := 8) (k := 21) (v := .ref (al Z 36 0)) (qm (by decide) (by decide)) rfl rfl in_M (by decide) w_682 rfl d_M_comes_80 ?_
  refine gq_iload_n C d_M_comes_83 rfl ?_
  refine gq_iald C (g := 36) (j := 0) (a := t) (t0 := 0) (qm (by decide) (by decide)) rfl rfl rfl ht (by decide) d_M_comes_84 ?_
  refine gq_icmp_le C (tgt := 95) d_M_comes_85 rfl (fun hb85 => ?_) (fun hb85 => ?_)
  · skip
    refine gq_iload_n C d_M_comes_95 rfl ?_
    refine gq_iconst C (v := 4) d_M_comes_96 (by decide) ?_
    refine gq_icmp_ne C (tgt := 118) d_M_comes_97 rfl (fun hb97 => ?_) (fun hb => by exact absurd hb (by decide))
    refine gq_aload_n C d_M_comes_118 rfl ?_
    refine gq_callV C (st := []) (fun _ h => h) (c_M_look l Z hZ _ _) (qm (by decide) (by decide)) rfl rfl w_781 w_783 ws_M_look w_784 w_9 ⟨by decide, by decide, (by decide +kernel : (parseMethodDescriptor y_M_look.desc).map (fun d => d.parameters.length) = some 0)⟩ ⟨by decide, by decide⟩ ⟨by decide, by decide⟩ rfl (Nat.le_of_ble_eq_true rfl) d_M_comes_119 ?_
    exact gq_vretE C hr (by simp [*]) rfl (by decide) (by decide) d_M_comes_122
  · skip
    refine gq_aload_n C d_M_comes_88 rfl ?_
    refine gq_get C (g := 20) (j := 0) (ci := 8) (k := 21) (v := .ref (al Z 36 0)) (qm (by decide) (by decide)) rfl rfl in_M (by decide) w_682 rfl d_M_comes_89 ?_
    refine gq_iload_n C d_M_comes_92 rfl ?_
    refine gq_iload_n C d_M_comes_93 rfl ?_
    refine gq_iast C (fun _ h => h) (g := 36) (j := 0) (a := t) (t0 := 0) (qm (by decide) (by decide)) (fun _ => rfl) rfl rfl ht (by decide) d_M_comes_94 ?_
    refine gq_iload_n C d_M_comes_95 rfl ?_
    refine gq_iconst C (v := 4) d_M_comes_96 (by decide) ?_
    refine gq_icmp_ne C (tgt := 118) d_M_comes_97 rfl (fun hb97 => ?_) (fun hb => by exact absurd hb (by decide))
    refine gq_aload_n C d_M_comes_118 rfl ?_
    refine gq_callV C (st := []) (fun _ h => h) (c_M_look l Z hZ _ _) (qm (by decide) (by decide)) rfl rfl w_781 w_783 ws_M_look w_784 w_9 ⟨by decide, by decide, (by decide +kernel : (parseMethodDescriptor y_M_look.desc).map (fun d => d.parameters.length) = some 0)⟩ ⟨by decide, by decide⟩ ⟨by decide, by decide⟩ rfl (Nat.le_of_ble_eq_true rfl) d_M_comes_119 ?_
    exact gq_vretE C hr (by simp [*]) rfl (by decide) (by decide) d_M_comes_122

theorem c_M_comes3e (l : Launch) (Z : qZ) (hZ : qok (pX Z)) (V : qV) (Y : qY) (t : Nat) (ht : t < 4) (b a : Int32) (k u : Int32) (hk : k = 3) (hu : u = nI t) : CT l y_M_comes { frames := 4, cells := 0, slots := 0, locals := 103 } (pX Z) (qA (pX Z)) [.ref (al Z 20 0), .int k, .int u, .int b, .int a] V Y (.inl none) (g_look (if b ≤ V 36 0 t then V else qv V 36 0 t b)) Y := by
  subst hk; subst hu
  exact c_M_comes3 l Z hZ V Y t ht b a

set_option maxHeartbeats 4000000 in
set_option maxRecDepth 100000 in
theorem c_M_comes4 (l : Launch) (Z : qZ) (hZ : qok (pX Z)) (V : qV) (Y : qY) (t : Nat) (ht : t < 4) (b a : Int32) : CT l y_M_comes { frames := 4, cells := 0, slots := 0, locals := 103 } (pX Z) (qA (pX Z)) [.ref (al Z 20 0), .int 4, .int (nI t), .int b, .int a] V Y (.inl none) (g_look (if a = V 32 0 t then qv V 33 0 t 0 else V)) Y := by
  refine CT.of (cc := b_M_comes) (maxL := 5) (ret := none) hZ (by decide) w_844 (Nat.le_of_ble_eq_true rfl) ?_
  intro p e s m below meth c C hr hex hlt
  refine gq_iload_n C d_M_comes_0 rfl ?_
  refine gq_if_ne C (tgt := 26) d_M_comes_1 rfl (fun hb1 => ?_) (fun hb => by exact absurd hb (by decide))
  refine gq_iload_n C d_M_comes_26 rfl ?_
  refine gq_iconst C (v := 2) d_M_comes_27 (by decide) ?_
  refine gq_icmp_ne C (tgt := 61) d_M_comes_28 rfl (fun hb28 => ?_) (fun hb => by exact absurd hb (by decide))
  refine gq_iload_n C d_M_comes_61 rfl ?_
  refine gq_iconst C (v := 1) d_M_comes_62 (by decide) ?_
  refine gq_icmp_ne C (tgt := 73) d_M_comes_63 rfl (fun hb63 => ?_) (fun hb => by exact absurd hb (by decide))
  refine gq_iload_n C d_M_comes_73 rfl ?_
  refine gq_iconst C (v := 3) d_M_comes_74 (by decide) ?_
  refine gq_icmp_ne C (tgt := 95) d_M_comes_75 rfl (fun hb75 => ?_) (fun hb => by exact absurd hb (by decide))
  refine gq_iload_n C d_M_comes_95 rfl ?_
  refine gq_iconst C (v := 4) d_M_comes_96 (by decide) ?_
  refine gq_icmp_ne C (tgt := 118) d_M_comes_97 rfl (fun hb => by exact absurd hb (by decide)) (fun hb97 => ?_)
  refine gq_iload C d_M_comes_100 rfl ?_
  refine gq_aload_n C d_M_comes_102 rfl ?_
  refine gq_get C (g := 20) (j := 0) (ci := 8) (k := 17) (v := .ref (al Z 32 0)) (qm (by decide) (by decide)) rfl rfl in_M (by decide) w_678 rfl d_M_comes_103 ?_
  refine gq_iload_n C d_M_comes_106 rfl ?_
  refine gq_iald C (g := 32) (j := 0) (a := t) (t0 := 0) (qm (by decide) (by decide)) rfl rfl rfl ht (by decide) d_M_comes_107 ?_
  refine gq_icmp_ne C (tgt := 118) d_M_comes_108 rfl (fun hb108 => ?_) (fun hb108 => ?_)
  · skip
    refine gq_aload_n C d_M_comes_118 rfl ?_
    refine gq_callV C (st := []) (fun _ h => h) (c_M_look l Z hZ _ _) (qm (by decide) (by decide)) rfl rfl w_781 w_783 ws_M_look w_784 w_9 ⟨by decide, by decide, (by decide +kernel : (parseMethodDescriptor y_M_look.desc).map (fun d => d.parameters.length) = some 0)⟩ ⟨by decide, by decide⟩ ⟨by decide, by decide⟩ rfl (Nat.le_of_ble_eq_true rfl) d_M_comes_119 ?_
    exact gq_vretE C hr (by simp [*]) rfl (by decide) (by decide) d_M_comes_122
  · skip
    refine gq_aload_n C d_M_comes_111 rfl ?_
    refine gq_get C (g := 20) (j := 0) (ci := 8) (k := 18) (v := .ref (al Z 33 0)) (qm (by decide) (by decide)) rfl rfl in_M (by decide) w_679 rfl d_M_comes_112 ?_
    refine gq_iload_n C d_M_comes_115 rfl ?_
    refine gq_iconst C (v := 0) d_M_comes_116 (by decide) ?_
    refine gq_zast C (fun _ h => h) (g := 33) (j := 0) (a := t) (t0 := 2) (qm (by decide) (by decide)) (fun _ => rfl) rfl rfl ht (by decide) rfl d_M_comes_117 ?_
    refine gq_aload_n C d_M_comes_118 rfl ?_
    refine gq_callV C (st := []) (fun _ h => h) (c_M_look l Z hZ _ _) (qm (by decide) (by decide)) rfl rfl w_781 w_783 ws_M_look w_784 w_9 ⟨by decide, by decide, (by decide +kernel : (parseMethodDescriptor y_M_look.desc).map (fun d => d.parameters.length) = some 0)⟩ ⟨by decide, by decide⟩ ⟨by decide, by decide⟩ rfl (Nat.le_of_ble_eq_true rfl) d_M_comes_119 ?_
    exact gq_vretE C hr (by simp [*]) rfl (by decide) (by decide) d_M_comes_122

theorem c_M_comes4e (l : Launch) (Z : qZ) (hZ : qok (pX Z)) (V : qV) (Y : qY) (t : Nat) (ht : t < 4) (b a : Int32) (k u : Int32) (hk : k = 4) (hu : u = nI t) : CT l y_M_comes { frames := 4, cells := 0, slots := 0, locals := 103 } (pX Z) (qA (pX Z)) [.ref (al Z 20 0), .int k, .int u, .int b, .int a] V Y (.inl none) (g_look (if a = V 32 0 t then qv V 33 0 t 0 else V)) Y := by
  subst hk; subst hu
  exact c_M_comes4 l Z hZ V Y t ht b a

set_option maxHeartbeats 4000000 in
set_option maxRecDepth 100000 in
theorem c_M_remove (l : Launch) (Z : qZ) (hZ : qok (pX Z)) (V : qV) (Y : qY) (i n : Nat) (hi : i < n) (hn : n ≤ 40) (h22 : V 20 0 22 = nI n) : CT l y_M_remove { frames := 1, cells := 0, slots := 0, locals := 40 } (pX Z) (qA (pX Z)) [.ref (al Z 20 0), .int (nI i)] V Y (.inl none) (g_remove V i n) Y := by
  refine CT.of (cc := b_M_remove) (maxL := 3) (ret := none) hZ (by decide) w_840 (Nat.le_of_ble_eq_true rfl) ?_
  intro p e s m below meth c C hr hex hlt
  have loop : ∀ (r k : Nat) (f : Nat → Int32), k + r = 4 * (n - 1) → 4 * i ≤ k → g_shift f r k = g_cut (V 37 0) i n → G p l e { frames := 1, cells := 0, slots := 0, locals := 40 } s m ([.ref (al Z 20 0), .int (nI i)] : List Value).toArray below meth c (qQ below (pX Z) (qA (pX Z)) { frames := 1, cells := 0, slots := 0, locals := 40 } (.inl none) (g_remove V i n) Y s) (pX Z) 3 (qA (pX Z)) (qu (qv V 20 0 22 (nI (n - 1))) 37 0 f) Y 0 0 14 [(2, .int (nI k)), (0, .ref (al Z 20 0)), (1, .int (nI i))] [] := by
    intro r
    induction r with
    | zero =>
      intro k f hk h4 hf
      have hf : f = g_cut (V 37 0) i n := hf
      refine gq_iload_n C d_M_remove_14 rfl ?_
      refine gq_iconst C (v := 4) d_M_remove_15 (by decide) ?_
      refine gq_aload_n C d_M_remove_16 rfl ?_
      refine gq_get C (g := 20) (j := 0) (ci := 8) (k := 22) (v := .int (qu (qv V 20 0 22 (nI (n - 1))) 37 0 f 20 0 22)) (qm (by decide) (by decide)) rfl rfl in_M (by decide) w_683 rfl d_M_remove_17 ?_
      refine G.eqS (st' := [.int (nI (n - 1)), .int 4, .int (nI k)]) (by first | (rw [show qu (qv V 20 0 22 (nI (n - 1))) 37 0 f 20 0 22 = nI (n - 1) from rfl]; done) | (rw [show qu (qv V 20 0 22 (nI (n - 1))) 37 0 f 20 0 22 = nI (n - 1) from rfl]; rfl)) ?_
      refine gq_imul C d_M_remove_20 ?_
      refine G.eqS (st' := [.int (nI (4 * (n - 1))), .int (nI k)]) (by first | (rw [show 4 * (nI (n - 1)) = nI (4 * (n - 1)) from (by rw [show (4 : Int32) = nI 4 from rfl, pk_mul])]; done) | (rw [show 4 * (nI (n - 1)) = nI (4 * (n - 1)) from (by rw [show (4 : Int32) = nI 4 from rfl, pk_mul])]; rfl)) ?_
      refine gq_icmp_ge C (tgt := 44) d_M_remove_21 rfl (fun hb21 => ?_) (fun hb => by exact absurd (nI_le (by omega) (by omega)) hb)
      exact gq_vretE C hr (by rw [hf]; rfl) rfl (by decide) (by decide) d_M_remove_44
    | succ r ih =>
      intro k f hk h4 hf
      refine gq_iload_n C d_M_remove_14 rfl ?_
      refine gq_iconst C (v := 4) d_M_remove_15 (by decide) ?_
      refine gq_aload_n C d_M_remove_16 rfl ?_
      refine gq_get C (g := 20) (j := 0) (ci := 8) (k := 22) (v := .int (qu (qv V 20 0 22 (nI (n - 1))) 37 0 f 20 0 22)) (qm (by decide) (by decide)) rfl rfl in_M (by decide) w_683 rfl d_M_remove_17 ?_
      refine G.eqS (st' := [.int (nI (n - 1)), .int 4, .int (nI k)]) (by first | (rw [show qu (qv V 20 0 22 (nI (n - 1))) 37 0 f 20 0 22 = nI (n - 1) from rfl]; done) | (rw [show qu (qv V 20 0 22 (nI (n - 1))) 37 0 f 20 0 22 = nI (n - 1) from rfl]; rfl)) ?_
      refine gq_imul C d_M_remove_20 ?_
      refine G.eqS (st' := [.int (nI (4 * (n - 1))), .int (nI k)]) (by first | (rw [show 4 * (nI (n - 1)) = nI (4 * (n - 1)) from (by rw [show (4 : Int32) = nI 4 from rfl, pk_mul])]; done) | (rw [show 4 * (nI (n - 1)) = nI (4 * (n - 1)) from (by rw [show (4 : Int32) = nI 4 from rfl, pk_mul])]; rfl)) ?_
      refine gq_icmp_ge C (tgt := 44) d_M_remove_21 rfl (fun hb => by exact absurd hb (nI_ge (by omega) (by omega))) (fun hb21 => ?_)
      refine gq_aload_n C d_M_remove_24 rfl ?_
      refine gq_get C (g := 20) (j := 0) (ci := 8) (k := 23) (v := .ref (al Z 37 0)) (qm (by decide) (by decide)) rfl rfl in_M (by decide) w_684 rfl d_M_remove_25 ?_
      refine gq_iload_n C d_M_remove_28 rfl ?_
      refine gq_aload_n C d_M_remove_29 rfl ?_
      refine gq_get C (g := 20) (j := 0) (ci := 8) (k := 23) (v := .ref (al Z 37 0)) (qm (by decide) (by decide)) rfl rfl in_M (by decide) w_684 rfl d_M_remove_30 ?_
      refine gq_iload_n C d_M_remove_33 rfl ?_
      refine gq_iconst C (v := 4) d_M_remove_34 (by decide) ?_
      refine gq_iadd C d_M_remove_35 ?_
      refine gq_iald C (g := 37) (j := 0) (a := (k + 4)) (t0 := 0) (qm (by decide) (by decide)) rfl rfl (nI_add k 4) (by omega) (by decide) d_M_remove_36 ?_
      refine G.eqS (st' := [.int (f (k + 4)), .int (nI k), .ref (al Z 37 0)]) (by first | (rw [show qu (qv V 20 0 22 (nI (n - 1))) 37 0 f 37 0 (k + 4) = f (k + 4) from rfl]; done) | (rw [show qu (qv V 20 0 22 (nI (n - 1))) 37 0 f 37 0 (k + 4) = f (k + 4) from rfl]; rfl)) ?_
      refine gq_iast C (fun _ h => h) (g := 37) (j := 0) (a := k) (t0 := 0) (qm (by decide) (by decide)) (fun _ => rfl) rfl rfl (by omega) (by decide) d_M_remove_37 ?_
      refine gq_iinc C (k := 0) (w := nI (k + 1)) (lo' := [(2, .int (nI (k + 1))), (0, .ref (al Z 20 0)), (1, .int (nI i))]) d_M_remove_38 rfl (nI_1 k) (by decide) rfl ?_
      refine gq_goto C (tgt := 14) d_M_remove_41 rfl ?_
      refine G.eqV (g_qu _ _ _ _ _ _) ?_
      exact ih (k + 1) _ (by omega) (by omega) hf
  refine gq_aload_n C d_M_remove_0 rfl ?_
  refine gq_dup C d_M_remove_1 rfl ?_
  refine gq_get C (g := 20) (j := 0) (ci := 8) (k := 22) (v := .int (V 20 0 22)) (qm (by decide) (by decide)) rfl rfl in_M (by decide) w_683 rfl d_M_remove_2 ?_
  refine G.eqS (st' := [.int (nI n), .ref (al Z 20 0)]) (by first | (rw [show V 20 0 22 = nI n from h22]; done) | (rw [show V 20 0 22 = nI n from h22]; rfl)) ?_
  refine gq_iconst C (v := 1) d_M_remove_5 (by decide) ?_
  refine gq_isub C d_M_remove_6 ?_
  refine G.eqS (st' := [.int (nI (n - 1)), .ref (al Z 20 0)]) (by first | (rw [show (nI n) - 1 = nI (n - 1) from (by rw [show (1 : Int32) = nI 1 from rfl, pk_sub (by omega)])]; done) | (rw [show (nI n) - 1 = nI (n - 1) from (by rw [show (1 : Int32) = nI 1 from rfl, pk_sub (by omega)])]; rfl)) ?_
  refine gq_put C (fun _ h => h) (g := 20) (j := 0) (ci := 8) (k := 22) ft_M k_M n_M (qm (by decide) (by decide)) rfl rfl in_M (by decide) w_683 rfl (k_M 22 (by decide)) rfl rfl (Nat.le_of_ble_eq_true rfl) rfl d_M_remove_7 ?_
  refine gq_iconst C (v := 4) d_M_remove_10 (by decide) ?_
  refine gq_iload_n C d_M_remove_11 rfl ?_
  refine gq_imul C d_M_remove_12 ?_
  refine G.eqS (st' := [.int (nI (4 * i))]) (by first | (rw [show 4 * (nI i) = nI (4 * i) from (by rw [show (4 : Int32) = nI 4 from rfl, pk_mul])]; done) | (rw [show 4 * (nI i) = nI (4 * i) from (by rw [show (4 : Int32) = nI 4 from rfl, pk_mul])]; rfl)) ?_
  refine gq_istore_n C (lo' := [(2, .int (nI (4 * i))), (0, .ref (al Z 20 0)), (1, .int (nI i))]) d_M_remove_13 rfl (by decide) rfl ?_
  refine G.eqV (qu_self _ 37 0).symm ?_
  exact loop (4 * (n - 1) - 4 * i) (4 * i) _ (by omega) (by omega) (g_shift_cut _ _ _ hi)
