/-! Steps of both sides together -/
theorem n_ne {a b : Nat} (ha : a < 2 ^ 31) (hb : b < 2 ^ 31) (h : ¬ a = b) : ¬ nI a = nI b := fun q => h ((nI_eq ha hb).mp q)
theorem RelN.cnt {i nb nk nl : Nat} {A B : qV} (h : RelN i nb nk nl A B) : ∃ m, m ≤ 40 ∧ A 12 0 4 = nI m := ⟨nl, h.1.2.2.2.2.2.2.2.2, h.1.2.2.2.2.2.2.1⟩
theorem RelN.cntB {i nb nk nl : Nat} {A B : qV} (h : RelN i nb nk nl A B) : ∃ m, m ≤ 40 ∧ B 20 0 22 = nI m := ⟨nl, h.1.2.2.2.2.2.2.2.2, h.1.2.2.2.2.2.2.2.1⟩
theorem J_put {i nb nk nl : Nat} {A B : qV} (h : RelN i nb nk nl A B) {k t b a : Int32} (hk : ∃ x, x ≤ 4 ∧ k = nI x) (ht : ∃ x, x < 4 ∧ t = nI x) (hb : ∃ x, x ≤ nb ∧ b = nI x) (ha : k = 1 ∨ k = 2 → ¬ a = 0) : ∃ ml, RelN i nb nk ml (f_put A k t b a) (g_put B k t b a) := by
  obtain ⟨h0, hB, hC, hT, hO, hD, hN, hL, hK, hP⟩ := h
  obtain ⟨a1, a2, a3, a4, a5, a6, a7, a8, a9⟩ := h0
  by_cases hl : nl < 40
  · have ef : f_put A k t b a = f_post A nl k t b a := by
      unfold f_put
      rw [if_pos (by rw [a7]; exact nI_lt hl (by decide)), a7, nI_clamp (by omega)]
    have eg : g_put B k t b a = g_post B nl k t b a := by
      unfold g_put
      rw [if_neg (by rw [a8]; exact n_ne (b := 40) (by omega) (by omega) (by omega)), a8, nI_clamp (by omega)]
    refine ⟨nl + 1, ⟨?_, ?_, a3, ?_, ?_, a6, ?_, ?_, by omega⟩, hB.eq, hC.eq, hT.eq, hO.eq, hD.eq, hN.eq, ?_, hK.eq, hP.eq⟩
    · rw [f_put_fr _ _ _ _ _ _ (by decide)]; exact a1
    · rw [g_put_20 _ _ _ _ _ _ (by decide)]; exact a2
    · rw [f_put_fr _ _ _ _ _ _ (by decide)]; exact a4
    · rw [g_put_20 _ _ _ _ _ _ (by decide)]; exact a5
    · rw [ef]; rfl
    · rw [eg]; rfl
    · intro q hq
      rw [ef, eg]
      by_cases hqn : q < nl
      · have e13 : ∀ c, c < 4 → f_post A nl k t b a 13 c q = A 13 c q := fun c hc => by
          unfold f_post
          simp only [qv_at]
          rw [if_neg (by omega), if_neg (by omega), if_neg (by omega), if_neg (by omega), if_neg (by omega)]
        have e37 : ∀ c, c < 4 → g_post B nl k t b a 37 0 (4 * q + c) = B 37 0 (4 * q + c) := fun c hc => by
          unfold g_post
          simp only [qv_at]
          rw [if_neg (by omega), if_neg (by omega), if_neg (by omega), if_neg (by omega), if_neg (by omega)]
        have e370 : g_post B nl k t b a 37 0 (4 * q) = B 37 0 (4 * q) := e37 0 (by decide)
        rw [e13 0 (by decide), e13 1 (by decide), e13 2 (by decide), e13 3 (by decide), e370, e37 1 (by decide), e37 2 (by decide), e37 3 (by decide)]
        exact hL q hqn
      · have hqe : q = nl := by omega
        subst hqe
        have e0 : f_post A q k t b a 13 0 q = k := by simp [f_post, qv_at]
        have e1 : f_post A q k t b a 13 1 q = t := by simp [f_post, qv_at]
        have e2 : f_post A q k t b a 13 2 q = b := by simp [f_post, qv_at]
        have e3 : f_post A q k t b a 13 3 q = a := by simp [f_post, qv_at]
        have m0 : g_post B q k t b a 37 0 (4 * q) = k := by simp [g_post, qv_at]
        have m1 : g_post B q k t b a 37 0 (4 * q + 1) = t := by simp [g_post, qv_at]
        have m2 : g_post B q k t b a 37 0 (4 * q + 2) = b := by simp [g_post, qv_at]
        have m3 : g_post B q k t b a 37 0 (4 * q + 3) = a := by simp [g_post, qv_at]
        rw [e0, e1, e2, e3, m0, m1, m2, m3]
        exact ⟨rfl, rfl, rfl, rfl, hk, ht, hb, ha⟩
  · have hl2 : nl = 40 := by omega
    have ef : f_put A k t b a = A := by
      unfold f_put
      rw [if_neg (by rw [a7]; exact nI_nlt (b := 40) (by omega) (by omega))]
    have eg : g_put B k t b a = B := by
      unfold g_put
      rw [if_pos (by rw [a8, hl2]; rfl)]
    rw [ef, eg]
    exact ⟨nl, ⟨a1, a2, a3, a4, a5, a6, a7, a8, a9⟩, hB, hC, hT, hO, hD, hN, hL, hK, hP⟩
theorem RelN.now {i nb nk nl : Nat} {A B : qV} (h : RelN i nb nk nl A B) (hi : i ≤ 513) {c : Nat} (hc : c < 5) : ∃ n, n ≤ 505 * i ∧ A 8 c 0 / 100 = nI n := by
  obtain ⟨_, _, ⟨n, hn, e⟩, _⟩ := h.2.2.1 c hc
  exact ⟨n / 100, by omega, by rw [e]; exact pk_div (d := 100) (by omega) (by decide) (by decide)⟩
theorem J_wake {i nb nk nl : Nat} {A B : qV} (h : RelN i nb nk nl A B) : RelN i nb nk nl A (g_wake B) ∧ (g_wake B 20 0 15 = 0 ↔ f_waits A = 0) := by
  have hh := h
  obtain ⟨h0, hB, hC, hT, hO, hD, hN, hL, hK, hP⟩ := h
  obtain ⟨d1, d2, d3, d4, d5, d6, d7⟩ := hD
  have en : A 8 4 0 = B 24 0 4 := (hC 4 (by decide)).1
  unfold g_wake f_waits
  by_cases h15 : B 20 0 15 = 0
  · rw [if_pos h15, if_pos (d7 h15)]
    exact ⟨hh, fun _ => rfl, fun _ => h15⟩
  · rw [if_neg h15]
    by_cases hn : B 24 0 4 / 100 < B 20 0 16
    · rw [if_pos hn, if_neg (by rw [en, d3]; exact Int32.not_le.mpr hn)]
      exact ⟨hh, fun q => absurd q h15, fun q => absurd q (by decide)⟩
    · have hle : A 9 0 4 ≤ A 8 4 0 / 100 := by rw [en, d3]; exact Int32.not_lt.mp hn
      rw [if_neg hn, if_pos hle]
      refine ⟨⟨h0, hB, hC, hT, hO.eq, ⟨d1, d2, d3, d4, d5, d6, fun _ => hle⟩, hN, hL, hK, hP⟩, fun _ => rfl, fun _ => rfl⟩
theorem J_free {i nb nk nl : Nat} {A B : qV} (h : RelN i nb nk nl A B) (hi : i ≤ 513) (t : Nat) (ht : t < 4) : g_free B t = f_al A t (A 9 0 3) (A 8 4 0 / 100) := by
  obtain ⟨n, hn, en⟩ := h.now hi (c := 4) (by decide)
  obtain ⟨h0, hB, hC, hT, hO, hD, hN, hL, hK, hP⟩ := h
  obtain ⟨n0, n1, n2, n3, n4, d, hd, ed⟩ := hN t ht
  have e : (A 8 4 0 / 100 - A 11 t 3 < 63) = (A 8 4 0 / 100 < A 11 t 3 + 63) := by
    rw [en, ed]
    exact propext (n_sub (k := 63) (by omega) (by omega) (by omega))
  unfold g_free f_al
  simp only [e]
  rw [← hD.2.1, ← n0, ← n2, ← n3, ← n4, ← (hC 4 (by decide)).1]
theorem J_look {i nb nk nl : Nat} {A B : qV} (h : RelN i nb nk nl A B) (hi : i ≤ 513) : RelN i nb nk nl (f_look A) (g_look B) := by
  obtain ⟨hw, ew⟩ := J_wake h
  unfold g_look
  generalize g_wake B = C at hw ew
  have x0 := J_free hw hi 0 (by decide)
  have x1 := J_free hw hi 1 (by decide)
  have x2 := J_free hw hi 2 (by decide)
  have x3 := J_free hw hi 3 (by decide)
  have hh := hw
  obtain ⟨h0, hB, hC, hT, hO, hD, hN, hL, hK, hP⟩ := hh
  obtain ⟨d1, d2, d3, d4, d5, d6, d7⟩ := hD
  unfold g_look1 f_look
  rw [x0, x1, x2, x3, ← d2]
  by_cases h3 : A 9 0 3 = 0
  · rw [if_pos h3, if_pos h3]; exact hw
  · rw [if_neg h3, if_neg h3]
    by_cases hq : f_waits A = 0
    · rw [if_pos hq, if_pos (ew.mpr hq)]
      by_cases y0 : f_al A 0 (A 9 0 3) (A 8 4 0 / 100) = 0
      · rw [if_pos y0, if_pos y0]; exact hw
      rw [if_neg y0, if_neg y0]
      by_cases y1 : f_al A 1 (A 9 0 3) (A 8 4 0 / 100) = 0
      · rw [if_pos y1, if_pos y1]; exact hw
      rw [if_neg y1, if_neg y1]
      by_cases y2 : f_al A 2 (A 9 0 3) (A 8 4 0 / 100) = 0
      · rw [if_pos y2, if_pos y2]; exact hw
      rw [if_neg y2, if_neg y2]
      by_cases y3 : f_al A 3 (A 9 0 3) (A 8 4 0 / 100) = 0
      · rw [if_pos y3, if_pos y3]; exact hw
      rw [if_neg y3, if_neg y3]
      exact ⟨h0, hB, hC, hT, hO.eq, ⟨rfl, rfl, d3, d5, ⟨0, Nat.zero_le _, rfl⟩, d6, d7⟩, hN, hL, hK, hP⟩
    · rw [if_neg hq, if_neg (fun q => hq (ew.mp q))]; exact hw
theorem J_cut {i nb nk nl : Nat} {A B : qV} (h : RelN i nb nk nl A B) {q : Nat} (hq : q < nl) : RelN i nb nk (nl - 1) (f_takeOut A q nl) (g_remove B q nl) := by
  obtain ⟨h0, hB, hC, hT, hO, hD, hN, hL, hK, hP⟩ := h
  obtain ⟨a1, a2, a3, a4, a5, a6, a7, a8, a9⟩ := h0
  refine ⟨⟨?_, ?_, a3, ?_, ?_, a6, ?_, rfl, by omega⟩, hB.eq, hC.eq, hT.eq, hO.eq, hD.eq, hN.eq, ?_, hK.eq, hP.eq⟩
  · rw [f_takeOut_fr _ _ _ _ (by decide)]; exact a1
  · rw [g_remove_20 _ _ _ _ (by decide)]; exact a2
  · rw [f_takeOut_fr _ _ _ _ (by decide)]; exact a4
  · rw [g_remove_20 _ _ _ _ (by decide)]; exact a5
  · show nI nl - nI 1 = nI (nl - 1)
    exact pk_sub (by omega)
  · intro p hp
    have e0 : f_takeOut A q nl 13 0 = f_cut (A 13 0) q nl := rfl
    have e1 : f_takeOut A q nl 13 1 = f_cut (A 13 1) q nl := rfl
    have e2 : f_takeOut A q nl 13 2 = f_cut (A 13 2) q nl := rfl
    have e3 : f_takeOut A q nl 13 3 = f_cut (A 13 3) q nl := rfl
    have m : g_remove B q nl 37 0 = g_cut (B 37 0) q nl := rfl
    rw [e0, e1, e2, e3, m]
    by_cases hqp : q ≤ p
    · have hf : ∀ f : Nat → Int32, f_cut f q nl p = f (p + 1) := fun f => by
        unfold f_cut
        rw [pk_cpy_in hqp (by omega)]
        congr 1
        omega
      have hg : ∀ c, c < 4 → g_cut (B 37 0) q nl (4 * p + c) = B 37 0 (4 * (p + 1) + c) := fun c hc => by
        unfold g_cut
        rw [if_pos (by omega)]
        congr 1
        omega
      have hg0 : g_cut (B 37 0) q nl (4 * p) = B 37 0 (4 * (p + 1)) := hg 0 (by decide)
      rw [hf, hf, hf, hf, hg0, hg 1 (by decide), hg 2 (by decide), hg 3 (by decide)]
      exact hL (p + 1) (by omega)
    · have hf : ∀ f : Nat → Int32, f_cut f q nl p = f p := fun f => by
        unfold f_cut
        rw [pk_cpy_out (by omega)]
      have hg : ∀ c, c < 4 → g_cut (B 37 0) q nl (4 * p + c) = B 37 0 (4 * p + c) := fun c hc => by
        unfold g_cut
        rw [if_neg (by omega)]
      have hg0 : g_cut (B 37 0) q nl (4 * p) = B 37 0 (4 * p) := hg 0 (by decide)
      rw [hf, hf, hf, hf, hg0, hg 1 (by decide), hg 2 (by decide), hg 3 (by decide)]
      exact hL p (by omega)
theorem J_fetch {i nb nk : Nat} {t : Nat} (ht : t < 4) (r : Nat) : ∀ (b nl : Nat) (A B : qV), RelN i nb nk nl A B → b + r ≤ nb + 1 → ∃ ml, RelN i nb nk ml (f_fetch (nI t) r b A) (g_fetch (nI t) r b B) := by
  induction r with
  | zero => intro b nl A B h _; exact ⟨nl, h⟩
  | succ r ih =>
    intro b nl A B h hb
    obtain ⟨ml, h1⟩ := J_put h (k := 0) (t := nI t) (b := nI b) (a := 0) ⟨0, by decide, rfl⟩ ⟨t, ht, rfl⟩ ⟨b, by omega, rfl⟩ (fun q => absurd q (by decide))
    exact ih (b + 1) ml _ _ h1 (by omega)
theorem J_lease {i nb nk nl : Nat} {A B : qV} (h : RelN i nb nk nl A B) (hi : i ≤ 513) (t : Nat) (ht : t < 4) : f_lease A t = g_lease B t := by
  obtain ⟨n, hn, en⟩ := h.now hi (c := t) (by omega)
  have hnb : nb ≤ 9 := h.1.2.2.1
  obtain ⟨h0, hB, hC, hT, hO, hD, hN, hL, hK, hP⟩ := h
  obtain ⟨t1, t2, t3, t4, t6, t5, b1, ⟨z, hz, ez⟩, b3, d, hd, ed⟩ := hT t ht
  have e : (60 ≤ A 8 t 0 / 100 - A 7 t 4) = (A 7 t 4 + 60 ≤ A 8 t 0 / 100) := by
    rw [en, ed]
    exact propext (n_sub' (k := 60) (by omega) (by omega) (by omega))
  unfold f_lease g_lease
  simp only [e]
  rw [← t1, ← t2, ← t4, ← t6, ← (hC t (by omega)).1]
  by_cases z0 : A 7 t 6 ≤ 0
  · rw [if_pos z0]
    have hz0 : A 7 t 6 = 0 := by
      rw [ez] at z0 ⊢
      have : z = 0 := by
        have := (nI_leI (a := z) (b := 0) (by omega) (by omega)).mp z0
        omega
      rw [this]; rfl
    split
    · exact hz0
    · rfl
  · rw [if_neg z0]
    by_cases c1 : A 7 t 4 + 60 ≤ A 8 t 0 / 100
    · rw [if_pos c1, if_neg (fun q => q.1 c1)]
    · rw [if_neg c1]
      by_cases c2 : A 7 t 1 < A 7 t 6
      · rw [if_pos c2, if_neg (fun q => q.2.1 c2)]
      · rw [if_neg c2]
        by_cases c3 : A 7 t 6 < A 7 t 2
        · rw [if_pos c3, if_neg (fun q => Int32.not_le.mpr c3 q.2.2)]
        · rw [if_neg c3, if_pos ⟨c1, c2, Int32.not_lt.mp c3⟩]
theorem J_bookFor {i nb nk nl : Nat} {A B : qV} (h : RelN i nb nk nl A B) (t : Nat) (ht : t < 4) : f_bookFor A t = g_bookFor B t ∧ ∃ x, x ≤ nb ∧ f_bookFor A t = nI x := by
  obtain ⟨h0, hB, hC, hT, hO, hD, hN, hL, hK, hP⟩ := h
  obtain ⟨d1, d2, d3, d4, d5, d6, d7⟩ := hD
  unfold f_bookFor g_bookFor
  rw [← d1, ← d2, ← (hN t ht).1]
  refine ⟨rfl, ?_⟩
  split
  · exact d4
  · split
    · exact ⟨0, Nat.zero_le _, rfl⟩
    · exact d5
theorem J_asked {i nb nk nl : Nat} {A B : qV} (h : RelN i nb nk nl A B) (hi : i ≤ 513) (t : Nat) (ht : t < 4) (a : Int32) (ha : ¬ a = 0) : ∃ ml, RelN i nb nk ml (if f_grantB A t a = 0 then f_grant A t a else f_put (f_grant A t a) 2 (nI t) (f_grantB A t a) a) (g_asked B t a) := by
  obtain ⟨hw, ew⟩ := J_wake h
  unfold g_asked
  generalize g_wake B = C at hw ew
  obtain ⟨be, bx⟩ := J_bookFor hw t ht
  obtain ⟨n, hn, en⟩ := hw.now hi (c := 4) (by decide)
  have hh := hw
  obtain ⟨h0, hB, hC, hT, hO, hD, hN, hL, hK, hP⟩ := hh
  have e1 := (hN t ht).2.1
  unfold g_asked1 f_grant
  rw [← be, ← e1]
  by_cases hq : f_waits A = 0
  · rw [if_pos (ew.mpr hq)]
    by_cases hle : A 11 t 1 ≤ a
    · have eb : f_grantB A t a = f_bookFor A t := by unfold f_grantB; rw [if_pos hq, if_pos hle]
      rw [if_neg (Int32.not_lt.mpr hle), eb]
      by_cases hb : f_bookFor A t = 0
      · rw [if_pos hb, if_pos hb, if_pos hb]; exact ⟨nl, hw⟩
      · rw [if_neg hb, if_neg hb, if_neg hb]
        have hst : RelN i nb nk nl (qv (qv (qv (qv A 11 t 1 a) 11 t 2 (f_bookFor A t)) 11 t 3 (A 8 4 0 / 100)) 11 t 4 1) (qv (qv (qv (qv C 32 0 t a) 34 0 t (f_bookFor A t)) 35 0 t (C 24 0 4 / 100)) 33 0 t 1) := by
          refine ⟨h0, hB, hC, hT, hO.eq, hD, ?_, hL, hK, hP⟩
          intro u hu
          by_cases hut : u = t
          · subst hut
            simp only [qv_at]
            simp
            exact ⟨(hN u hu).1, by rw [(hC 4 (by decide)).1], n, by omega, en⟩
          · simp only [qv_at]
            simp [hut]
            exact hN u hu
        exact J_put hst ⟨2, by decide, rfl⟩ ⟨t, ht, rfl⟩ bx (fun _ => ha)
    · have eb : f_grantB A t a = 0 := by unfold f_grantB; rw [if_pos hq, if_neg hle]
      rw [if_pos (Int32.not_le.mp hle), if_pos eb, if_pos eb]; exact ⟨nl, hw⟩
  · have eb : f_grantB A t a = 0 := by unfold f_grantB; rw [if_neg hq]
    rw [if_neg (fun q => hq (ew.mp q)), if_pos eb, if_pos eb]; exact ⟨nl, hw⟩
