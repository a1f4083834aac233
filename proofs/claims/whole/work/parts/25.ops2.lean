/-! The letters' calls -/
theorem op_lose (l : Launch) (hadm : ∀ e : Env, l.admits e → e.platform.stackTraces = false) (Z : qZ) (hZ : qok (pX Z)) (V : qV) (Y : qY) {i : Nat} (h : Rel i V) (w : Int32) : opV l Z i V Y y_W_lose y_M_lose { frames := 8, cells := 1, slots := 6, locals := 138 } { frames := 2, cells := 0, slots := 0, locals := 62 } [.ref (al Z 0 0), .int w] [.ref (al Z 20 0), .int w] := by
  obtain ⟨nb, nk, nl, h⟩ := h
  have hl : nl ≤ 40 := h.1.2.2.2.2.2.2.2.2
  rcases n_ix hl w with ⟨q, hq, rfl⟩ | ⟨hx, ne⟩
  · have hR : RelN i nb nk nl V (f_takeOut V q nl) := h.r (fun g hg => by rw [f_takeOut_fr _ _ _ _ (by omega)])
    have hJ := J_cut ((hR.up (Nat.le_succ i)).code 0) hq
    exact ⟨0, _, _, _, c_W_lose l Z hZ V Y q nl hq hl h.1.2.2.2.2.2.2.1, c_M_lose l Z hZ _ _ q nl hq hl hR.1.2.2.2.2.2.2.2.1 (by rw [hR.1.2.2.2.2.2.2.2.1]; exact g_not_in q hq (by omega)), by rw [g_remove_20 _ _ _ _ (by decide)]; rfl, nb, nk, nl - 1, hJ.l (fun g hg => by rw [g_remove_fr _ _ _ _ (by omega), qv_fr _ _ _ _ _ _ (by omega)])⟩
  · exact ⟨1, _, _, _, c_W_lose_x1 l hadm Z hZ V Y w (by rw [h.1.2.2.2.2.2.2.1]; exact hx), c_M_lose_x1 l Z hZ _ _ w (by rw [h.1.2.2.2.2.2.2.2.1]; exact n_not1 (by omega) ne), rfl, Rel.thrown h 1⟩
theorem op_twin (l : Launch) (hadm : ∀ e : Env, l.admits e → e.platform.stackTraces = false) (Z : qZ) (hZ : qok (pX Z)) (V : qV) (Y : qY) {i : Nat} (h : Rel i V) (w : Int32) : opV l Z i V Y y_W_twin y_M_twin { frames := 8, cells := 1, slots := 6, locals := 138 } { frames := 2, cells := 0, slots := 0, locals := 64 } [.ref (al Z 0 0), .int w] [.ref (al Z 20 0), .int w] := by
  obtain ⟨nb, nk, nl, h⟩ := h
  have hl : nl ≤ 40 := h.1.2.2.2.2.2.2.2.2
  rcases n_ix hl w with ⟨q, hq, rfl⟩ | ⟨hx, ne⟩
  · by_cases hf : nl < 40
    · have hR : RelN i nb nk nl V (f_put V (V 13 0 q) (V 13 1 q) (V 13 2 q) (V 13 3 q)) := h.r (fun g hg => by rw [f_put_fr _ _ _ _ _ _ (by omega)])
      have hW := c_W_twin l Z hZ V Y q nl hq hl h.1.2.2.2.2.2.2.1 hf
      obtain ⟨x0, x1, x2, x3, y0, y1, y2, y3⟩ := hR.2.2.2.2.2.2.2.1 q hq
      obtain ⟨ml, hJ⟩ := J_put ((hR.up (Nat.le_succ i)).code 0) y0 y1 y2 y3
      generalize hV1 : f_put V (V 13 0 q) (V 13 1 q) (V 13 2 q) (V 13 3 q) = V1 at hR hW hJ x0 x1 x2 x3
      have hM := c_M_twin l Z hZ V1 Y q nl hq hl hR.1.2.2.2.2.2.2.2.1 (by rw [hR.1.2.2.2.2.2.2.2.1]; exact g_not_in q hq (by omega)) (by rw [hR.1.2.2.2.2.2.2.2.1]; exact n_ne (b := 40) (by omega) (by omega) (by omega))
      rw [← x0, ← x1, ← x2, ← x3] at hM
      exact ⟨0, _, _, _, hW, hM, by rw [g_put_20 _ _ _ _ _ _ (by decide)]; rfl, nb, nk, ml, hJ.l (fun g hg => by rw [g_put_fr _ _ _ _ _ _ (by omega), qv_fr _ _ _ _ _ _ (by omega)])⟩
    · have h40 : nl = 40 := by omega
      exact ⟨2, _, _, _, c_W_twin_x2 l hadm Z hZ V Y q nl hq hl h.1.2.2.2.2.2.2.1 h40, c_M_twin_x2 l Z hZ _ _ q nl hq hl h.1.2.2.2.2.2.2.2.1 (by rw [h.1.2.2.2.2.2.2.2.1]; exact g_not_in q hq (by omega)) (by rw [h.1.2.2.2.2.2.2.2.1, h40]; rfl), rfl, Rel.thrown h 2⟩
  · exact ⟨1, _, _, _, c_W_twin_x1 l hadm Z hZ V Y w (by rw [h.1.2.2.2.2.2.2.1]; exact hx), c_M_twin_x1 l Z hZ _ _ w (by rw [h.1.2.2.2.2.2.2.2.1]; exact n_not1 (by omega) ne), rfl, Rel.thrown h 1⟩
theorem n_w4 (w : Int32) : (∃ u, u < 4 ∧ w = nI u) ∨ ((w.toInt < 0 ∨ 3 < w.toInt) ∧ ¬ ∃ j, j < 4 ∧ w = nI j) := by
  rcases pk_ix w (n := 4) (by decide) with h | h | ⟨j, hj, rfl⟩
  · refine Or.inr ⟨Or.inl ?_, fun ⟨j, hj, e⟩ => absurd h (by rw [e]; exact nI_pos (by omega))⟩
    have := Int32.lt_iff_toInt_lt.mp h
    simpa using this
  · refine Or.inr ⟨Or.inr ?_, fun ⟨j, hj, e⟩ => absurd h (by rw [e]; exact nI_ge hj (by decide))⟩
    have := Int32.le_iff_toInt_le.mp h
    rw [nI_toInt (by decide)] at this
    omega
  · exact Or.inl ⟨j, hj, rfl⟩
theorem op_letter (l : Launch) (hadm : ∀ e : Env, l.admits e → e.platform.stackTraces = false) (Z : qZ) (hZ : qok (pX Z)) (V : qV) (Y : qY) {i : Nat} (h : Rel i V) (v w : Int32) : opI l Z i V Y y_W_letter y_M_letter { frames := 8, cells := 1, slots := 6, locals := 139 } { frames := 2, cells := 0, slots := 0, locals := 61 } [.ref (al Z 0 0), .int v, .int w, .ref (al Z 45 0)] [.ref (al Z 20 0), .int v, .int w] := by
  obtain ⟨nb, nk, nl, h⟩ := h
  have hl : nl ≤ 40 := h.1.2.2.2.2.2.2.2.2
  have h4 := h.1.2.2.2.2.2.2.1
  have h22 := h.1.2.2.2.2.2.2.2.1
  rcases n_ix hl v with ⟨q, hq, rfl⟩ | ⟨hx, ne⟩
  · obtain ⟨x0, x1, x2, x3, _⟩ := h.2.2.2.2.2.2.2.1 q hq
    have hn : g_not (nI q) (V 20 0 22) = 0 := by rw [h22]; exact g_not_in q hq (by omega)
    rcases n_w4 w with ⟨u, hu, rfl⟩ | ⟨hx, ne⟩
    · have hM := fun Y' => c_M_letter l Z hZ V Y' q nl hq hl h22 hn u hu (g_not_in (n := 4) u hu (by decide))
      match u, hu with
      | 0, _ => exact ⟨0, _, _, _, _, c_W_letter_0 l Z hZ V Y q nl hq hl h4, hM _, rfl, fun _ => by show (V 13 0 q).toInt64 = _; rw [x0]; rfl, Rel.thrown h 0⟩
      | 1, _ => exact ⟨0, _, _, _, _, c_W_letter_1 l Z hZ V Y q nl hq hl h4, hM _, rfl, fun _ => by show (V 13 1 q).toInt64 = _; rw [x1], Rel.thrown h 0⟩
      | 2, _ => exact ⟨0, _, _, _, _, c_W_letter_2 l Z hZ V Y q nl hq hl h4, hM _, rfl, fun _ => by show (V 13 2 q).toInt64 = _; rw [x2], Rel.thrown h 0⟩
      | 3, _ => exact ⟨0, _, _, _, _, c_W_letter_3 l Z hZ V Y q nl hq hl h4, hM _, rfl, fun _ => by show (V 13 3 q).toInt64 = _; rw [x3], Rel.thrown h 0⟩
    · exact ⟨2, _, _, _, _, c_W_letter_x2 l hadm Z hZ V Y q nl hq hl h4 w hx, c_M_letter_x2 l Z hZ _ _ q nl hq hl h22 hn w (n_not1 (n := 4) (by decide) ne), rfl, fun q => absurd q (by decide), Rel.thrown h 2⟩
  · exact ⟨1, _, _, _, _, c_W_letter_x1 l hadm Z hZ V Y v (by rw [h4]; exact hx) w, c_M_letter_x1 l Z hZ _ _ v w (by rw [h22]; exact n_not1 (by omega) ne), rfl, fun q => absurd q (by decide), Rel.thrown h 1⟩
theorem f_takeBook_fr (V : qV) (t g : Nat) (b : Int32) (h : g ≠ 7) : f_takeBook V t b g = V g := by
  unfold f_takeBook
  split
  · exact qv_fr _ _ _ _ _ _ h
  · rfl
theorem f_takeGrant_fr (V : qV) (t g : Nat) (a b : Int32) (h : g ≠ 7) : f_takeGrant V t a b g = V g := by
  unfold f_takeGrant
  split
  · exact qv_fr _ _ _ _ _ _ h
  · rfl
theorem f_bring1_fr (V : qV) (t g : Nat) (a : Int32) (h : 14 ≤ g) : f_bring1 V t a g = V g := by
  unfold f_bring1
  rw [f_look_fr _ _ (by omega)]
  split
  · rw [f_grant_fr _ _ _ _ (by omega)]
  · rw [f_put_fr _ _ _ _ _ _ (by omega), f_grant_fr _ _ _ _ (by omega)]
theorem f_bring3_fr (V : qV) (t g : Nat) (b : Int32) (h : 14 ≤ g) : f_bring3 V t b g = V g := by
  unfold f_bring3
  rw [f_look_fr _ _ (by omega), qv_fr _ _ _ _ _ _ (by omega)]
theorem f_bring4_fr (V : qV) (t g : Nat) (a : Int32) (h : 14 ≤ g) : f_bring4 V t a g = V g := by
  unfold f_bring4
  rw [f_look_fr _ _ (by omega)]
  split
  · rw [qv_fr _ _ _ _ _ _ (by omega)]
  · rfl
theorem g_asked_fr (V : qV) (t g : Nat) (a : Int32) (h : g < 20) : g_asked V t a g = V g := by
  unfold g_asked g_asked1
  rw [← g_wake_fr V g (by omega)]
  repeat' split
  all_goals first | rfl | (rw [g_put_fr _ _ _ _ _ _ (by omega), qv_fr _ _ _ _ _ _ (by omega), qv_fr _ _ _ _ _ _ (by omega), qv_fr _ _ _ _ _ _ (by omega), qv_fr _ _ _ _ _ _ (by omega)])
theorem g_asked_20 (V : qV) (t : Nat) (a : Int32) : g_asked V t a 20 0 0 = V 20 0 0 := by
  have e : g_wake V 20 0 0 = V 20 0 0 := by
    unfold g_wake
    repeat' split
    all_goals rfl
  unfold g_asked g_asked1
  rw [← e]
  repeat' split
  all_goals first | rfl | (rw [g_put_20 _ _ _ _ _ _ (by decide)]; rfl)
theorem J_takeBook {i nb nk nl : Nat} {A B : qV} (h : RelN i nb nk nl A B) (t : Nat) (ht : t < 4) {b : Int32} (hb : ∃ x, x ≤ nb ∧ b = nI x) : RelN i nb nk nl (f_takeBook A t b) (if B 26 0 t = b - 1 then qv B 26 0 t b else B) := by
  have hh := h
  obtain ⟨h0, hB, hC, hT, hO, hD, hN, hL, hK, hP⟩ := h
  unfold f_takeBook
  rw [← (hT t ht).1]
  by_cases q : b = A 7 t 1 + 1
  · rw [if_pos q, if_pos (by rw [q, Int32.add_sub_cancel])]
    refine ⟨h0, hB, hC, ?_, hO.eq7 (fun u => by simp [qv_at]) rfl rfl, hD, hN, hL, hK, hP⟩
    intro u hu
    by_cases ut : u = t
    · subst ut
      simp only [qv_at]
      simp
      obtain ⟨t1, t2, t3, t4, t5, t6, t7, t8, t9, t10⟩ := hT u hu
      exact ⟨t2, t3, t4, t5, t6, hb, t8, t9, t10⟩
    · simp only [qv_at]
      simp [ut]
      exact hT u hu
  · rw [if_neg q, if_neg (fun z => q (by rw [z, Int32.sub_add_cancel]))]
    exact hh
theorem J_takeGrant {i nb nk nl : Nat} {A B : qV} (h : RelN i nb nk nl A B) (t : Nat) (ht : t < 4) {a b : Int32} (ha : ¬ a = 0) (hb : ∃ x, x ≤ nb ∧ b = nI x) : RelN i nb nk nl (f_takeGrant A t a b) (if a = B 28 0 t ∧ B 29 0 t = 0 then qv B 31 0 t b else B) := by
  have hh := h
  obtain ⟨h0, hB, hC, hT, hO, hD, hN, hL, hK, hP⟩ := h
  unfold f_takeGrant
  have e := (hT t ht).2.2.2.2.2.1
  rw [← (hT t ht).2.2.1]
  by_cases q : a = A 7 t 3 ∧ A 7 t 5 = 0
  · rw [if_pos q, if_pos ⟨q.1, e.mpr ⟨fun z => ha (q.1.trans z), q.2⟩⟩]
    refine ⟨h0, hB, hC, ?_, hO.eq7 (fun u => by simp [qv_at]) rfl rfl, hD, hN, hL, hK, hP⟩
    intro u hu
    by_cases ut : u = t
    · subst ut
      simp only [qv_at]
      simp
      obtain ⟨t1, t2, t3, t4, t5, t6, t7, t8, t9, t10⟩ := hT u hu
      exact ⟨t1, t2, t3, t4, t6, t7, hb, t9, t10⟩
    · simp only [qv_at]
      simp [ut]
      exact hT u hu
  · rw [if_neg q, if_neg (fun z => q ⟨z.1, (e.mp z.2).2⟩)]
    exact hh
theorem J_bring3 {i nb nk nl : Nat} {A B : qV} (h : RelN i nb nk nl A B) (hi : i ≤ 513) (t : Nat) (ht : t < 4) (b : Int32) : RelN i nb nk nl (f_bring3 A t b) (g_look (if b ≤ B 36 0 t then B else qv B 36 0 t b)) := by
  refine J_look ?_ hi
  obtain ⟨h0, hB, hC, hT, hO, hD, hN, hL, hK, hP⟩ := h
  have e := (hN t ht).1
  rw [← e]
  by_cases q : b ≤ A 11 t 0
  · rw [if_pos q, if_neg (Int32.not_lt.mpr q)]
    refine ⟨h0, hB, hC, hT, hO, hD, ?_, hL, hK, hP⟩
    intro u hu
    by_cases ut : u = t
    · subst ut
      simp only [qv_at]
      simp
      exact hN u hu
    · simp only [qv_at]
      simp [ut]
      exact hN u hu
  · rw [if_neg q, if_pos (Int32.not_le.mp q)]
    refine ⟨h0, hB, hC, hT, hO.eq, hD, ?_, hL, hK, hP⟩
    intro u hu
    by_cases ut : u = t
    · subst ut
      simp only [qv_at]
      simp
      exact (hN u hu).2
    · simp only [qv_at]
      simp [ut]
      exact hN u hu
theorem J_bring4 {i nb nk nl : Nat} {A B : qV} (h : RelN i nb nk nl A B) (hi : i ≤ 513) (t : Nat) (ht : t < 4) (a : Int32) : RelN i nb nk nl (f_bring4 A t a) (g_look (if a = B 32 0 t then qv B 33 0 t 0 else B)) := by
  refine J_look ?_ hi
  have hh := h
  obtain ⟨h0, hB, hC, hT, hO, hD, hN, hL, hK, hP⟩ := h
  rw [← (hN t ht).2.1]
  by_cases q : a = A 11 t 1
  · rw [if_pos q, if_pos q]
    refine ⟨h0, hB, hC, hT, hO.eq, hD, ?_, hL, hK, hP⟩
    intro u hu
    by_cases ut : u = t
    · subst ut
      simp only [qv_at]
      simp
      obtain ⟨t1, t2, t3, t4, t5, t6⟩ := hN u hu
      exact ⟨t1, t2, t3, t4, t6⟩
    · simp only [qv_at]
      simp [ut]
      exact hN u hu
  · rw [if_neg q, if_neg q]
    exact hh
theorem op_deliver (l : Launch) (hadm : ∀ e : Env, l.admits e → e.platform.stackTraces = false) (Z : qZ) (hZ : qok (pX Z)) (V : qV) (Y : qY) {i : Nat} (hi : i ≤ 512) (h : Rel i V) (w : Int32) : opV l Z i V Y y_W_deliver y_M_deliver { frames := 8, cells := 1, slots := 6, locals := 154 } { frames := 5, cells := 0, slots := 0, locals := 127 } [.ref (al Z 0 0), .int w] [.ref (al Z 20 0), .int w] := by
  obtain ⟨nb, nk, nl, h⟩ := h
  have hl : nl ≤ 40 := h.1.2.2.2.2.2.2.2.2
  have h4 := h.1.2.2.2.2.2.2.1
  rcases n_ix hl w with ⟨q, hq, rfl⟩ | ⟨hx, ne⟩
  · obtain ⟨x0, x1, x2, x3, ⟨k, hk, ek⟩, ⟨t, ht, et⟩, eb, ha⟩ := h.2.2.2.2.2.2.2.1 q hq
    have step : ∀ V1 : qV, (∀ g, 20 ≤ g → V1 g = V g) → RelN i nb nk nl V V1 ∧ V1 20 0 22 = nI nl ∧ g_not (nI q) (V1 20 0 22) = 0 ∧ V1 37 0 (4 * q + 1) = nI t ∧ V1 37 0 (4 * q) = nI k ∧ V1 37 0 (4 * q + 2) = V 13 2 q ∧ V1 37 0 (4 * q + 3) = V 13 3 q ∧ RelN (i + 1) nb nk (nl - 1) (f_takeOut V q nl) (g_remove (qv V1 20 0 0 0) q nl) := by
      intro V1 he
      have hR := h.r he
      have e22 : V1 20 0 22 = nI nl := hR.1.2.2.2.2.2.2.2.1
      exact ⟨hR, e22, by rw [e22]; exact g_not_in q hq (by omega), by rw [he 37 (by decide), ← x1]; exact et, by rw [he 37 (by decide), ← x0]; exact ek, by rw [he 37 (by decide), ← x2], by rw [he 37 (by decide), ← x3], J_cut ((hR.up (Nat.le_succ i)).code 0) hq⟩
    have frg : ∀ (V1 : qV) (g : Nat), g < 20 → g_remove (qv V1 20 0 0 0) q nl g = V1 g := fun V1 g hg => by rw [g_remove_fr _ _ _ _ (by omega), qv_fr _ _ _ _ _ _ (by omega)]
    have cod : ∀ V1 : qV, g_remove (qv V1 20 0 0 0) q nl 20 0 0 = 0 := fun V1 => by rw [g_remove_20 _ _ _ _ (by decide)]; rfl
    match k, hk with
    | 0, _ =>
      have hW := c_W_deliver0 l Z hZ V Y q nl hq hl h4 t ht et ek
      obtain ⟨hR, e22, en, e1, e0, e2, e3, hJ⟩ := step (f_takeBook (f_takeOut V q nl) t (V 13 2 q)) (fun g hg => by rw [f_takeBook_fr _ _ _ _ (by omega), f_takeOut_fr _ _ _ _ (by omega)])
      have hF := J_takeBook hJ t ht eb
      generalize f_takeBook (f_takeOut V q nl) t (V 13 2 q) = V1 at hW hR e22 en e1 e0 e2 e3 hJ hF
      have hM := c_M_deliver0 l Z hZ V1 Y q nl hq hl e22 en t ht e1 e0
      rw [e2] at hM
      refine ⟨0, _, _, _, hW, hM, ?_, nb, nk, nl - 1, hF.l (fun g hg => ?_)⟩
      · split
        · exact cod V1
        · exact cod V1
      · split
        · rw [qv_fr _ _ _ _ _ _ (by omega)]; exact frg V1 g hg
        · exact frg V1 g hg
    | 1, _ =>
      have hW := c_W_deliver1 l Z hZ V Y q nl hq hl h4 t ht et ek
      obtain ⟨hR, e22, en, e1, e0, e2, e3, hJ⟩ := step (f_bring1 (f_takeOut V q nl) t (V 13 3 q)) (fun g hg => by rw [f_bring1_fr _ _ _ _ (by omega), f_takeOut_fr _ _ _ _ (by omega)])
      obtain ⟨ml, hF⟩ := J_asked hJ (by omega) t ht (V 13 3 q) (ha (Or.inl ek))
      have hF := J_look hF (by omega)
      change RelN (i + 1) nb nk ml (f_bring1 (f_takeOut V q nl) t (V 13 3 q)) _ at hF
      generalize f_bring1 (f_takeOut V q nl) t (V 13 3 q) = V1 at hW hR e22 en e1 e0 e2 e3 hJ hF
      have hM := c_M_deliver1 l Z hZ V1 Y q nl hq hl e22 en t ht e1 e0
      rw [e3] at hM
      exact ⟨0, _, _, _, hW, hM, by rw [g_look_20, g_asked_20]; exact cod V1, nb, nk, ml, hF.l (fun g hg => by rw [g_look_fr _ _ (by omega), g_asked_fr _ _ _ _ hg]; exact frg V1 g hg)⟩
    | 2, _ =>
      have hW := c_W_deliver2 l Z hZ V Y q nl hq hl h4 t ht et ek
      obtain ⟨hR, e22, en, e1, e0, e2, e3, hJ⟩ := step (f_takeGrant (f_takeOut V q nl) t (V 13 3 q) (V 13 2 q)) (fun g hg => by rw [f_takeGrant_fr _ _ _ _ _ (by omega), f_takeOut_fr _ _ _ _ (by omega)])
      have hF := J_takeGrant hJ t ht (ha (Or.inr ek)) eb
      generalize f_takeGrant (f_takeOut V q nl) t (V 13 3 q) (V 13 2 q) = V1 at hW hR e22 en e1 e0 e2 e3 hJ hF
      have hM := c_M_deliver2 l Z hZ V1 Y q nl hq hl e22 en t ht e1 e0
      rw [e2, e3] at hM
      refine ⟨0, _, _, _, hW, hM, ?_, nb, nk, nl - 1, hF.l (fun g hg => ?_)⟩
      · split
        · exact cod V1
        · exact cod V1
      · split
        · rw [qv_fr _ _ _ _ _ _ (by omega)]; exact frg V1 g hg
        · exact frg V1 g hg
    | 3, _ =>
      have hW := c_W_deliver3 l Z hZ V Y q nl hq hl h4 t ht et ek
      obtain ⟨hR, e22, en, e1, e0, e2, e3, hJ⟩ := step (f_bring3 (f_takeOut V q nl) t (V 13 2 q)) (fun g hg => by rw [f_bring3_fr _ _ _ _ (by omega), f_takeOut_fr _ _ _ _ (by omega)])
      have hF := J_bring3 hJ (by omega) t ht (V 13 2 q)
      generalize f_bring3 (f_takeOut V q nl) t (V 13 2 q) = V1 at hW hR e22 en e1 e0 e2 e3 hJ hF
      have hM := c_M_deliver3 l Z hZ V1 Y q nl hq hl e22 en t ht e1 e0
      rw [e2] at hM
      refine ⟨0, _, _, _, hW, hM, ?_, nb, nk, nl - 1, hF.l (fun g hg => ?_)⟩
      · rw [g_look_20]
        split
        · exact cod V1
        · exact cod V1
      · rw [g_look_fr _ _ (by omega)]
        split
        · exact frg V1 g hg
        · rw [qv_fr _ _ _ _ _ _ (by omega)]; exact frg V1 g hg
    | 4, _ =>
      have hW := c_W_deliver4 l Z hZ V Y q nl hq hl h4 t ht et ek
      obtain ⟨hR, e22, en, e1, e0, e2, e3, hJ⟩ := step (f_bring4 (f_takeOut V q nl) t (V 13 3 q)) (fun g hg => by rw [f_bring4_fr _ _ _ _ (by omega), f_takeOut_fr _ _ _ _ (by omega)])
      have hF := J_bring4 hJ (by omega) t ht (V 13 3 q)
      generalize f_bring4 (f_takeOut V q nl) t (V 13 3 q) = V1 at hW hR e22 en e1 e0 e2 e3 hJ hF
      have hM := c_M_deliver4 l Z hZ V1 Y q nl hq hl e22 en t ht e1 e0
      rw [e3] at hM
      refine ⟨0, _, _, _, hW, hM, ?_, nb, nk, nl - 1, hF.l (fun g hg => ?_)⟩
      · rw [g_look_20]
        split
        · exact cod V1
        · exact cod V1
      · rw [g_look_fr _ _ (by omega)]
        split
        · rw [qv_fr _ _ _ _ _ _ (by omega)]; exact frg V1 g hg
        · exact frg V1 g hg
  · exact ⟨1, _, _, _, c_W_deliver_x1 l hadm Z hZ V Y w (by rw [h4]; exact hx), c_M_deliver_x1 l Z hZ _ _ w (by rw [h.1.2.2.2.2.2.2.2.1]; exact n_not1 (by omega) ne), rfl, Rel.thrown h 1⟩
