/-! Baskets, books, new starts -/
theorem op_book (l : Launch) (hadm : ∀ e : Env, l.admits e → e.platform.stackTraces = false) (Z : qZ) (hZ : qok (pX Z)) (V : qV) (Y : qY) {i : Nat} (h : Rel i V) (w : Int32) : opI l Z i V Y y_W_book y_M_book { frames := 7, cells := 1, slots := 6, locals := 117 } { frames := 2, cells := 0, slots := 0, locals := 61 } [.ref (al Z 0 0), .int w, .ref (al Z 45 0)] [.ref (al Z 20 0), .int w] := by
  obtain ⟨nb, nk, nl, h⟩ := h
  have hk : nk ≤ 40 := h.1.2.2.2.2.2.1
  have h24 := h.1.2.2.2.2.1
  rcases n_bask hk h.1.2.2.2.1 w with ⟨e1, k, hkk, rfl⟩ | ⟨e1, ne⟩
  · refine ⟨0, _, _, _, _, c_W_book l Z hZ V Y k (by omega) e1, c_M_book l Z hZ _ _ k (by omega) (by rw [h24]; exact g_not_in k hkk (by omega)), rfl, fun _ => ?_, Rel.thrown h 0⟩
    show (V 15 k 1).toInt64 = _
    rw [(h.2.2.2.2.2.2.2.2.1 k hkk).2.1]
  · exact ⟨1, _, _, _, _, c_W_book_x l hadm Z hZ V Y w e1, c_M_book_x l Z hZ _ _ w (by rw [h24]; exact n_not1 (by omega) ne), rfl, fun q => absurd q (by decide), Rel.thrown h 1⟩
theorem op_price (l : Launch) (hadm : ∀ e : Env, l.admits e → e.platform.stackTraces = false) (Z : qZ) (hZ : qok (pX Z)) (V : qV) (Y : qY) {i : Nat} (h : Rel i V) (b a : Int32) : opI l Z i V Y y_W_price y_M_price { frames := 7, cells := 1, slots := 6, locals := 118 } { frames := 2, cells := 0, slots := 0, locals := 61 } [.ref (al Z 0 0), .int b, .int a, .ref (al Z 45 0)] [.ref (al Z 20 0), .int b, .int a] := by
  obtain ⟨nb, nk, nl, h⟩ := h
  have hb9 : nb ≤ 9 := h.1.2.2.1
  rcases n_book hb9 h.1.1 b with ⟨e1, b1, b2, b', hb', rfl⟩ | ⟨e1, b1⟩
  · rcases n_art a with ⟨e2, n, hn, rfl⟩ | ⟨e2, ne⟩
    · refine ⟨0, _, _, _, _, c_W_price l Z hZ V Y b' (by omega) n hn e1 e2, c_M_price l Z hZ _ _ (b' + 1) (by omega) n hn b1 (by rw [h.1.2.1]; exact Int32.not_lt.mpr b2) (g_not_in (n := 8) n hn (by decide)), rfl, fun _ => ?_, Rel.thrown h 0⟩
      show (V 2 (b' + 1) n).toInt64 = _
      rw [h.2.1.1 (b' + 1) n (by omega) hn]
    · exact ⟨1, _, _, _, _, c_W_price_x l hadm Z hZ V Y _ a (Or.inr e2), c_M_price_x l Z hZ _ _ _ a (Or.inr (Or.inr (n_not1 (n := 8) (by decide) ne))), rfl, fun q => absurd q (by decide), Rel.thrown h 1⟩
  · refine ⟨1, _, _, _, _, c_W_price_x l hadm Z hZ V Y b a (Or.inl e1), c_M_price_x l Z hZ _ _ b a ?_, rfl, fun q => absurd q (by decide), Rel.thrown h 1⟩
    rw [h.1.2.1]
    rcases b1 with b1 | b1
    · exact Or.inl b1
    · exact Or.inr (Or.inl (Int32.not_le.mp b1))
theorem op_restart (l : Launch) (hadm : ∀ e : Env, l.admits e → e.platform.stackTraces = false) (Z : qZ) (hZ : qok (pX Z)) (V : qV) (Y : qY) {i : Nat} (hi : i ≤ 512) (h : Rel i V) (w : Int32) : opV l Z i V Y y_W_restart y_M_restart { frames := 7, cells := 1, slots := 6, locals := 117 } { frames := 2, cells := 0, slots := 0, locals := 61 } [.ref (al Z 0 0), .int w] [.ref (al Z 20 0), .int w] := by
  obtain ⟨nb, nk, nl, h⟩ := h
  rcases n_td w with ⟨e1, t, ht, rfl⟩ | ⟨e1, ne⟩
  · by_cases t4 : t < 4
    · have hJ : RelN (i + 1) nb nk nl (qv (qv V 7 t 5 1) 7 t 6 0) (qv (qv (qv (qv (qv V 7 t 5 1) 7 t 6 0) 20 0 0 0) 29 0 t 1) 31 0 t 0) := by
        obtain ⟨h0, hB, hC, hT, hO, hD, hN, hL, hK, hP⟩ := h.up (Nat.le_succ i)
        refine ⟨h0, hB, hC, ?_, hO.eq7 (fun u => by simp [qv_at]) rfl rfl, hD, hN, hL, hK, hP⟩
        intro u hu
        by_cases ut : u = t
        · subst ut
          simp only [qv_at]
          simp
          obtain ⟨t1, t2, t3, t4, t5, t6, t7, t8, t9, t10⟩ := hT u hu
          exact ⟨t1, t2, t3, t4, t7, ⟨0, Nat.zero_le _, rfl⟩, t9, t10⟩
        · simp only [qv_at]
          simp [ut]
          exact hT u hu
      exact ⟨0, _, _, _, c_W_restart l Z hZ V Y t t4 e1, c_M_restart l Z hZ _ _ t t4 (g_not_in (n := 5) t ht (by decide)), rfl, nb, nk, nl, hJ.l (fun g hg => by rw [qv_fr _ _ _ _ _ _ (by omega), qv_fr _ _ _ _ _ _ (by omega), qv_fr _ _ _ _ _ _ (by omega)])⟩
    · have t4' : t = 4 := by omega
      subst t4'
      obtain ⟨n, hn, en⟩ := h.now (by omega) (c := 4) (by decide)
      have e24 : V 24 0 4 = V 8 4 0 := ((h.2.2.1 4 (by decide)).1).symm
      have hW := c_W_restart_desk l Z hZ V Y e1
      have hM := c_M_restart_desk l Z hZ (f_again V) Y (by decide)
      refine ⟨0, _, _, _, hW, hM, rfl, nb, nk, nl, RelN.l (A := f_again V) ?_ (fun g hg => by simp only [qv_fr _ _ _ _ _ g (show g ≠ 20 by omega), qv_fr _ _ _ _ _ g (show g ≠ 32 by omega), qv_fr _ _ _ _ _ g (show g ≠ 33 by omega), qv_fr _ _ _ _ _ g (show g ≠ 34 by omega), qv_fr _ _ _ _ _ g (show g ≠ 35 by omega), qv_fr _ _ _ _ _ g (show g ≠ 36 by omega)])⟩
      obtain ⟨h0, hB, hC, hT, hO, hD, hN, hL, hK, hP⟩ := h.up (Nat.le_succ i)
      obtain ⟨d1, d2, d3, d4, d5, d6, d7⟩ := hD
      refine ⟨h0, hB, hC, hT, hO.eq rfl rfl rfl, ⟨d1, d2, ?_, d4, d5, ?_, ?_⟩, ?_, hL, hK, hP⟩
      · show V 8 4 0 / 100 + 63 = V 24 0 4 / 100 + 63
        rw [e24]
      · refine ⟨n + 63, by omega, ?_⟩
        show V 8 4 0 / 100 + nI 63 = _
        rw [en, nI_add]
      · intro q
        exact absurd (show (1 : Int32) = 0 from q) (by decide)
      · intro u hu
        match u, hu with
        | 0, _ => exact ⟨rfl, rfl, rfl, rfl, rfl, 0, Nat.zero_le _, rfl⟩
        | 1, _ => exact ⟨rfl, rfl, rfl, rfl, rfl, 0, Nat.zero_le _, rfl⟩
        | 2, _ => exact ⟨rfl, rfl, rfl, rfl, rfl, 0, Nat.zero_le _, rfl⟩
        | 3, _ => exact ⟨rfl, rfl, rfl, rfl, rfl, 0, Nat.zero_le _, rfl⟩
  · exact ⟨1, _, _, _, c_W_restart_x l hadm Z hZ V Y w e1, c_M_restart_x l Z hZ _ _ w (n_not1 (n := 5) (by decide) ne), rfl, Rel.thrown h 1⟩
theorem op_open (l : Launch) (hadm : ∀ e : Env, l.admits e → e.platform.stackTraces = false) (Z : qZ) (hZ : qok (pX Z)) (V : qV) (Y : qY) {i : Nat} (hi : i ≤ 512) (h : Rel i V) (t : Int32) : opI l Z i V Y y_W_open y_M_open { frames := 8, cells := 1, slots := 6, locals := 139 } { frames := 3, cells := 0, slots := 0, locals := 84 } [.ref (al Z 0 0), .int t, .ref (al Z 45 0)] [.ref (al Z 20 0), .int t] := by
  obtain ⟨nb, nk, nl, h⟩ := h
  have hk : nk ≤ 40 := h.1.2.2.2.2.2.1
  have h7 := h.1.2.2.2.1
  have hb9 : nb ≤ 9 := h.1.2.2.1
  rcases n_till t with ⟨t, ht, rfl⟩ | ⟨hx, ne⟩
  · have hnt := g_not_in (n := 4) t ht (by decide)
    obtain ⟨o1, o2⟩ := h.2.2.2.2.1 t ht
    by_cases hc : f_lease V t = 0 ∨ 3 ≤ V 7 t 7 ∨ ¬ V 0 0 7 < 40
    · refine ⟨2, _, _, _, _, c_W_open_x2 l hadm Z hZ V Y t ht hc, c_M_open_x2 l Z hZ _ _ t ht hnt nk hk h.1.2.2.2.2.1 ?_, rfl, fun q => absurd q (by decide), Rel.thrown h 2⟩
      rcases hc with c | c | c
      · exact Or.inl (by rw [← J_lease h (by omega) t ht]; exact c)
      · refine Or.inr (Or.inl ?_)
        rw [cN_g]
        rw [o2] at c
        have c2 := (nI_leI (a := 3) (by decide) (by omega)).mp c
        have c3 : cN V (nI t) nk = 3 := by omega
        rw [c3]
        rfl
      · refine Or.inr (Or.inr ?_)
        rw [h7] at c
        by_cases q : nk < 40
        · exact absurd (nI_lt q (by decide)) c
        · omega
    · have c1 : ¬ f_lease V t = 0 := fun q => hc (Or.inl q)
      have c2 : ¬ 3 ≤ V 7 t 7 := fun q => hc (Or.inr (Or.inl q))
      have c3 : nk < 40 := by
        by_cases q : nk < 40
        · exact q
        · exact absurd (Or.inr (Or.inr (by rw [h7]; exact nI_nlt (b := 40) (by omega) (by omega)))) hc
      have cn : cN V (nI t) nk < 3 := by
        by_cases q : cN V (nI t) nk < 3
        · exact q
        · refine absurd ?_ c2
          rw [o2]
          exact nI_le (a := 3) (by omega) (by omega)
      have el : f_lease V t = V 7 t 6 := by
        unfold f_lease at c1 ⊢
        split at c1
        · rename_i q; rw [if_pos q]
        · exact absurd rfl c1
      obtain ⟨z, hz, ez⟩ := (h.2.2.2.1 t ht).2.2.2.2.2.2.2.1
      have z0 : ¬ z = 0 := fun q => c1 (by rw [el, ez, q]; rfl)
      have hW := c_W_open l Z hZ V Y t ht nk c3 h7 c1 c2
      have hR : RelN i nb nk nl V (qv (qv (qv (qv (qv V 0 0 7 ((V 0 0 7) + 1)) 15 nk 0 (nI t)) 15 nk 1 (f_lease V t)) 15 nk 2 1) 7 t 7 ((V 7 t 7) + 1)) := h.r (fun g hg => by rw [qv_fr _ _ _ _ _ _ (by omega), qv_fr _ _ _ _ _ _ (by omega), qv_fr _ _ _ _ _ _ (by omega), qv_fr _ _ _ _ _ _ (by omega), qv_fr _ _ _ _ _ _ (by omega)])
      generalize hV1 : qv (qv (qv (qv (qv V 0 0 7 ((V 0 0 7) + 1)) 15 nk 0 (nI t)) 15 nk 1 (f_lease V t)) 15 nk 2 1) 7 t 7 ((V 7 t 7) + 1) = V1 at hW hR
      have jl : g_lease V1 t = f_lease V t := (J_lease hR (by omega) t ht).symm
      have e24 := hR.1.2.2.2.2.1
      obtain ⟨p1, p2⟩ := hR.2.2.2.2.1 t ht
      have hM := c_M_open l Z hZ V1 (qy Y 45 0 0 ((V 0 0 7).toInt64)) t ht hnt nk hk e24 c3 (by rw [jl]; exact c1) (by
        rw [cN_g]
        refine n_ne (b := 3) (by omega) (by decide) ?_
        intro q
        rw [p2, q] at c2
        exact c2 (by decide))
      rw [jl] at hM
      have cn1 : cN V1 (nI t) nk < 3 := by
        by_cases q : cN V1 (nI t) nk < 3
        · exact q
        · refine absurd ?_ c2
          rw [p2]
          exact nI_le (a := 3) (by omega) (by omega)
      refine ⟨0, _, _, _, _, hW, hM, rfl, fun _ => by show (V 0 0 7).toInt64 = _; rw [h7], nb, nk + 1, nl, RelN.l (A := V1) ?_ (fun g hg => by rw [qv_fr _ _ _ _ _ _ (by omega), qv_fr _ _ _ _ _ _ (by omega), qv_fr _ _ _ _ _ _ (by omega), qv_fr _ _ _ _ _ _ (by omega), qv_fr _ _ _ _ _ _ (by omega)])⟩
      obtain ⟨h0, hB, hC, hT, hO, hD, hN, hL, hK, hP⟩ := hR.up (Nat.le_succ i)
      obtain ⟨a1, a2, a3, a4, a5, a6, a7, a8, a9⟩ := h0
      subst hV1
      refine ⟨⟨a1, a2, a3, ?_, ?_, by omega, a7, a8, a9⟩, hB, hC, hT.eq7 (fun u c hc => by rw [qv_at, if_neg (by omega)]; rfl), ?_, hD, hN, hL, ?_, hP⟩
      · show V 0 0 7 + 1 = _
        rw [h7, nI_1]
      · show V 20 0 24 + 1 = _
        rw [h.1.2.2.2.2.1, nI_1]
      · intro u hu
        rw [cN_open (B := V) (k := nk) (t := t) (nI u) (fun j hj => by simp [qv_at, show ¬ j = nk by omega]) (by simp [qv_at]) (by simp [qv_at])]
        obtain ⟨u1, u2⟩ := h.2.2.2.2.1 u hu
        by_cases ut : u = t
        · subst ut
          rw [if_pos rfl]
          refine ⟨by omega, ?_⟩
          rw [qv_at, if_pos (by simp), u2, nI_1]
        · rw [if_neg (fun q => ut ((nI_eq (by omega) (by omega)).mp q).symm)]
          refine ⟨u1, ?_⟩
          rw [qv_at, if_neg (by omega)]
          exact u2
      · intro k hk2
        by_cases kn : k = nk
        · subst kn
          simp only [qv_at]
          simp
          exact ⟨⟨t, ht, rfl⟩, z - 1, by omega, by rw [el, ez, show z - 1 + 1 = z by omega]⟩
        · simp only [qv_at]
          simp [kn]
          exact h.2.2.2.2.2.2.2.2.1 k (by omega)
  · exact ⟨1, _, _, _, _, c_W_open_x1 l hadm Z hZ V Y t hx, c_M_open_x1 l Z hZ _ _ t (n_not1 (n := 4) (by decide) ne), rfl, fun q => absurd q (by decide), Rel.thrown h 1⟩
theorem op_pay (l : Launch) (hadm : ∀ e : Env, l.admits e → e.platform.stackTraces = false) (Z : qZ) (hZ : qok (pX Z)) (V : qV) (Y : qY) {i : Nat} (h : Rel i V) (w : Int32) : opJ l Z i V Y y_W_pay y_M_pay { frames := 8, cells := 1, slots := 6, locals := 143 } { frames := 3, cells := 0, slots := 0, locals := 82 } [.ref (al Z 0 0), .int w, .ref (al Z 45 0)] [.ref (al Z 20 0), .int w] := by
  obtain ⟨nb, nk, nl, h⟩ := h
  have hk : nk ≤ 40 := h.1.2.2.2.2.2.1
  have h24 := h.1.2.2.2.2.1
  rcases n_bask hk h.1.2.2.2.1 w with ⟨e1, k, hkk, rfl⟩ | ⟨e1, ne⟩
  · have hn : g_not (nI k) (V 20 0 24) = 0 := by rw [h24]; exact g_not_in k hkk (by omega)
    obtain ⟨k0, k1, k2, ⟨t, ht, et⟩, b, hb, eb⟩ := h.2.2.2.2.2.2.2.2.1 k hkk
    by_cases ho : V 15 k 2 = 0
    · exact ⟨1, _, _, _, _, _, c_W_pay_x1b l hadm Z hZ V Y k (by omega) e1 ho, c_M_pay_x1b l Z hZ _ _ k (by omega) hn (by rw [← k2]; exact ho), rfl, fun q => absurd q (by decide), Rel.thrown h 1⟩
    · have hpn : ∃ pn : Nat → Nat, ∀ a, a < 8 → V 16 k a = nI (pn a) ∧ pn a ≤ 30 := by
        refine ⟨fun a => (V 16 k a).toNatClampNeg, fun a ha => ?_⟩
        obtain ⟨_, n, hn, en⟩ := h.2.2.2.2.2.2.2.2.2 k a (by omega) ha
        show V 16 k a = nI ((V 16 k a).toNatClampNeg) ∧ (V 16 k a).toNatClampNeg ≤ 30
        rw [en, nI_clamp (by omega)]
        exact ⟨rfl, hn⟩
      have hzf : ∃ zf : Nat → Nat, ∀ u, u < 16 → V 3 (b + 1) u = nI (zf u) ∧ zf u < 100 := by
        refine ⟨fun u => (V 3 (b + 1) u).toNatClampNeg, fun u hu => ?_⟩
        obtain ⟨_, _, n, hn, en⟩ := h.2.1.2 (b + 1) u (by omega) hu
        show V 3 (b + 1) u = nI ((V 3 (b + 1) u).toNatClampNeg) ∧ (V 3 (b + 1) u).toNatClampNeg < 100
        rw [en, nI_clamp (by omega)]
        exact ⟨rfl, hn⟩
      obtain ⟨pn, hp⟩ := hpn
      obtain ⟨zf, hz⟩ := hzf
      have hR : RelN i nb nk nl V (f_pay V k t) := h.r (fun g hg => by unfold f_pay; rw [qv_fr _ _ _ _ _ _ (by omega), qv_fr _ _ _ _ _ _ (by omega)])
      refine ⟨0, _, _, _, _, _, c_W_pay l Z hZ V Y k (by omega) e1 ho t ht et b hb eb pn zf hp hz, c_M_pay l Z hZ (f_pay V k t) _ k (by omega) (show g_not (nI k) (f_pay V k t 20 0 24) = 0 from hn) (by show ¬ V 40 0 k = 0; rw [← k2]; exact ho) (b + 1) (by omega) (by show V 39 0 k = _; rw [← k1]; exact eb) pn zf (fun a ha => by rw [← (hR.2.2.2.2.2.2.2.2.2 k a (by omega) ha).1]; exact hp a ha) (fun u hu => by rw [← (hR.2.1.2 (b + 1) u (by omega) hu).2.1]; exact hz u hu), rfl, fun _ => ?_, nb, nk, nl, RelN.l (A := f_pay V k t) ?_ (fun g hg => by rw [qv_fr _ _ _ _ _ _ (by omega), qv_fr _ _ _ _ _ _ (by omega)])⟩
      · exact fr_pay hR.2.1 (by omega) pn zf 8 0 _ _ 0 (by decide)
      · obtain ⟨h0, hB, hC, hT, hO, hD, hN, hL, hK, hP⟩ := h.up (Nat.le_succ i)
        unfold f_pay
        refine ⟨h0, hB, hC, hT.eq7 (fun u c hc => by rw [qv_at, if_neg (by omega)]; rfl), ?_, hD, hN, hL, ?_, hP⟩
        · intro u hu
          obtain ⟨u1, u2⟩ := h.2.2.2.2.1 u hu
          have ec := cN_pay (B := V) (B' := qv (qv (qv (qv V 15 k 2 0) 7 t 7 (V 7 t 7 - 1)) 20 0 0 0) 40 0 k 0) (k := k) (t := t) (nI u) rfl (fun j hj => by simp [qv_at, hj]) (by simp [qv_at]) (by rw [← k0]; exact et) (by rw [← k2]; exact ho) nk
          by_cases ut : u = t
          · subst ut
            rw [if_pos ⟨hkk, rfl⟩] at ec
            generalize cN (qv (qv (qv (qv V 15 k 2 0) 7 u 7 (V 7 u 7 - 1)) 20 0 0 0) 40 0 k 0) (nI u) nk = X at ec ⊢
            refine ⟨by omega, ?_⟩
            rw [qv_at, if_pos (by simp), u2, ec, nI_pred]
          · rw [if_neg (fun q => ut ((nI_eq (by omega) (by omega)).mp q.2).symm)] at ec
            refine ⟨by omega, ?_⟩
            rw [qv_at, if_neg (by omega)]
            show V 7 u 7 = _
            rw [u2, ec]
            rfl
        · intro j hj
          by_cases jk : j = k
          · subst jk
            simp only [qv_at]
            simp
            exact ⟨k0, k1, ⟨t, ht, et⟩, b, hb, eb⟩
          · simp only [qv_at]
            simp [jk]
            exact hK j hj
  · exact ⟨1, _, _, _, _, _, c_W_pay_x1a l hadm Z hZ V Y w e1, c_M_pay_x1a l Z hZ _ _ w (by rw [h24]; exact n_not1 (by omega) ne), rfl, fun q => absurd q (by decide), Rel.thrown h 1⟩
theorem J_scan {i nb nk nl : Nat} {V : qV} (h : RelN i nb nk nl V V) {k n : Nat} (hk : k < 40) (hn : n < 8) {x : Int32} (hx : ∃ y, y ≤ 30 ∧ x = nI y) : Rel (i + 1) (qv (qv (qv (qv V 16 k n x) 20 0 0 0) 20 0 0 0) 41 0 (8 * k + n) x) := by
  refine ⟨nb, nk, nl, RelN.l (A := qv V 16 k n x) ?_ (fun g hg => by rw [qv_fr _ _ _ _ _ _ (by omega), qv_fr _ _ _ _ _ _ (by omega), qv_fr _ _ _ _ _ _ (by omega)])⟩
  obtain ⟨h0, hB, hC, hT, hO, hD, hN, hL, hK, hP⟩ := h.up (Nat.le_succ i)
  refine ⟨h0, hB, hC, hT, hO.eq rfl rfl rfl, hD, hN, hL, hK, ?_⟩
  intro j a hj ha
  simp only [qv_at]
  by_cases q : j = k ∧ a = n
  · obtain ⟨rfl, rfl⟩ := q
    simp
    exact hx
  · have q2 : ¬ 8 * j + a = 8 * k + n := by omega
    simp
    simp only [if_neg q, if_neg q2]
    exact hP j a hj ha
theorem op_scan (l : Launch) (hadm : ∀ e : Env, l.admits e → e.platform.stackTraces = false) (Z : qZ) (hZ : qok (pX Z)) (V : qV) (Y : qY) {i : Nat} (h : Rel i V) (w a g : Int32) : opI l Z i V Y y_W_scan y_M_scan { frames := 8, cells := 1, slots := 6, locals := 141 } { frames := 3, cells := 0, slots := 0, locals := 82 } [.ref (al Z 0 0), .int w, .int a, .int g, .ref (al Z 45 0)] [.ref (al Z 20 0), .int w, .int a, .int g] := by
  obtain ⟨nb, nk, nl, h⟩ := h
  have hk : nk ≤ 40 := h.1.2.2.2.2.2.1
  have h24 := h.1.2.2.2.2.1
  rcases n_bask hk h.1.2.2.2.1 w with ⟨e1, k, hkk, rfl⟩ | ⟨e1, ne⟩
  · have hn : g_not (nI k) (V 20 0 24) = 0 := by rw [h24]; exact g_not_in k hkk (by omega)
    obtain ⟨k0, k1, k2, ⟨t, ht, et⟩, b, hb, eb⟩ := h.2.2.2.2.2.2.2.2.1 k hkk
    have eb2 : V 39 0 k = nI (b + 1) := by rw [← k1]; exact eb
    by_cases ho : V 15 k 2 = 0
    · exact ⟨1, _, _, _, _, c_W_scan_x1b l hadm Z hZ V Y k (by omega) e1 ho a g, c_M_scan_x1b l Z hZ _ _ k (by omega) hn (by rw [← k2]; exact ho) a g, rfl, fun q => absurd q (by decide), Rel.thrown h 1⟩
    · have ho2 : ¬ V 40 0 k = 0 := by rw [← k2]; exact ho
      rcases n_art a with ⟨e2, n, hnn, rfl⟩ | ⟨e2, na⟩
      · have hna := g_not_in (n := 8) n hnn (by decide)
        obtain ⟨p1, y, hy, ey⟩ := h.2.2.2.2.2.2.2.2.2 k n (by omega) hnn
        have ep := h.2.1.1 (b + 1) n (by omega) hnn
        by_cases g1 : g = 1
        · subst g1
          by_cases hs : V 2 (b + 1) n = 0
          · exact ⟨2, _, _, _, _, c_W_scan_p_x2 l hadm Z hZ V Y k (by omega) e1 ho b hb eb n hnn e2 (by unfold f_sells; rw [if_pos hs]), c_M_scan_p_x2 l Z hZ _ _ k (by omega) hn ho2 (b + 1) (by omega) eb2 n hnn hna (by rw [← ep]; exact hs), rfl, fun q => absurd q (by decide), Rel.thrown h 2⟩
          · have hs1 : f_sells V (b + 1) n = 1 := by unfold f_sells; rw [if_neg hs]
            have hs2 : ¬ V 21 0 (8 * (b + 1) + n) = 0 := by rw [← ep]; exact hs
            have eq1 : V 16 k n + 1 = nI (y + 1) := by rw [ey, nI_1]
            by_cases y30 : y = 30
            · exact ⟨3, _, _, _, _, c_W_scan_p_x3 l hadm Z hZ V Y k (by omega) e1 ho b hb eb n hnn e2 hs1 (Or.inr (by rw [eq1, y30]; decide)), c_M_scan_p_x3 l Z hZ _ _ k (by omega) hn ho2 (b + 1) (by omega) eb2 n hnn hna hs2 (Or.inl (by rw [← p1, eq1, y30]; rfl)), rfl, fun q => absurd q (by decide), Rel.thrown h 3⟩
            · have hW := c_W_scan_p l Z hZ V Y k (by omega) e1 ho b hb eb n hnn e2 hs1 (by rw [eq1]; exact nI_pos (by omega)) (by rw [eq1]; exact nI_le (b := 30) (by omega) (by decide))
              have p1' : (qv V 16 k n (V 16 k n + 1)) 41 0 (8 * k + n) = V 16 k n := p1.symm
              have hM := c_M_scan_p l Z hZ (qv V 16 k n (V 16 k n + 1)) (qy Y 45 0 0 ((V 16 k n + 1).toInt64)) k (by omega) hn ho2 (b + 1) (by omega) eb2 n hnn hna hs2 (by rw [p1', eq1]; exact n_ne (b := 31) (by omega) (by decide) (by omega)) (by rw [p1', eq1]; intro q; exact nI_pos (n := y + 1) (by omega) (by rw [q]; decide))
              rw [p1'] at hM
              exact ⟨0, _, _, _, _, hW, hM, rfl, fun _ => rfl, J_scan h (by omega) hnn ⟨y + 1, by omega, eq1⟩⟩
        · by_cases g2 : g = -1
          · subst g2
            by_cases hs : V 2 (b + 1) n = 0
            · exact ⟨2, _, _, _, _, c_W_scan_m_x2 l hadm Z hZ V Y k (by omega) e1 ho b hb eb n hnn e2 (by unfold f_sells; rw [if_pos hs]), c_M_scan_m_x2 l Z hZ _ _ k (by omega) hn ho2 (b + 1) (by omega) eb2 n hnn hna (by rw [← ep]; exact hs), rfl, fun q => absurd q (by decide), Rel.thrown h 2⟩
            · have hs1 : f_sells V (b + 1) n = 1 := by unfold f_sells; rw [if_neg hs]
              have hs2 : ¬ V 21 0 (8 * (b + 1) + n) = 0 := by rw [← ep]; exact hs
              by_cases y0 : y = 0
              · have eq1 : V 16 k n + (-1) = -1 := by rw [ey, y0]; decide
                exact ⟨3, _, _, _, _, c_W_scan_m_x3 l hadm Z hZ V Y k (by omega) e1 ho b hb eb n hnn e2 hs1 (Or.inl (by rw [eq1]; decide)), c_M_scan_m_x3 l Z hZ _ _ k (by omega) hn ho2 (b + 1) (by omega) eb2 n hnn hna hs2 (Or.inr (by rw [← p1]; exact eq1)), rfl, fun q => absurd q (by decide), Rel.thrown h 3⟩
              · obtain ⟨x, rfl⟩ : ∃ x, y = x + 1 := ⟨y - 1, by omega⟩
                have eq1 : V 16 k n + (-1) = nI x := by rw [ey, pk_m1]
                have hW := c_W_scan_m l Z hZ V Y k (by omega) e1 ho b hb eb n hnn e2 hs1 (by rw [eq1]; exact nI_pos (by omega)) (by rw [eq1]; exact nI_le (b := 30) (by omega) (by decide))
                have p1' : (qv V 16 k n (V 16 k n + (-1))) 41 0 (8 * k + n) = V 16 k n := p1.symm
                have hM := c_M_scan_m l Z hZ (qv V 16 k n (V 16 k n + (-1))) (qy Y 45 0 0 ((V 16 k n + (-1)).toInt64)) k (by omega) hn ho2 (b + 1) (by omega) eb2 n hnn hna hs2 (by rw [p1', eq1]; exact n_ne (b := 31) (by omega) (by decide) (by omega)) (by rw [p1', eq1]; intro q; exact nI_pos (n := x) (by omega) (by rw [q]; decide))
                rw [p1'] at hM
                exact ⟨0, _, _, _, _, hW, hM, rfl, fun _ => rfl, J_scan h (by omega) hnn ⟨x, by omega, eq1⟩⟩
          · exact ⟨2, _, _, _, _, c_W_scan_x2a l hadm Z hZ V Y k (by omega) e1 ho (nI n) g (Or.inr ⟨g1, g2⟩), c_M_scan_x2a l Z hZ _ _ k (by omega) hn ho2 (nI n) g (Or.inr ⟨g1, g2⟩), rfl, fun q => absurd q (by decide), Rel.thrown h 2⟩
      · exact ⟨2, _, _, _, _, c_W_scan_x2a l hadm Z hZ V Y k (by omega) e1 ho a g (Or.inl e2), c_M_scan_x2a l Z hZ _ _ k (by omega) hn ho2 a g (Or.inl (n_not1 (n := 8) (by decide) na)), rfl, fun q => absurd q (by decide), Rel.thrown h 2⟩
  · exact ⟨1, _, _, _, _, c_W_scan_x1a l hadm Z hZ V Y w e1 a g, c_M_scan_x1a l Z hZ _ _ w (by rw [h24]; exact n_not1 (by omega) ne) a g, rfl, fun q => absurd q (by decide), Rel.thrown h 1⟩
