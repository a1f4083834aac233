/-! The calls -/
theorem Rel.thrown {i nb nk nl : Nat} {V : qV} (h : RelN i nb nk nl V V) (c : Int32) : Rel (i + 1) (qv V 20 0 0 c) := ⟨nb, nk, nl, ((h.up (Nat.le_succ i)).code c).l (fun g hg => qv_fr _ _ _ _ _ _ (by omega))⟩
theorem g_not_in {n : Nat} (j : Nat) (hj : j < n) (hn : n < 2 ^ 31) : g_not (nI j) (nI n) = 0 := (n_not hn).mpr ⟨j, hj, rfl⟩
theorem g_look_20 (V : qV) : g_look V 20 0 0 = V 20 0 0 := by
  unfold g_look g_look1 g_wake
  repeat' split
  all_goals rfl
theorem g_look_20b (V : qV) (k : Nat) (hk : k ≠ 13 ∧ k ≠ 14 ∧ k ≠ 15) : g_look V 20 0 k = V 20 0 k := by
  unfold g_look g_look1 g_wake
  repeat' split
  all_goals simp [qv_at, hk]
theorem g_ticks_20 (r : Nat) : ∀ V : qV, g_ticks r V 20 0 0 = V 20 0 0 := by
  induction r with
  | zero => intro V; rfl
  | succ r ih => intro V; show g_ticks r _ 20 0 0 = _; rw [ih, g_look_20]; rfl
theorem g_ticks_fr (r : Nat) (g : Nat) (hg : g ≠ 20 ∧ g ≠ 24) : ∀ V : qV, g_ticks r V g = V g := by
  induction r with
  | zero => intro V; rfl
  | succ r ih =>
    intro V
    show g_ticks r _ g = _
    rw [ih, g_look_fr _ _ hg.1]
    unfold g_hour
    rw [qv_fr _ _ _ _ _ _ hg.2, qv_fr _ _ _ _ _ _ hg.2, qv_fr _ _ _ _ _ _ hg.2, qv_fr _ _ _ _ _ _ hg.2, qv_fr _ _ _ _ _ _ hg.2]
theorem f_fetch_fr (t : Int32) (g : Nat) (hg : g ≠ 12 ∧ g ≠ 13) (r : Nat) : ∀ (b : Nat) (V : qV), f_fetch t r b V g = V g := by
  induction r with
  | zero => intro b V; rfl
  | succ r ih => intro b V; show f_fetch t r _ _ g = _; rw [ih, f_put_fr _ _ _ _ _ _ hg]
theorem g_fetch_fr (t : Int32) (g : Nat) (hg : g ≠ 20 ∧ g ≠ 37) (r : Nat) : ∀ (b : Nat) (V : qV), g_fetch t r b V g = V g := by
  induction r with
  | zero => intro b V; rfl
  | succ r ih => intro b V; show g_fetch t r _ _ g = _; rw [ih, g_put_fr _ _ _ _ _ _ hg]
theorem g_fetch_20 (t : Int32) (r : Nat) : ∀ (b : Nat) (V : qV), g_fetch t r b V 20 0 0 = V 20 0 0 := by
  induction r with
  | zero => intro b V; rfl
  | succ r ih => intro b V; show g_fetch t r _ _ 20 0 0 = _; rw [ih, g_put_20 _ _ _ _ _ _ (by decide)]
theorem f_publish_fr (V : qV) (n g : Nat) (hg : 14 ≤ g) : f_publish V n g = V g := by
  unfold f_publish f_pub1
  rw [f_put_fr _ _ _ _ _ _ (by omega), f_put_fr _ _ _ _ _ _ (by omega), f_put_fr _ _ _ _ _ _ (by omega), f_put_fr _ _ _ _ _ _ (by omega), qv_fr _ _ _ _ _ _ (by omega), f_copy_fr _ _ _ (by omega)]
theorem g_publish_fr (V : qV) (n g : Nat) (hg : g < 20) : g_publish V n g = V g := by
  unfold g_publish g_pub2 g_pub1 g_pub0
  rw [g_put_fr _ _ _ _ _ _ (by omega), g_put_fr _ _ _ _ _ _ (by omega), g_put_fr _ _ _ _ _ _ (by omega), g_put_fr _ _ _ _ _ _ (by omega), qu_fr _ _ _ _ _ (by omega), qu_fr _ _ _ _ _ (by omega), qu_fr _ _ _ _ _ (by omega), qv_fr _ _ _ _ _ _ (by omega), qv_fr _ _ _ _ _ _ (by omega)]
theorem RT.eq7 {i nb : Nat} {A B A' : qV} (h : RT i nb A B) (e : ∀ t c, c < 7 → A' 7 t c = A 7 t c) : RT i nb A' B := by
  intro t ht
  rw [e t 1 (by decide), e t 2 (by decide), e t 3 (by decide), e t 4 (by decide), e t 5 (by decide), e t 6 (by decide)]
  exact h t ht
theorem RO.eq7 {nk : Nat} {A B A' B' : qV} (h : RO nk A B) (e : ∀ t, A' 7 t 7 = A 7 t 7) (e1 : B' 38 = B 38) (e2 : B' 40 = B 40) : RO nk A' B' := by
  intro t ht
  rw [e t, cN_eq (B := B) (B' := B') (nI t) nk (fun k _ => ⟨by rw [e1], by rw [e2]⟩)]
  exact h t ht
theorem op_article (l : Launch) (hadm : ∀ e : Env, l.admits e → e.platform.stackTraces = false) (Z : qZ) (hZ : qok (pX Z)) (V : qV) (Y : qY) {i : Nat} (h : Rel i V) (a w : Int32) : opV l Z i V Y y_W_article y_M_article { frames := 7, cells := 1, slots := 6, locals := 118 } { frames := 2, cells := 0, slots := 0, locals := 61 } [.ref (al Z 0 0), .int a, .int w] [.ref (al Z 20 0), .int a, .int w] := by
  obtain ⟨nb, nk, nl, h⟩ := h
  rcases n_art a with ⟨e1, n, hn, rfl⟩ | ⟨e1, ne⟩
  · rcases n_amt w with ⟨e2, w1, w2⟩ | ⟨e2, w1⟩
    · refine ⟨0, _, _, _, c_W_article l Z hZ V Y n hn w e1 e2, c_M_article l Z hZ _ _ n hn w (g_not_in (n := 8) n hn (by decide)) w1 w2, rfl, nb, nk, nl, RelN.l (A := qv V 2 0 n w) ?_ (fun g hg => by rw [qv_fr _ _ _ _ _ _ (by omega), qv_fr _ _ _ _ _ _ (by omega)])⟩
      obtain ⟨h0, hB, hC, hT, hO, hD, hN, hL, hK, hP⟩ := h.up (Nat.le_succ i)
      refine ⟨h0, ⟨fun b a hb ha => ?_, hB.2⟩, hC, hT, hO.eq, hD, hN, hL, hK, hP⟩
      rw [qv_at, qv_at]
      by_cases q : b = 0 ∧ a = n
      · rw [if_pos ⟨rfl, q.1, q.2⟩, if_pos ⟨rfl, rfl, by omega⟩]
      · rw [if_neg (fun z => q z.2), if_neg (fun z => q (by omega))]
        exact hB.1 b a hb ha
    · exact ⟨1, _, _, _, c_W_article_x l hadm Z hZ V Y (nI n) w (Or.inr e2), c_M_article_x l Z hZ _ _ (nI n) w (Or.inr w1), rfl, Rel.thrown h 1⟩
  · exact ⟨1, _, _, _, c_W_article_x l hadm Z hZ V Y a w (Or.inl e1), c_M_article_x l Z hZ _ _ a w (Or.inl (n_not1 (n := 8) (by decide) ne)), rfl, Rel.thrown h 1⟩
theorem op_bundle (l : Launch) (hadm : ∀ e : Env, l.admits e → e.platform.stackTraces = false) (Z : qZ) (hZ : qok (pX Z)) (V : qV) (Y : qY) {i : Nat} (h : Rel i V) (a u z w : Int32) : opV l Z i V Y y_W_bundle y_M_bundle { frames := 7, cells := 1, slots := 6, locals := 120 } { frames := 2, cells := 0, slots := 0, locals := 61 } [.ref (al Z 0 0), .int a, .int u, .int z, .int w] [.ref (al Z 20 0), .int a, .int u, .int z, .int w] := by
  obtain ⟨nb, nk, nl, h⟩ := h
  rcases n_art a with ⟨e1, n, hn, rfl⟩ | ⟨e1, ne⟩
  · rcases n_slot u with ⟨e2, u, hu, rfl⟩ | ⟨e2, nu⟩
    · rcases n_bsz z with ⟨e3, z1, zz, hz, ez⟩ | ⟨e3, z1⟩
      · rcases n_amt w with ⟨e4, w1, w2⟩ | ⟨e4, w1⟩
        · refine ⟨0, _, _, _, c_W_bundle l Z hZ V Y n u hn hu z w e1 e2 e3 e4, c_M_bundle l Z hZ _ _ n u hn hu z w (g_not_in (n := 8) n hn (by decide)) (g_not_in (n := 2) u hu (by decide)) z1 w1 w2, rfl, nb, nk, nl, RelN.l (A := qv (qv V 3 0 (n * 2 + u) z) 4 0 (n * 2 + u) w) ?_ (fun g hg => by rw [qv_fr _ _ _ _ _ _ (by omega), qv_fr _ _ _ _ _ _ (by omega), qv_fr _ _ _ _ _ _ (by omega)])⟩
          obtain ⟨h0, hB, hC, hT, hO, hD, hN, hL, hK, hP⟩ := h.up (Nat.le_succ i)
          refine ⟨h0, ⟨hB.1, fun b v hb hv => ?_⟩, hC, hT, hO.eq, hD, hN, hL, hK, hP⟩
          simp only [qv_at]
          by_cases q : b = 0 ∧ v = n * 2 + u
          · obtain ⟨rfl, rfl⟩ := q
            rw [show 16 * 0 + (n * 2 + u) = 2 * n + u by omega]
            simp
            exact ⟨zz, hz, ez⟩
          · have q2 : ¬ 16 * b + v = 2 * n + u := by omega
            simp
            simp only [if_neg q, if_neg q2]
            exact hB.2 b v hb hv
        · exact ⟨1, _, _, _, c_W_bundle_x l hadm Z hZ V Y (nI n) (nI u) z w (Or.inr (Or.inr (Or.inr e4))), c_M_bundle_x l Z hZ _ _ (nI n) (nI u) z w (Or.inr (Or.inr (Or.inr w1))), rfl, Rel.thrown h 1⟩
      · exact ⟨1, _, _, _, c_W_bundle_x l hadm Z hZ V Y (nI n) (nI u) z w (Or.inr (Or.inr (Or.inl e3))), c_M_bundle_x l Z hZ _ _ (nI n) (nI u) z w (Or.inr (Or.inr (Or.inl z1))), rfl, Rel.thrown h 1⟩
    · exact ⟨1, _, _, _, c_W_bundle_x l hadm Z hZ V Y (nI n) u z w (Or.inr (Or.inl e2)), c_M_bundle_x l Z hZ _ _ (nI n) u z w (Or.inr (Or.inl (n_not1 (n := 2) (by decide) nu))), rfl, Rel.thrown h 1⟩
  · exact ⟨1, _, _, _, c_W_bundle_x l hadm Z hZ V Y a u z w (Or.inl e1), c_M_bundle_x l Z hZ _ _ a u z w (Or.inl (n_not1 (n := 8) (by decide) ne)), rfl, Rel.thrown h 1⟩
theorem op_publish (l : Launch) (hadm : ∀ e : Env, l.admits e → e.platform.stackTraces = false) (Z : qZ) (hZ : qok (pX Z)) (V : qV) (Y : qY) {i : Nat} (h : Rel i V) : opI l Z i V Y y_W_publish y_M_publish { frames := 7, cells := 1, slots := 6, locals := 117 } { frames := 2, cells := 0, slots := 0, locals := 64 } [.ref (al Z 0 0), .ref (al Z 45 0)] [.ref (al Z 20 0)] := by
  obtain ⟨nb, nk, nl, h⟩ := h
  by_cases hb : nb < 9
  · have hR : RelN i nb nk nl V (f_publish V nb) := h.r (fun g hg => f_publish_fr V nb g (by omega))
    obtain ⟨ml, hJ⟩ := J_publish (hR.up (Nat.le_succ i)) hb
    refine ⟨0, _, _, _, _, c_W_publish l Z hZ V Y nb hb h.1.1 h.cnt, c_M_publish l Z hZ _ _ nb hb hR.1.2.1 hR.cntB, ?_, fun _ => ?_, nb + 1, nk, ml, hJ.l (fun g hg => g_publish_fr _ _ _ hg)⟩
    · unfold g_publish
      rw [g_put_20 _ _ _ _ _ _ (by decide), g_put_20 _ _ _ _ _ _ (by decide), g_put_20 _ _ _ _ _ _ (by decide), g_put_20 _ _ _ _ _ _ (by decide)]
      rfl
    · show (V 0 0 2 + 1).toInt64 = _
      rw [h.1.1, nI_1]
  · have hb9 : nb = 9 := by have := h.1.2.2.1; omega
    subst hb9
    exact ⟨1, _, _, _, _, c_W_publish_x l hadm Z hZ V Y (by rw [h.1.1]; decide), c_M_publish_x l Z hZ _ _ (by rw [h.1.2.1]; rfl), rfl, fun q => absurd q (by decide), Rel.thrown h 1⟩
theorem op_activate (l : Launch) (hadm : ∀ e : Env, l.admits e → e.platform.stackTraces = false) (Z : qZ) (hZ : qok (pX Z)) (V : qV) (Y : qY) {i : Nat} (hi : i ≤ 512) (h : Rel i V) (b : Int32) : opV l Z i V Y y_W_activate y_M_activate { frames := 7, cells := 1, slots := 6, locals := 122 } { frames := 4, cells := 0, slots := 0, locals := 103 } [.ref (al Z 0 0), .int b] [.ref (al Z 20 0), .int b] := by
  obtain ⟨nb, nk, nl, h⟩ := h
  rcases n_book h.1.2.2.1 h.1.1 b with ⟨e1, b1, b2, b', hb', eb⟩ | ⟨e1, b1⟩
  · by_cases hc : b ≤ V 9 0 2 ∨ ¬ V 9 0 3 < b
    · exact ⟨2, _, _, _, c_W_activate_x2 l hadm Z hZ V Y b e1 hc, c_M_activate_x2 l Z hZ _ _ b b1 (by rw [h.1.2.1]; exact b2) (by rw [← h.2.2.2.2.2.1.1, ← h.2.2.2.2.2.1.2.1]; exact hc), rfl, Rel.thrown h 2⟩
    · have c1 : ¬ b ≤ V 9 0 2 := fun q => hc (Or.inl q)
      have c2 : V 9 0 3 < b := by
        by_cases q : V 9 0 3 < b
        · exact q
        · exact absurd (Or.inr q) hc
      have hR : RelN i nb nk nl V (f_look (qv V 9 0 3 b)) := h.r (fun g hg => by rw [f_look_fr _ _ (by omega), qv_fr _ _ _ _ _ _ (by omega)])
      have hJ : RelN (i + 1) nb nk nl (f_look (qv V 9 0 3 b)) (g_look (qv (qv (f_look (qv V 9 0 3 b)) 20 0 0 0) 20 0 14 b)) := by
        refine J_look ?_ (by omega)
        obtain ⟨h0, hB, hC, hT, hO, hD, hN, hL, hK, hP⟩ := (hR.up (Nat.le_succ i))
        obtain ⟨d1, d2, d3, d4, d5, d6, d7⟩ := hD
        exact ⟨h0, hB, hC, hT, hO.eq, ⟨d1, rfl, d3, d4, ⟨b' + 1, by omega, eb⟩, d6, d7⟩, hN, hL, hK, hP⟩
      refine ⟨0, _, _, _, c_W_activate l Z hZ V Y b e1 c1 c2, c_M_activate l Z hZ _ _ b b1 (by rw [hR.1.2.1]; exact b2) (by rw [← hR.2.2.2.2.2.1.1]; exact c1) (by rw [← hR.2.2.2.2.2.1.2.1]; exact c2), by rw [g_look_20]; rfl, nb, nk, nl, hJ.l (fun g hg => by rw [g_look_fr _ _ (by omega), qv_fr _ _ _ _ _ _ (by omega), qv_fr _ _ _ _ _ _ (by omega)])⟩
  · exact ⟨1, _, _, _, c_W_activate_x1 l hadm Z hZ V Y b e1, c_M_activate_x1 l Z hZ _ _ b (by rw [h.1.2.1]; exact b1), rfl, Rel.thrown h 1⟩
theorem n_tick (n : Int32) : (∃ k, 1 ≤ k ∧ k ≤ 500 ∧ n = nI k ∧ ¬ n < 1 ∧ n ≤ 500) ∨ (n < 1 ∨ ¬ n ≤ 500) := by
  by_cases h1 : n < 1
  · exact Or.inr (Or.inl h1)
  · by_cases h2 : n ≤ 500
    · obtain ⟨k, hk, e⟩ := nI_of2 (x := n) (M := 500) (n := 500) (by decide) (fun q => h1 (Int32.lt_trans q (by decide))) h2
      refine Or.inl ⟨k, ?_, hk, e, h1, h2⟩
      by_cases k0 : k = 0
      · rw [e, k0] at h1; exact absurd (by decide) h1
      · omega
    · exact Or.inr (Or.inr h2)
theorem op_tick (l : Launch) (hadm : ∀ e : Env, l.admits e → e.platform.stackTraces = false) (Z : qZ) (hZ : qok (pX Z)) (V : qV) (Y : qY) {i : Nat} (hi : i ≤ 512) (h : Rel i V) (n : Int32) : opI l Z i V Y y_W_tick y_M_tick { frames := 7, cells := 1, slots := 6, locals := 123 } { frames := 4, cells := 0, slots := 0, locals := 103 } [.ref (al Z 0 0), .int n, .ref (al Z 45 0)] [.ref (al Z 20 0), .int n] := by
  obtain ⟨nb, nk, nl, h⟩ := h
  rcases n_tick n with ⟨k, k1, k2, rfl, n1, n2⟩ | hx
  · have hR : RelN i nb nk nl V (f_look (f_go5 V (nI k))) := h.r (fun g hg => by rw [f_look_fr _ _ (by omega), f_go5_fr _ _ _ (by omega)])
    have hJ := J_tick hi (hR.code 0) k1 k2
    refine ⟨0, _, _, _, _, c_W_tick l Z hZ V Y (nI k) n1 n2, c_M_tick l Z hZ _ _ k k2 n1 n2, by rw [g_ticks_20]; rfl, fun _ => ?_, nb, nk, nl, hJ.l (fun g hg => by rw [g_ticks_fr _ _ (by omega), qv_fr _ _ _ _ _ _ (by omega)])⟩
    have e := (hJ.2.2.1 4 (by decide)).1
    rw [f_look_fr _ _ (by decide), f_go5_at, if_pos (by decide)] at e
    show ((V 8 4 0 + nI k * V 8 4 1) / 100).toInt64 = _
    rw [e]
  · exact ⟨1, _, _, _, _, c_W_tick_x l hadm Z hZ V Y n hx, c_M_tick_x l Z hZ _ _ n hx, rfl, fun q => absurd q (by decide), Rel.thrown h 1⟩
theorem op_rate (l : Launch) (hadm : ∀ e : Env, l.admits e → e.platform.stackTraces = false) (Z : qZ) (hZ : qok (pX Z)) (V : qV) (Y : qY) {i : Nat} (h : Rel i V) (w q : Int32) : opV l Z i V Y y_W_rate y_M_rate { frames := 7, cells := 1, slots := 6, locals := 119 } { frames := 2, cells := 0, slots := 0, locals := 61 } [.ref (al Z 0 0), .int w, .int q] [.ref (al Z 20 0), .int w, .int q] := by
  obtain ⟨nb, nk, nl, h⟩ := h
  rcases n_td w with ⟨e1, t, ht, rfl⟩ | ⟨e1, ne⟩
  · by_cases hx : q < 99 ∨ ¬ q ≤ 101
    · exact ⟨1, _, _, _, c_W_rate_x l hadm Z hZ V Y (nI t) q (Or.inr hx), c_M_rate_x l Z hZ _ _ (nI t) q (Or.inr hx), rfl, Rel.thrown h 1⟩
    · have q1 : ¬ q < 99 := fun z => hx (Or.inl z)
      have q2 : q ≤ 101 := by
        by_cases z : q ≤ 101
        · exact z
        · exact absurd (Or.inr z) hx
      obtain ⟨y, hy, ey⟩ := nI_of2 (x := q) (M := 101) (n := 101) (by decide) (fun z => q1 (Int32.lt_trans z (by decide))) q2
      have hJ : RelN (i + 1) nb nk nl (qv V 8 t 1 q) (qv (qv (qv V 8 t 1 q) 20 0 0 0) 25 0 t q) := by
        obtain ⟨h0, hB, hC, hT, hO, hD, hN, hL, hK, hP⟩ := h.up (Nat.le_succ i)
        refine ⟨h0, hB, ?_, hT, hO.eq, ?_, hN, hL, hK, hP⟩
        · intro c hc
          by_cases ct : c = t
          · subst ct
            simp only [qv_at]
            simp
            obtain ⟨c1, c2, c3, c4⟩ := hC c hc
            exact ⟨c1, c3, y, hy, ey⟩
          · simp only [qv_at]
            simp [ct]
            exact hC c hc
        · have e : qv V 8 t 1 q 8 4 0 = V 8 4 0 := by simp [qv_at]
          obtain ⟨d1, d2, d3, d4, d5, d6, d7⟩ := hD
          refine ⟨d1, d2, d3, d4, d5, d6, fun z => ?_⟩
          rw [e]
          exact d7 z
      have hW : CT l y_W_rate { frames := 7, cells := 1, slots := 6, locals := 119 } (pX Z) (qA (pX Z)) [.ref (al Z 0 0), .int (nI t), .int q] V Y (.inl (some (.int 0))) (qv V 8 t 1 q) Y := by
        by_cases t4 : t < 4
        · exact c_W_rate l Z hZ V Y t t4 q e1 q1 q2
        · have : t = 4 := by omega
          subst this
          exact c_W_rate_desk l Z hZ V Y q e1 q1 q2
      exact ⟨0, _, _, _, hW, c_M_rate l Z hZ _ _ t ht q (g_not_in (n := 5) t ht (by decide)) q1 q2, rfl, nb, nk, nl, hJ.l (fun g hg => by rw [qv_fr _ _ _ _ _ _ (by omega), qv_fr _ _ _ _ _ _ (by omega)])⟩
  · exact ⟨1, _, _, _, c_W_rate_x l hadm Z hZ V Y w q (Or.inl e1), c_M_rate_x l Z hZ _ _ w q (Or.inl (n_not1 (n := 5) (by decide) ne)), rfl, Rel.thrown h 1⟩
theorem op_fetch (l : Launch) (hadm : ∀ e : Env, l.admits e → e.platform.stackTraces = false) (Z : qZ) (hZ : qok (pX Z)) (V : qV) (Y : qY) {i : Nat} (h : Rel i V) (t : Int32) : opI l Z i V Y y_W_fetch y_M_fetch { frames := 8, cells := 1, slots := 6, locals := 139 } { frames := 2, cells := 0, slots := 0, locals := 64 } [.ref (al Z 0 0), .int t, .ref (al Z 45 0)] [.ref (al Z 20 0), .int t] := by
  obtain ⟨nb, nk, nl, h⟩ := h
  rcases n_till t with ⟨t, ht, rfl⟩ | ⟨hx, ne⟩
  · obtain ⟨n, hn, en⟩ := (h.2.2.2.1 t ht).2.2.2.2.2.2.1
    have hR : RelN i nb nk nl V (f_fetch (nI t) (nb - n) (n + 1) V) := h.r (fun g hg => f_fetch_fr _ _ (by omega) _ _ _)
    obtain ⟨ml, hJ⟩ := J_fetch ht (nb - n) (n + 1) nl V _ ((hR.up (Nat.le_succ i)).code 0) (by omega)
    exact ⟨0, _, _, _, _, c_W_fetch l Z hZ V Y t ht n nb hn h.1.2.2.1 en h.1.1 h.cnt, c_M_fetch l Z hZ _ _ t ht (g_not_in (n := 4) t ht (by decide)) n nb hn h.1.2.2.1 (by rw [← (hR.2.2.2.1 t ht).1]; exact en) hR.1.2.1 hR.cntB, by rw [g_fetch_20]; rfl, fun _ => rfl, nb, nk, ml, hJ.l (fun g hg => by rw [g_fetch_fr _ _ (by omega), qv_fr _ _ _ _ _ _ (by omega)])⟩
  · exact ⟨1, _, _, _, _, c_W_fetch_x1 l hadm Z hZ V Y t hx, c_M_fetch_x1 l Z hZ _ _ t (n_not1 (n := 4) (by decide) ne), rfl, fun q => absurd q (by decide), Rel.thrown h 1⟩
theorem op_ready (l : Launch) (hadm : ∀ e : Env, l.admits e → e.platform.stackTraces = false) (Z : qZ) (hZ : qok (pX Z)) (V : qV) (Y : qY) {i : Nat} (h : Rel i V) (t : Int32) : opI l Z i V Y y_W_ready y_M_ready { frames := 8, cells := 1, slots := 6, locals := 138 } { frames := 2, cells := 0, slots := 0, locals := 64 } [.ref (al Z 0 0), .int t, .ref (al Z 45 0)] [.ref (al Z 20 0), .int t] := by
  obtain ⟨nb, nk, nl, h⟩ := h
  rcases n_till t with ⟨t, ht, rfl⟩ | ⟨hx, ne⟩
  · by_cases h0 : V 7 t 1 = 0
    · exact ⟨2, _, _, _, _, c_W_ready_x2 l hadm Z hZ V Y t ht h0, c_M_ready_x2 l Z hZ _ _ t ht (g_not_in (n := 4) t ht (by decide)) (by rw [← (h.2.2.2.1 t ht).1]; exact h0), rfl, fun q => absurd q (by decide), Rel.thrown h 2⟩
    · obtain ⟨b, hb, eb⟩ := (h.2.2.2.1 t ht).2.2.2.2.2.2.1
      have hR : RelN i nb nk nl V (f_put (qv V 7 t 2 (V 7 t 1)) 3 (nI t) (V 7 t 1) 0) := h.r (fun g hg => by rw [f_put_fr _ _ _ _ _ _ (by omega), qv_fr _ _ _ _ _ _ (by omega)])
      generalize hV1 : f_put (qv V 7 t 2 (V 7 t 1)) 3 (nI t) (V 7 t 1) 0 = V1 at hR
      have e26 : V1 26 0 t = V 7 t 1 := ((hR.2.2.2.1 t ht).1).symm
      have hS : RelN (i + 1) nb nk nl (qv V 7 t 2 (V 7 t 1)) (qv (qv V1 20 0 0 0) 27 0 t (V 7 t 1)) := by
        obtain ⟨h0, hB, hC, hT, hO, hD, hN, hL, hK, hP⟩ := hR.up (Nat.le_succ i)
        refine ⟨h0, hB, hC, ?_, hO.eq7 (fun u => by simp [qv_at]) rfl rfl, hD, hN, hL, hK, hP⟩
        intro u hu
        by_cases ut : u = t
        · subst ut
          simp only [qv_at]
          simp
          obtain ⟨t1, t2, t3⟩ := hT u hu
          exact ⟨t1, t3⟩
        · simp only [qv_at]
          simp [ut]
          exact hT u hu
      obtain ⟨ml, hJ⟩ := J_put hS (k := 3) (t := nI t) (b := V 7 t 1) (a := 0) ⟨3, by decide, rfl⟩ ⟨t, ht, rfl⟩ ⟨b, hb, eb⟩ (fun q => absurd q (by decide))
      rw [hV1] at hJ
      have hM := c_M_ready l Z hZ V1 (qy Y 45 0 0 ((V 7 t 1).toInt64)) t ht (g_not_in (n := 4) t ht (by decide)) (by rw [e26]; exact h0) hR.cntB
      rw [e26] at hM
      have hW := c_W_ready l Z hZ V Y t ht h0 h.cnt
      rw [hV1] at hW
      exact ⟨0, _, _, _, _, hW, hM, by rw [g_put_20 _ _ _ _ _ _ (by decide)]; rfl, fun _ => rfl, nb, nk, ml, hJ.l (fun g hg => by rw [g_put_fr _ _ _ _ _ _ (by omega), qv_fr _ _ _ _ _ _ (by omega), qv_fr _ _ _ _ _ _ (by omega)])⟩
  · exact ⟨1, _, _, _, _, c_W_ready_x1 l hadm Z hZ V Y t hx, c_M_ready_x1 l Z hZ _ _ t (n_not1 (n := 4) (by decide) ne), rfl, fun q => absurd q (by decide), Rel.thrown h 1⟩
theorem op_ask (l : Launch) (hadm : ∀ e : Env, l.admits e → e.platform.stackTraces = false) (Z : qZ) (hZ : qok (pX Z)) (V : qV) (Y : qY) {i : Nat} (hi : i ≤ 512) (h : Rel i V) (t : Int32) : opI l Z i V Y y_W_ask y_M_ask { frames := 8, cells := 1, slots := 6, locals := 138 } { frames := 2, cells := 0, slots := 0, locals := 64 } [.ref (al Z 0 0), .int t, .ref (al Z 45 0)] [.ref (al Z 20 0), .int t] := by
  obtain ⟨nb, nk, nl, h⟩ := h
  rcases n_till t with ⟨t, ht, rfl⟩ | ⟨hx, ne⟩
  · obtain ⟨n, hn, en⟩ := (h.2.2.2.1 t ht).2.2.2.2.2.2.2.2.1
    obtain ⟨d, hd, ed⟩ := h.now (by omega) (c := t) (by omega)
    have hR : RelN i nb nk nl V (f_put (f_begin V t) 1 (nI t) 0 (V 7 t 3 + 1)) := h.r (fun g hg => by rw [f_put_fr _ _ _ _ _ _ (by omega), f_begin_fr _ _ _ (by omega)])
    have e7 : V 7 t 3 + 1 = nI (n + 1) := by rw [en, nI_1]
    have n0 : ¬ V 7 t 3 + 1 = 0 := by rw [e7]; exact n_ne (b := 0) (by omega) (by omega) (by omega)
    generalize hV1 : f_put (f_begin V t) 1 (nI t) 0 (V 7 t 3 + 1) = V1 at hR
    have e28 : V1 28 0 t = V 7 t 3 := ((hR.2.2.2.1 t ht).2.2.1).symm
    have e24 : V1 24 0 t = V 8 t 0 := ((hR.2.2.1 t (by omega)).1).symm
    have hS : RelN (i + 1) nb nk nl (f_begin V t) (qv (qv (qv (qv (qv V1 20 0 0 0) 28 0 t (V 7 t 3 + 1)) 29 0 t 0) 31 0 t 0) 30 0 t (V 8 t 0 / 100)) := by
      obtain ⟨h0, hB, hC, hT, hO, hD, hN, hL, hK, hP⟩ := hR.up (Nat.le_succ i)
      refine ⟨h0, hB, hC, ?_, hO.eq7 (fun u => by simp [f_begin, qv_at]) rfl rfl, hD, hN, hL, hK, hP⟩
      intro u hu
      unfold f_begin
      by_cases ut : u = t
      · subst ut
        simp only [qv_at]
        simp
        obtain ⟨t1, t2, t3, t4, t5, t6, t7, t8, t9, t10⟩ := hT u hu
        exact ⟨t1, t2, n0, t7, ⟨0, Nat.zero_le _, rfl⟩, ⟨n + 1, by omega, e7⟩, d, by omega, ed⟩
      · simp only [qv_at]
        simp [ut]
        exact hT u hu
    obtain ⟨ml, hJ⟩ := J_put hS (k := 1) (t := nI t) (b := 0) (a := V 7 t 3 + 1) ⟨1, by decide, rfl⟩ ⟨t, ht, rfl⟩ ⟨0, Nat.zero_le _, rfl⟩ (fun _ => n0)
    rw [hV1] at hJ
    have hM := c_M_ask l Z hZ V1 (qy Y 45 0 0 ((V 7 t 3 + 1).toInt64)) t ht (g_not_in (n := 4) t ht (by decide)) hR.cntB
    rw [e28, e24] at hM
    have hW := c_W_ask l Z hZ V Y t ht h.cnt
    rw [hV1] at hW
    exact ⟨0, _, _, _, _, hW, hM, by rw [g_put_20 _ _ _ _ _ _ (by decide)]; rfl, fun _ => rfl, nb, nk, ml, hJ.l (fun g hg => by rw [g_put_fr _ _ _ _ _ _ (by omega), qv_fr _ _ _ _ _ _ (by omega), qv_fr _ _ _ _ _ _ (by omega), qv_fr _ _ _ _ _ _ (by omega), qv_fr _ _ _ _ _ _ (by omega), qv_fr _ _ _ _ _ _ (by omega)])⟩
  · exact ⟨1, _, _, _, _, c_W_ask_x1 l hadm Z hZ V Y t hx, c_M_ask_x1 l Z hZ _ _ t (n_not1 (n := 4) (by decide) ne), rfl, fun q => absurd q (by decide), Rel.thrown h 1⟩
theorem op_giveUp (l : Launch) (hadm : ∀ e : Env, l.admits e → e.platform.stackTraces = false) (Z : qZ) (hZ : qok (pX Z)) (V : qV) (Y : qY) {i : Nat} (h : Rel i V) (t : Int32) : opV l Z i V Y y_W_giveUp y_M_giveUp { frames := 8, cells := 1, slots := 6, locals := 138 } { frames := 2, cells := 0, slots := 0, locals := 64 } [.ref (al Z 0 0), .int t] [.ref (al Z 20 0), .int t] := by
  obtain ⟨nb, nk, nl, h⟩ := h
  rcases n_till t with ⟨t, ht, rfl⟩ | ⟨hx, ne⟩
  · by_cases hq : ¬ V 7 t 3 = 0 ∧ V 7 t 5 = 0
    · have hR : RelN i nb nk nl V (f_put (qv (qv V 7 t 5 1) 7 t 6 0) 4 (nI t) 0 (V 7 t 3)) := h.r (fun g hg => by rw [f_put_fr _ _ _ _ _ _ (by omega), qv_fr _ _ _ _ _ _ (by omega), qv_fr _ _ _ _ _ _ (by omega)])
      generalize hV1 : f_put (qv (qv V 7 t 5 1) 7 t 6 0) 4 (nI t) 0 (V 7 t 3) = V1 at hR
      have e28 : V1 28 0 t = V 7 t 3 := ((hR.2.2.2.1 t ht).2.2.1).symm
      have hS : RelN (i + 1) nb nk nl (qv (qv V 7 t 5 1) 7 t 6 0) (qv (qv (qv V1 20 0 0 0) 29 0 t 1) 31 0 t 0) := by
        obtain ⟨h0, hB, hC, hT, hO, hD, hN, hL, hK, hP⟩ := hR.up (Nat.le_succ i)
        refine ⟨h0, hB, hC, ?_, hO.eq7 (fun u => by simp [qv_at]) rfl rfl, hD, hN, hL, hK, hP⟩
        intro u hu
        by_cases ut : u = t
        · subst ut
          simp only [qv_at]
          simp
          obtain ⟨t1, t2, t3, t4, t5, t6, t7, t8, t9, t10⟩ := hT u hu
          exact ⟨t1, t2, t3, t4, t7, ⟨0, Nat.zero_le _, rfl⟩, t9, t10⟩
        · simp only [qv_at]
          simp [ut]
          exact hT u hu
      obtain ⟨ml, hJ⟩ := J_put hS (k := 4) (t := nI t) (b := 0) (a := V 7 t 3) ⟨4, by decide, rfl⟩ ⟨t, ht, rfl⟩ ⟨0, Nat.zero_le _, rfl⟩ (fun q => absurd q (by decide))
      rw [hV1] at hJ
      have hM := c_M_giveUp l Z hZ V1 Y t ht (g_not_in (n := 4) t ht (by decide)) ((hR.2.2.2.1 t ht).2.2.2.2.2.1.mpr hq) hR.cntB
      rw [e28] at hM
      have hW := c_W_giveUp l Z hZ V Y t ht hq.1 hq.2 h.cnt
      rw [hV1] at hW
      exact ⟨0, _, _, _, hW, hM, by rw [g_put_20 _ _ _ _ _ _ (by decide)]; rfl, nb, nk, ml, hJ.l (fun g hg => by rw [g_put_fr _ _ _ _ _ _ (by omega), qv_fr _ _ _ _ _ _ (by omega), qv_fr _ _ _ _ _ _ (by omega), qv_fr _ _ _ _ _ _ (by omega)])⟩
    · have hq2 : V 7 t 3 = 0 ∨ ¬ V 7 t 5 = 0 := by
        by_cases z : V 7 t 3 = 0
        · exact Or.inl z
        · exact Or.inr (fun z2 => hq ⟨z, z2⟩)
      exact ⟨2, _, _, _, c_W_giveUp_x2 l hadm Z hZ V Y t ht hq2, c_M_giveUp_x2 l Z hZ _ _ t ht (g_not_in (n := 4) t ht (by decide)) (fun z => hq ((h.2.2.2.1 t ht).2.2.2.2.2.1.mp z)), rfl, Rel.thrown h 2⟩
  · exact ⟨1, _, _, _, c_W_giveUp_x1 l hadm Z hZ V Y t hx, c_M_giveUp_x1 l Z hZ _ _ t (n_not1 (n := 4) (by decide) ne), rfl, Rel.thrown h 1⟩
theorem op_lease (l : Launch) (hadm : ∀ e : Env, l.admits e → e.platform.stackTraces = false) (Z : qZ) (hZ : qok (pX Z)) (V : qV) (Y : qY) {i : Nat} (hi : i ≤ 512) (h : Rel i V) (t : Int32) : opI l Z i V Y y_W_lease y_M_lease { frames := 8, cells := 1, slots := 6, locals := 137 } { frames := 3, cells := 0, slots := 0, locals := 84 } [.ref (al Z 0 0), .int t, .ref (al Z 45 0)] [.ref (al Z 20 0), .int t] := by
  obtain ⟨nb, nk, nl, h⟩ := h
  rcases n_till t with ⟨t, ht, rfl⟩ | ⟨hx, ne⟩
  · refine ⟨0, _, _, _, _, c_W_lease l Z hZ V Y t ht, c_M_lease l Z hZ _ _ t ht (g_not_in (n := 4) t ht (by decide)), rfl, fun _ => ?_, Rel.thrown h 0⟩
    show (f_lease V t).toInt64 = _
    rw [J_lease (h.code 0) (by omega) t ht]
  · exact ⟨1, _, _, _, _, c_W_lease_x1 l hadm Z hZ V Y t hx, c_M_lease_x1 l Z hZ _ _ t (n_not1 (n := 4) (by decide) ne), rfl, fun q => absurd q (by decide), Rel.thrown h 1⟩
theorem op_loaded (l : Launch) (hadm : ∀ e : Env, l.admits e → e.platform.stackTraces = false) (Z : qZ) (hZ : qok (pX Z)) (V : qV) (Y : qY) {i : Nat} (h : Rel i V) (t : Int32) : opI l Z i V Y y_W_loaded y_M_loaded { frames := 8, cells := 1, slots := 6, locals := 137 } { frames := 2, cells := 0, slots := 0, locals := 61 } [.ref (al Z 0 0), .int t, .ref (al Z 45 0)] [.ref (al Z 20 0), .int t] := by
  obtain ⟨nb, nk, nl, h⟩ := h
  rcases n_till t with ⟨t, ht, rfl⟩ | ⟨hx, ne⟩
  · refine ⟨0, _, _, _, _, c_W_loaded l Z hZ V Y t ht, c_M_loaded l Z hZ _ _ t ht (g_not_in (n := 4) t ht (by decide)), rfl, fun _ => ?_, Rel.thrown h 0⟩
    show (V 7 t 1).toInt64 = _
    rw [(h.2.2.2.1 t ht).1]
  · exact ⟨1, _, _, _, _, c_W_loaded_x1 l hadm Z hZ V Y t hx, c_M_loaded_x1 l Z hZ _ _ t (n_not1 (n := 4) (by decide) ne), rfl, fun q => absurd q (by decide), Rel.thrown h 1⟩
