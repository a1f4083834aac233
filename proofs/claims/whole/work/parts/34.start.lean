/-! The start -/
def oz (g j : Nat) : Nat := match g with
  | 0 => 0
  | 1 => if j = 0 then 1 else 4 * j + 2
  | 2 => if j = 0 then 2 else 4 * j + 3
  | 3 => if j = 0 then 3 else 4 * j + 4
  | 4 => if j = 0 then 4 else 4 * j + 5
  | 5 => 5
  | 6 => 42
  | 7 => 43 + 2 * j
  | 8 => if j = 4 then 52 else 44 + 2 * j
  | 9 => 51
  | 10 => 53
  | 11 => 54 + j
  | 12 => 58
  | 13 => 59 + j
  | 14 => 63
  | 15 => 64 + 2 * j
  | 16 => 65 + 2 * j
  | 17 => 144
  | 45 => 168
  | g => g + 125
def V0 : qV := fun g _ => match g with
  | 8 => fun k => if k = 1 then 100 else 0
  | 25 => upd (upd (upd (upd (upd (fun _ => 0) 0 100) 1 100) 2 100) 3 100) 4 100
  | 29 => upd (upd (upd (upd (fun _ => 0) 0 1) 1 1) 2 1) 3 1
  | _ => fun _ => 0
def Y0 : qY := fun _ _ _ => 0
def oE (tc : Nat → ClassId) (z i : Nat) : va_E := if i = 0 then .inr (7, [.ref (z + 1), .ref (z + 5), .int 0, .ref (z + 42), .ref (z + 51), .ref (z + 58), .ref (z + 63), .int 0, .ref (z + 144)]) else if i < 145 then TI tc z i else if i < 168 then TM tc z i else .inl (tc 1, 1, .inr (.inl (fun _ => 0)))
abbrev oZ (D : va_G) (tc : Nat → ClassId) (z : Nat) : qZ := (D.1, D.2, fun g j => z + oz g j, tc)
theorem oz_nd : (qIL.map (fun q => oz q.1 q.2)).Nodup := by decide +kernel
theorem oz_lt : ∀ q ∈ qIL, oz q.1 q.2 < 169 := by decide +kernel
theorem oZ_ok (D : va_G) (tc : Nat → ClassId) (z : Nat) : qok (pX (oZ D tc z)) := by
  intro i j p q hi hj he
  have he2 : oz p.1 p.2 = oz q.1 q.2 := Nat.add_left_cancel (show z + oz p.1 p.2 = z + oz q.1 q.2 from he)
  have h1 : (qIL.map (fun q => oz q.1 q.2))[i]? = some (oz p.1 p.2) := by rw [List.getElem?_map, hi]; rfl
  have h2 : (qIL.map (fun q => oz q.1 q.2))[j]? = some (oz p.1 p.2) := by rw [List.getElem?_map, hj, he2]; rfl
  have hl := (List.getElem?_eq_some_iff.mp h1).1
  exact (List.getElem?_inj hl oz_nd).mp (h1.trans h2.symm)
theorem at_refs {D : va_G} {a n : Nat} {cA : ClassId} {f g : Nat → Option Nat} {H : Heap} (h : ∀ j, j < n → f j = g j) (k : va_at D qCl (a, .inl (cA, n, .inr (.inr (.inr (.inr f))))) H) : va_at D qCl (a, .inl (cA, n, .inr (.inr (.inr (.inr g))))) H := by
  have e : vp_cell cA (n, .inr (.inr (.inr (.inr f)))) = vp_cell cA (n, .inr (.inr (.inr (.inr g)))) := by
    show arrV cA n (fun j => va_rf (f j)) = arrV cA n (fun j => va_rf (g j))
    unfold arrV
    congr 2
    funext j
    show va_rf (f j.val) = va_rf (g j.val)
    rw [h j.val j.isLt]
  show H[a]? = some (vp_cell cA _)
  rw [← e]
  exact k
set_option maxRecDepth 20000 in
theorem oe_0 (D : va_G) (tc : Nat → ClassId) (z j : Nat) (h : j < 1) : oE tc z (oz 0 j) = pcf (oZ D tc z) 0 j (V0 0 j) (Y0 0 j) := by
  match j, h with
  | 0, _ => rfl
set_option maxRecDepth 20000 in
theorem oe_1 (D : va_G) (tc : Nat → ClassId) (z j : Nat) (h : j < 10) : oE tc z (oz 1 j) = pcf (oZ D tc z) 1 j (V0 1 j) (Y0 1 j) := by
  match j, h with
  | 0, _ => rfl
  | 1, _ => rfl
  | 2, _ => rfl
  | 3, _ => rfl
  | 4, _ => rfl
  | 5, _ => rfl
  | 6, _ => rfl
  | 7, _ => rfl
  | 8, _ => rfl
  | 9, _ => rfl
  | n + 10, h => exact absurd h (by omega)
set_option maxRecDepth 20000 in
theorem oe_2 (D : va_G) (tc : Nat → ClassId) (z j : Nat) (h : j < 10) : oE tc z (oz 2 j) = pcf (oZ D tc z) 2 j (V0 2 j) (Y0 2 j) := by
  match j, h with
  | 0, _ => rfl
  | 1, _ => rfl
  | 2, _ => rfl
  | 3, _ => rfl
  | 4, _ => rfl
  | 5, _ => rfl
  | 6, _ => rfl
  | 7, _ => rfl
  | 8, _ => rfl
  | 9, _ => rfl
  | n + 10, h => exact absurd h (by omega)
set_option maxRecDepth 20000 in
theorem oe_3 (D : va_G) (tc : Nat → ClassId) (z j : Nat) (h : j < 10) : oE tc z (oz 3 j) = pcf (oZ D tc z) 3 j (V0 3 j) (Y0 3 j) := by
  match j, h with
  | 0, _ => rfl
  | 1, _ => rfl
  | 2, _ => rfl
  | 3, _ => rfl
  | 4, _ => rfl
  | 5, _ => rfl
  | 6, _ => rfl
  | 7, _ => rfl
  | 8, _ => rfl
  | 9, _ => rfl
  | n + 10, h => exact absurd h (by omega)
set_option maxRecDepth 20000 in
theorem oe_4 (D : va_G) (tc : Nat → ClassId) (z j : Nat) (h : j < 10) : oE tc z (oz 4 j) = pcf (oZ D tc z) 4 j (V0 4 j) (Y0 4 j) := by
  match j, h with
  | 0, _ => rfl
  | 1, _ => rfl
  | 2, _ => rfl
  | 3, _ => rfl
  | 4, _ => rfl
  | 5, _ => rfl
  | 6, _ => rfl
  | 7, _ => rfl
  | 8, _ => rfl
  | 9, _ => rfl
  | n + 10, h => exact absurd h (by omega)
set_option maxRecDepth 20000 in
theorem oe_7 (D : va_G) (tc : Nat → ClassId) (z j : Nat) (h : j < 4) : oE tc z (oz 7 j) = pcf (oZ D tc z) 7 j (V0 7 j) (Y0 7 j) := by
  match j, h with
  | 0, _ => rfl
  | 1, _ => rfl
  | 2, _ => rfl
  | 3, _ => rfl
set_option maxRecDepth 20000 in
theorem oe_8 (D : va_G) (tc : Nat → ClassId) (z j : Nat) (h : j < 5) : oE tc z (oz 8 j) = pcf (oZ D tc z) 8 j (V0 8 j) (Y0 8 j) := by
  match j, h with
  | 0, _ => rfl
  | 1, _ => rfl
  | 2, _ => rfl
  | 3, _ => rfl
  | 4, _ => rfl
set_option maxRecDepth 20000 in
theorem oe_9 (D : va_G) (tc : Nat → ClassId) (z j : Nat) (h : j < 1) : oE tc z (oz 9 j) = pcf (oZ D tc z) 9 j (V0 9 j) (Y0 9 j) := by
  match j, h with
  | 0, _ => rfl
set_option maxRecDepth 20000 in
theorem oe_11 (D : va_G) (tc : Nat → ClassId) (z j : Nat) (h : j < 4) : oE tc z (oz 11 j) = pcf (oZ D tc z) 11 j (V0 11 j) (Y0 11 j) := by
  match j, h with
  | 0, _ => rfl
  | 1, _ => rfl
  | 2, _ => rfl
  | 3, _ => rfl
set_option maxRecDepth 20000 in
theorem oe_12 (D : va_G) (tc : Nat → ClassId) (z j : Nat) (h : j < 1) : oE tc z (oz 12 j) = pcf (oZ D tc z) 12 j (V0 12 j) (Y0 12 j) := by
  match j, h with
  | 0, _ => rfl
set_option maxRecDepth 20000 in
theorem oe_13 (D : va_G) (tc : Nat → ClassId) (z j : Nat) (h : j < 4) : oE tc z (oz 13 j) = pcf (oZ D tc z) 13 j (V0 13 j) (Y0 13 j) := by
  match j, h with
  | 0, _ => rfl
  | 1, _ => rfl
  | 2, _ => rfl
  | 3, _ => rfl
set_option maxRecDepth 20000 in
theorem oe_15 (D : va_G) (tc : Nat → ClassId) (z j : Nat) (h : j < 40) : oE tc z (oz 15 j) = pcf (oZ D tc z) 15 j (V0 15 j) (Y0 15 j) := by
  match j, h with
  | 0, _ => rfl
  | 1, _ => rfl
  | 2, _ => rfl
  | 3, _ => rfl
  | 4, _ => rfl
  | 5, _ => rfl
  | 6, _ => rfl
  | 7, _ => rfl
  | 8, _ => rfl
  | 9, _ => rfl
  | 10, _ => rfl
  | 11, _ => rfl
  | 12, _ => rfl
  | 13, _ => rfl
  | 14, _ => rfl
  | 15, _ => rfl
  | 16, _ => rfl
  | 17, _ => rfl
  | 18, _ => rfl
  | 19, _ => rfl
  | 20, _ => rfl
  | 21, _ => rfl
  | 22, _ => rfl
  | 23, _ => rfl
  | 24, _ => rfl
  | 25, _ => rfl
  | 26, _ => rfl
  | 27, _ => rfl
  | 28, _ => rfl
  | 29, _ => rfl
  | 30, _ => rfl
  | 31, _ => rfl
  | 32, _ => rfl
  | 33, _ => rfl
  | 34, _ => rfl
  | 35, _ => rfl
  | 36, _ => rfl
  | 37, _ => rfl
  | 38, _ => rfl
  | 39, _ => rfl
  | n + 40, h => exact absurd h (by omega)
set_option maxRecDepth 20000 in
theorem oe_16 (D : va_G) (tc : Nat → ClassId) (z j : Nat) (h : j < 40) : oE tc z (oz 16 j) = pcf (oZ D tc z) 16 j (V0 16 j) (Y0 16 j) := by
  match j, h with
  | 0, _ => rfl
  | 1, _ => rfl
  | 2, _ => rfl
  | 3, _ => rfl
  | 4, _ => rfl
  | 5, _ => rfl
  | 6, _ => rfl
  | 7, _ => rfl
  | 8, _ => rfl
  | 9, _ => rfl
  | 10, _ => rfl
  | 11, _ => rfl
  | 12, _ => rfl
  | 13, _ => rfl
  | 14, _ => rfl
  | 15, _ => rfl
  | 16, _ => rfl
  | 17, _ => rfl
  | 18, _ => rfl
  | 19, _ => rfl
  | 20, _ => rfl
  | 21, _ => rfl
  | 22, _ => rfl
  | 23, _ => rfl
  | 24, _ => rfl
  | 25, _ => rfl
  | 26, _ => rfl
  | 27, _ => rfl
  | 28, _ => rfl
  | 29, _ => rfl
  | 30, _ => rfl
  | 31, _ => rfl
  | 32, _ => rfl
  | 33, _ => rfl
  | 34, _ => rfl
  | 35, _ => rfl
  | 36, _ => rfl
  | 37, _ => rfl
  | 38, _ => rfl
  | 39, _ => rfl
  | n + 40, h => exact absurd h (by omega)
set_option maxRecDepth 20000 in
theorem oe_17 (D : va_G) (tc : Nat → ClassId) (z j : Nat) (h : j < 1) : oE tc z (oz 17 j) = pcf (oZ D tc z) 17 j (V0 17 j) (Y0 17 j) := by
  match j, h with
  | 0, _ => rfl
set_option maxRecDepth 20000 in
theorem oe_20 (D : va_G) (tc : Nat → ClassId) (z j : Nat) (h : j < 1) : oE tc z (oz 20 j) = pcf (oZ D tc z) 20 j (V0 20 j) (Y0 20 j) := by
  match j, h with
  | 0, _ => rfl
set_option maxRecDepth 20000 in
theorem oe_21 (D : va_G) (tc : Nat → ClassId) (z j : Nat) (h : j < 1) : oE tc z (oz 21 j) = pcf (oZ D tc z) 21 j (V0 21 j) (Y0 21 j) := by
  match j, h with
  | 0, _ => rfl
set_option maxRecDepth 20000 in
theorem oe_22 (D : va_G) (tc : Nat → ClassId) (z j : Nat) (h : j < 1) : oE tc z (oz 22 j) = pcf (oZ D tc z) 22 j (V0 22 j) (Y0 22 j) := by
  match j, h with
  | 0, _ => rfl
set_option maxRecDepth 20000 in
theorem oe_23 (D : va_G) (tc : Nat → ClassId) (z j : Nat) (h : j < 1) : oE tc z (oz 23 j) = pcf (oZ D tc z) 23 j (V0 23 j) (Y0 23 j) := by
  match j, h with
  | 0, _ => rfl
set_option maxRecDepth 20000 in
theorem oe_24 (D : va_G) (tc : Nat → ClassId) (z j : Nat) (h : j < 1) : oE tc z (oz 24 j) = pcf (oZ D tc z) 24 j (V0 24 j) (Y0 24 j) := by
  match j, h with
  | 0, _ => rfl
set_option maxRecDepth 20000 in
theorem oe_25 (D : va_G) (tc : Nat → ClassId) (z j : Nat) (h : j < 1) : oE tc z (oz 25 j) = pcf (oZ D tc z) 25 j (V0 25 j) (Y0 25 j) := by
  match j, h with
  | 0, _ => rfl
set_option maxRecDepth 20000 in
theorem oe_26 (D : va_G) (tc : Nat → ClassId) (z j : Nat) (h : j < 1) : oE tc z (oz 26 j) = pcf (oZ D tc z) 26 j (V0 26 j) (Y0 26 j) := by
  match j, h with
  | 0, _ => rfl
set_option maxRecDepth 20000 in
theorem oe_27 (D : va_G) (tc : Nat → ClassId) (z j : Nat) (h : j < 1) : oE tc z (oz 27 j) = pcf (oZ D tc z) 27 j (V0 27 j) (Y0 27 j) := by
  match j, h with
  | 0, _ => rfl
set_option maxRecDepth 20000 in
theorem oe_28 (D : va_G) (tc : Nat → ClassId) (z j : Nat) (h : j < 1) : oE tc z (oz 28 j) = pcf (oZ D tc z) 28 j (V0 28 j) (Y0 28 j) := by
  match j, h with
  | 0, _ => rfl
set_option maxRecDepth 20000 in
theorem oe_29 (D : va_G) (tc : Nat → ClassId) (z j : Nat) (h : j < 1) : oE tc z (oz 29 j) = pcf (oZ D tc z) 29 j (V0 29 j) (Y0 29 j) := by
  match j, h with
  | 0, _ => rfl
set_option maxRecDepth 20000 in
theorem oe_30 (D : va_G) (tc : Nat → ClassId) (z j : Nat) (h : j < 1) : oE tc z (oz 30 j) = pcf (oZ D tc z) 30 j (V0 30 j) (Y0 30 j) := by
  match j, h with
  | 0, _ => rfl
set_option maxRecDepth 20000 in
theorem oe_31 (D : va_G) (tc : Nat → ClassId) (z j : Nat) (h : j < 1) : oE tc z (oz 31 j) = pcf (oZ D tc z) 31 j (V0 31 j) (Y0 31 j) := by
  match j, h with
  | 0, _ => rfl
set_option maxRecDepth 20000 in
theorem oe_32 (D : va_G) (tc : Nat → ClassId) (z j : Nat) (h : j < 1) : oE tc z (oz 32 j) = pcf (oZ D tc z) 32 j (V0 32 j) (Y0 32 j) := by
  match j, h with
  | 0, _ => rfl
set_option maxRecDepth 20000 in
theorem oe_33 (D : va_G) (tc : Nat → ClassId) (z j : Nat) (h : j < 1) : oE tc z (oz 33 j) = pcf (oZ D tc z) 33 j (V0 33 j) (Y0 33 j) := by
  match j, h with
  | 0, _ => rfl
set_option maxRecDepth 20000 in
theorem oe_34 (D : va_G) (tc : Nat → ClassId) (z j : Nat) (h : j < 1) : oE tc z (oz 34 j) = pcf (oZ D tc z) 34 j (V0 34 j) (Y0 34 j) := by
  match j, h with
  | 0, _ => rfl
set_option maxRecDepth 20000 in
theorem oe_35 (D : va_G) (tc : Nat → ClassId) (z j : Nat) (h : j < 1) : oE tc z (oz 35 j) = pcf (oZ D tc z) 35 j (V0 35 j) (Y0 35 j) := by
  match j, h with
  | 0, _ => rfl
set_option maxRecDepth 20000 in
theorem oe_36 (D : va_G) (tc : Nat → ClassId) (z j : Nat) (h : j < 1) : oE tc z (oz 36 j) = pcf (oZ D tc z) 36 j (V0 36 j) (Y0 36 j) := by
  match j, h with
  | 0, _ => rfl
set_option maxRecDepth 20000 in
theorem oe_37 (D : va_G) (tc : Nat → ClassId) (z j : Nat) (h : j < 1) : oE tc z (oz 37 j) = pcf (oZ D tc z) 37 j (V0 37 j) (Y0 37 j) := by
  match j, h with
  | 0, _ => rfl
set_option maxRecDepth 20000 in
theorem oe_38 (D : va_G) (tc : Nat → ClassId) (z j : Nat) (h : j < 1) : oE tc z (oz 38 j) = pcf (oZ D tc z) 38 j (V0 38 j) (Y0 38 j) := by
  match j, h with
  | 0, _ => rfl
set_option maxRecDepth 20000 in
theorem oe_39 (D : va_G) (tc : Nat → ClassId) (z j : Nat) (h : j < 1) : oE tc z (oz 39 j) = pcf (oZ D tc z) 39 j (V0 39 j) (Y0 39 j) := by
  match j, h with
  | 0, _ => rfl
set_option maxRecDepth 20000 in
theorem oe_40 (D : va_G) (tc : Nat → ClassId) (z j : Nat) (h : j < 1) : oE tc z (oz 40 j) = pcf (oZ D tc z) 40 j (V0 40 j) (Y0 40 j) := by
  match j, h with
  | 0, _ => rfl
set_option maxRecDepth 20000 in
theorem oe_41 (D : va_G) (tc : Nat → ClassId) (z j : Nat) (h : j < 1) : oE tc z (oz 41 j) = pcf (oZ D tc z) 41 j (V0 41 j) (Y0 41 j) := by
  match j, h with
  | 0, _ => rfl
set_option maxRecDepth 20000 in
theorem oe_42 (D : va_G) (tc : Nat → ClassId) (z j : Nat) (h : j < 1) : oE tc z (oz 42 j) = pcf (oZ D tc z) 42 j (V0 42 j) (Y0 42 j) := by
  match j, h with
  | 0, _ => rfl
set_option maxRecDepth 20000 in
theorem oe_45 (D : va_G) (tc : Nat → ClassId) (z j : Nat) (h : j < 1) : oE tc z (oz 45 j) = pcf (oZ D tc z) 45 j (V0 45 j) (Y0 45 j) := by
  match j, h with
  | 0, _ => rfl
theorem o_at {D : va_G} {tc : Nat → ClassId} {z : Nat} {H : Heap} (hP : KP D z 169 (oE tc z) H) : va_P D qCl (qw (pX (oZ D tc z)) V0 Y0) H := by
  intro k q hk
  rw [qw_get] at hk
  obtain ⟨⟨g, j⟩, hq, rfl⟩ := Option.map_eq_some_iff.mp hk
  have hm : (g, j) ∈ qIL := List.mem_of_getElem? hq
  have hat := hP.at (oz_lt _ hm)
  obtain ⟨g', hg', hm'⟩ := List.mem_flatMap.mp hm
  obtain ⟨j', hj', e⟩ := List.mem_map.mp hm'
  obtain ⟨rfl, rfl⟩ := Prod.mk.inj e
  have hg := List.mem_range.mp hg'
  have hj := List.mem_range.mp hj'
  clear hg' hj' e hm' hm hq hk
  show va_at D qCl (z + oz g' j', pcf (oZ D tc z) g' j' (V0 g' j') (Y0 g' j')) H
  replace hat : va_at D qCl (z + oz g' j', oE tc z (oz g' j')) H := hat
  match g', hg with
  | 0, _ => exact oe_0 D tc z j' hj ▸ hat
  | 1, _ => exact oe_1 D tc z j' hj ▸ hat
  | 2, _ => exact oe_2 D tc z j' hj ▸ hat
  | 3, _ => exact oe_3 D tc z j' hj ▸ hat
  | 4, _ => exact oe_4 D tc z j' hj ▸ hat
  | 5, _ =>
    obtain rfl : j' = 0 := by have : j' < 1 := hj; omega
    refine at_refs (n := 9) (f := fun j => if j < 9 then some (z + (6 + 4 * j)) else none) (fun j hj => ?_) hat
    rw [if_pos hj]
    show some (z + (6 + 4 * j)) = some (z + oz 1 (j + 1))
    congr 2; show 6 + 4 * j = if j + 1 = 0 then 1 else 4 * (j + 1) + 2; rw [if_neg (by omega)]; omega
  | 6, _ =>
    obtain rfl : j' = 0 := by have : j' < 1 := hj; omega
    refine at_refs (n := 4) (f := fun j => if j < 4 then some (z + (43 + 2 * j)) else none) (fun j hj => ?_) hat
    rw [if_pos hj]
    show some (z + (43 + 2 * j)) = some (z + oz 7 j)
    rfl
  | 7, _ => exact oe_7 D tc z j' hj ▸ hat
  | 8, _ => exact oe_8 D tc z j' hj ▸ hat
  | 9, _ => exact oe_9 D tc z j' hj ▸ hat
  | 10, _ =>
    obtain rfl : j' = 0 := by have : j' < 1 := hj; omega
    refine at_refs (n := 4) (f := fun j => if j < 4 then some (z + (54 + j)) else none) (fun j hj => ?_) hat
    rw [if_pos hj]
    show some (z + (54 + j)) = some (z + oz 11 j)
    rfl
  | 11, _ => exact oe_11 D tc z j' hj ▸ hat
  | 12, _ => exact oe_12 D tc z j' hj ▸ hat
  | 13, _ => exact oe_13 D tc z j' hj ▸ hat
  | 14, _ =>
    obtain rfl : j' = 0 := by have : j' < 1 := hj; omega
    refine at_refs (n := 40) (f := fun j => if j < 40 then some (z + (64 + 2 * j)) else none) (fun j hj => ?_) hat
    rw [if_pos hj]
    show some (z + (64 + 2 * j)) = some (z + oz 15 j)
    rfl
  | 15, _ => exact oe_15 D tc z j' hj ▸ hat
  | 16, _ => exact oe_16 D tc z j' hj ▸ hat
  | 17, _ => exact oe_17 D tc z j' hj ▸ hat
  | 18, _ => exact absurd hj (Nat.not_lt_zero _)
  | 19, _ => exact absurd hj (Nat.not_lt_zero _)
  | 20, _ => exact oe_20 D tc z j' hj ▸ hat
  | 21, _ => exact oe_21 D tc z j' hj ▸ hat
  | 22, _ => exact oe_22 D tc z j' hj ▸ hat
  | 23, _ => exact oe_23 D tc z j' hj ▸ hat
  | 24, _ => exact oe_24 D tc z j' hj ▸ hat
  | 25, _ => exact oe_25 D tc z j' hj ▸ hat
  | 26, _ => exact oe_26 D tc z j' hj ▸ hat
  | 27, _ => exact oe_27 D tc z j' hj ▸ hat
  | 28, _ => exact oe_28 D tc z j' hj ▸ hat
  | 29, _ => exact oe_29 D tc z j' hj ▸ hat
  | 30, _ => exact oe_30 D tc z j' hj ▸ hat
  | 31, _ => exact oe_31 D tc z j' hj ▸ hat
  | 32, _ => exact oe_32 D tc z j' hj ▸ hat
  | 33, _ => exact oe_33 D tc z j' hj ▸ hat
  | 34, _ => exact oe_34 D tc z j' hj ▸ hat
  | 35, _ => exact oe_35 D tc z j' hj ▸ hat
  | 36, _ => exact oe_36 D tc z j' hj ▸ hat
  | 37, _ => exact oe_37 D tc z j' hj ▸ hat
  | 38, _ => exact oe_38 D tc z j' hj ▸ hat
  | 39, _ => exact oe_39 D tc z j' hj ▸ hat
  | 40, _ => exact oe_40 D tc z j' hj ▸ hat
  | 41, _ => exact oe_41 D tc z j' hj ▸ hat
  | 42, _ => exact oe_42 D tc z j' hj ▸ hat
  | 43, _ => exact absurd hj (Nat.not_lt_zero _)
  | 44, _ => exact absurd hj (Nat.not_lt_zero _)
  | 45, _ => exact oe_45 D tc z j' hj ▸ hat
theorem o_rel : Rel 0 V0 := by
  refine ⟨0, 0, 0, ⟨rfl, rfl, by decide, rfl, rfl, by decide, rfl, rfl, by decide⟩, ⟨fun _ _ _ _ => rfl, fun _ _ _ _ => ⟨rfl, rfl, 0, by decide, rfl⟩⟩, ?_, ?_, ?_, ⟨rfl, rfl, rfl, ⟨0, by decide, rfl⟩, ⟨0, by decide, rfl⟩, ⟨0, by decide, rfl⟩, fun _ => by decide⟩, fun _ _ => ⟨rfl, rfl, rfl, rfl, rfl, 0, by decide, rfl⟩, fun q hq => absurd hq (Nat.not_lt_zero _), fun q hq => absurd hq (Nat.not_lt_zero _), fun _ _ _ _ => ⟨rfl, 0, by decide, rfl⟩⟩
  · intro c hc
    match c, hc with
    | 0, _ => exact ⟨rfl, rfl, ⟨0, by decide, rfl⟩, 100, by decide, rfl⟩
    | 1, _ => exact ⟨rfl, rfl, ⟨0, by decide, rfl⟩, 100, by decide, rfl⟩
    | 2, _ => exact ⟨rfl, rfl, ⟨0, by decide, rfl⟩, 100, by decide, rfl⟩
    | 3, _ => exact ⟨rfl, rfl, ⟨0, by decide, rfl⟩, 100, by decide, rfl⟩
    | 4, _ => exact ⟨rfl, rfl, ⟨0, by decide, rfl⟩, 100, by decide, rfl⟩
  · intro t ht
    have e : ¬ V0 29 0 t = 0 := by
      match t, ht with
      | 0, _ => decide
      | 1, _ => decide
      | 2, _ => decide
      | 3, _ => decide
    exact ⟨rfl, rfl, rfl, rfl, rfl, ⟨fun q => absurd q e, fun q => absurd rfl q.1⟩, ⟨0, by decide, rfl⟩, ⟨0, by decide, rfl⟩, ⟨0, by decide, rfl⟩, 0, by decide, rfl⟩
  · intro t ht
    exact ⟨Nat.zero_le _, rfl⟩
theorem o_arr {s : State} {args : Array Value} {ty : FieldType} (h : (Cond.arrayClass ty).before args s = true) : ∃ cA, ArrOfT s cA ty ∧ s.vm.findClass ("[" ++ ty.toString) = some cA := by
  obtain ⟨cA, kA, comp, h1, h2, h3⟩ := Cond.arrayClass_spec h
  exact ⟨cA, fun n z => ⟨fun k h => (by cases h), kA, h2, comp, h3⟩, h1⟩
theorem o_ovr {s : State} {C : String} (h : va_AO C s) : ∃ cA, ArrOfT s cA (.object C) ∧ va_RA s cA (.object C) := by
  obtain ⟨comp, cA, kA, h1, h2, h3, h4, h5⟩ := Cond.arrayOver_spec h
  exact ⟨cA, fun n z => ⟨fun k h => (by cases h), kA, h3, comp, h4⟩, kA, comp, h3, h4, h1, h5⟩
theorem o_in {w : Cond} (i : Nat) (h : tables_1[i]? = some w) : w ∈ lw_tbl := List.mem_append_right _ (List.mem_of_getElem? h)
theorem o_known {s : State} {args : Array Value} (hq : ∀ w ∈ QT, w.before args s = true) (hX : kX s) : ∃ (D : va_G) (tc : Nat → ClassId), va_K D qCl (kty tc) s := by
  obtain ⟨c0, i0, k0⟩ := u_known hq in_B (hq _ w_181)
  obtain ⟨c1, i1, k1⟩ := u_known hq in_C (hq _ w_56)
  obtain ⟨c2, i2, k2⟩ := u_known hq in_D (hq _ w_100)
  obtain ⟨c3, i3, k3⟩ := u_known hq in_R (hq _ w_153)
  obtain ⟨c4, i4, k4⟩ := u_known hq in_N (hq _ w_109)
  obtain ⟨c5, i5, k5⟩ := u_known hq in_L (hq _ w_28)
  obtain ⟨c6, i6, k6⟩ := u_known hq in_T (hq _ w_50)
  obtain ⟨c7, i7, k7⟩ := u_known hq in_H (hq _ w_20)
  obtain ⟨c8, i8, k8⟩ := u_known hq in_M (hq _ w_656)
  obtain ⟨t0, a0, b0⟩ := o_arr (hq _ w_46)
  obtain ⟨t1, a1, b1⟩ := o_arr (hq _ w_231)
  obtain ⟨t2, a2, b2⟩ := o_arr (hq _ w_752)
  obtain ⟨t3, a3, b3⟩ := o_ovr hX.1
  obtain ⟨t4, a4, b4⟩ := o_ovr hX.2.1
  obtain ⟨t5, a5, b5⟩ := o_ovr hX.2.2.1
  obtain ⟨t6, a6, b6⟩ := o_ovr hX.2.2.2.1
  refine ⟨(fun i => match i with | 0 => c0 | 1 => c1 | 2 => c2 | 3 => c3 | 4 => c4 | 5 => c5 | 6 => c6 | 7 => c7 | _ => c8, fun i => match i with | 0 => i0 | 1 => i1 | 2 => i2 | 3 => i3 | 4 => i4 | 5 => i5 | 6 => i6 | 7 => i7 | _ => i8), fun i => match i with | 0 => t0 | 1 => t1 | 2 => t2 | 3 => t3 | 4 => t4 | 5 => t5 | _ => t6, fun c q hc => ?_, fun k q hk => ?_⟩
  · match c, hc with
    | 0, hc => obtain rfl := Option.some.inj hc; exact k0
    | 1, hc => obtain rfl := Option.some.inj hc; exact k1
    | 2, hc => obtain rfl := Option.some.inj hc; exact k2
    | 3, hc => obtain rfl := Option.some.inj hc; exact k3
    | 4, hc => obtain rfl := Option.some.inj hc; exact k4
    | 5, hc => obtain rfl := Option.some.inj hc; exact k5
    | 6, hc => obtain rfl := Option.some.inj hc; exact k6
    | 7, hc => obtain rfl := Option.some.inj hc; exact k7
    | 8, hc => obtain rfl := Option.some.inj hc; exact k8
    | n + 9, hc => exact absurd hc (by simp [qCl])
  · match k, hk with
    | 0, hk => obtain rfl := Option.some.inj hk; exact ⟨a0, b0⟩
    | 1, hk => obtain rfl := Option.some.inj hk; exact ⟨a1, b1⟩
    | 2, hk => obtain rfl := Option.some.inj hk; exact ⟨a2, b2⟩
    | 3, hk => obtain rfl := Option.some.inj hk; exact ⟨a3, b3⟩
    | 4, hk => obtain rfl := Option.some.inj hk; exact ⟨a4, b4⟩
    | 5, hk => obtain rfl := Option.some.inj hk; exact ⟨a5, b5⟩
    | 6, hk => obtain rfl := Option.some.inj hk; exact ⟨a6, b6⟩
    | n + 7, hk => exact absurd hk (by simp [kty])
theorem o_QT {s : State} {args : Array Value} (hts : ∀ w ∈ lw_tbl, w.before args s = true) (hgv : (Jvm.Cond.and given_1 narrow_1).before args s = true) : ∀ w ∈ QT, w.before args s = true := by
  intro w hw
  rcases List.mem_append.mp hw with h | h
  · exact hts w (List.mem_filter.mp h).1
  · exact flat_of_before _ hgv w ((by decide +kernel : ∀ w ∈ qNo, w ∈ flatC (Jvm.Cond.and given_1 narrow_1)) w h)
theorem o_kX {s : State} {args : Array Value} (hts : ∀ w ∈ lw_tbl, w.before args s = true) : kX s := ⟨va_AO.of (hts _ (o_in 47 (by decide +kernel))), va_AO.of (hts _ (o_in 49 (by decide +kernel))), va_AO.of (hts _ (o_in 108 (by decide +kernel))), va_AO.of (hts _ (o_in 180 (by decide +kernel))), va_Nw.of rfl (hts _ (o_in 110 (by decide +kernel)))⟩
theorem o_Zs {s : State} {args : Array Value} (hts : ∀ w ∈ lw_tbl, w.before args s = true) (hgv : (Jvm.Cond.and given_1 narrow_1).before args s = true) : qZs (kA s.heap.size) s := by
  have h1 : (Cond.laysStatic "java/lang/Throwable" "UNASSIGNED_STACK" "[Ljava/lang/StackTraceElement;").before args s = true := hts _ (o_in 282 (by decide +kernel))
  have h2 : (Cond.laysStatic "java/lang/Throwable" "SUPPRESSED_SENTINEL" "Ljava/util/List;").before args s = true := hts _ (o_in 284 (by decide +kernel))
  have hi : (Cond.initialized "java/lang/Throwable").before args s = true := hts _ (o_in 10 (by decide +kernel))
  have hA : ∀ a : Nat, a < s.heap.size → ¬ kA s.heap.size a := fun a ha q => Nat.not_le.mpr ha q
  have z1 := va_Zqof h1 hi (flat_of_before _ hgv _ (by decide +kernel : Cond.isRef (.static "java/lang/Throwable" "UNASSIGNED_STACK" "[Ljava/lang/StackTraceElement;") ∈ flatC (Jvm.Cond.and given_1 narrow_1))) hA
  have z2 := va_Zqof h2 hi (flat_of_before _ hgv _ (by decide +kernel : Cond.isRef (.static "java/lang/Throwable" "SUPPRESSED_SENTINEL" "Ljava/util/List;") ∈ flatC (Jvm.Cond.and given_1 narrow_1))) hA
  exact ⟨⟨z1, z2⟩, h1, h2⟩
theorem KP.cong {D : va_G} {z N : Nat} {E E' : Nat → va_E} {H : Heap} (h : KP D z N E H) (e : ∀ i, i < N → E i = E' i) : KP D z N E' H := by
  refine ⟨fun k q hk => ?_, h.2⟩
  obtain ⟨h1, rfl⟩ := kW_inv hk
  rw [← e k h1]
  exact h.at h1
set_option maxHeartbeats 800000 in
set_option maxRecDepth 100000 in
/-- from the entry, for every script of at most 2560 ints, the law comes to its end with true -/
theorem whole_start {p : Program} {e : Env} {s : State} {m : MethodId} {below : List Frame} {meth : Method} {c : Code} (l : Launch) (hfl : l.flags = flags0) {b L : Nat} {xs : Nat → Int32} (hL : L ≤ 2560) (C0 : lw_At p s m meth c b L xs) : W p l e room_1 s m #[Value.ref b] below meth c s.heap [] 0 0 (lw_Z below #[Value.ref b] s) (entryFrame m ([Value.ref b] : List Value).toArray 8) := by
  obtain ⟨hx, hb, hr, hml, hown0, hts, hX, hbl, hlk, hgv⟩ := C0
  have hadm : ∀ e : Env, l.admits e → e.platform.stackTraces = false := fun e ha => Launch.traces_off hfl ha
  have hq := o_QT hts hgv
  have hkX := o_kX hts
  have hZs := o_Zs hts hgv
  obtain ⟨D, tc, hK⟩ := o_known hq hkX
  have hown : s.vm.findClass "PriceHouseLaw" = some m.cls := hown0
  obtain ⟨z, hz⟩ : ∃ z, z = s.heap.size := ⟨_, rfl⟩
  rw [← hz] at hZs
  have C : Kx p s m #[Value.ref b] meth c D (kty tc) 8 b_W_law "PriceHouseLaw" := ⟨hx, hb, hml, hown, hq, hK, hlk, hkX⟩
  have body : GK p l e room_1 s m #[Value.ref b] below meth c (lw_Z below #[Value.ref b] s) D z 8 0 (fun _ => .inr (0, [])) 0 0 0 [(0, .ref b)] [] := by
    refine bk_new C (ci := 7) (fs := [.null, .null, .int 0, .null, .null, .null, .null, .int 0, .null]) ft_H k_H in_H w_19 w_20 w_1 rfl (fun j hj => by match j, hj with | 0, _ => rfl | 1, _ => rfl | 2, _ => rfl | 3, _ => rfl | 4, _ => rfl | 5, _ => rfl | 6, _ => rfl | 7, _ => rfl | 8, _ => rfl) (by first | decide | omega | (dsimp only; omega)) (by first | decide | omega | (dsimp only; omega)) d_W_law_0 ?_
    refine GK.eqN (N' := 1) (st' := [.ref (z + 0)]) (by omega) rfl ?_
    refine bk_dup C d_W_law_3 rfl ?_
    refine bk_call C (c_H_init l D tc z _ (N := 1) (k := 0) rfl rfl (by first | (rw [va_up_self]; done) | (rw [va_up_self]; rfl))) rfl w_21 w_22 w_23 w_1 ⟨by decide, by decide, (by decide +kernel)⟩ ⟨by decide, by decide⟩ ⟨(by first | decide | omega | (dsimp only; omega)), (by first | decide | omega | (dsimp only; omega))⟩ (Nat.le_of_ble_eq_true rfl) d_W_law_4 (fun E1 hc1 => ?_)
    refine GK.eqN (N' := 145) (st' := [.ref (z + 0)]) (by omega) rfl ?_
    refine bk_astore_n C (lo' := [(1, .ref (z + 0)), (0, .ref b)]) d_W_law_7 rfl (by decide) rfl ?_
    refine bk_new C (ci := 8) (fs := [.int 0, .int 0, .null, .null, .null, .null, .null, .null, .null, .null, .null, .null, .null, .int 0, .int 0, .int 0, .int 0, .null, .null, .null, .null, .null, .int 0, .null, .int 0, .null, .null, .null, .null, .null]) ft_M k_M in_M w_655 w_656 w_9 rfl (fun j hj => by match j, hj with | 0, _ => rfl | 1, _ => rfl | 2, _ => rfl | 3, _ => rfl | 4, _ => rfl | 5, _ => rfl | 6, _ => rfl | 7, _ => rfl | 8, _ => rfl | 9, _ => rfl | 10, _ => rfl | 11, _ => rfl | 12, _ => rfl | 13, _ => rfl | 14, _ => rfl | 15, _ => rfl | 16, _ => rfl | 17, _ => rfl | 18, _ => rfl | 19, _ => rfl | 20, _ => rfl | 21, _ => rfl | 22, _ => rfl | 23, _ => rfl | 24, _ => rfl | 25, _ => rfl | 26, _ => rfl | 27, _ => rfl | 28, _ => rfl | 29, _ => rfl | n + 30, hj => exact absurd hj (by omega)) (by first | decide | omega | (dsimp only; omega)) (by first | decide | omega | (dsimp only; omega)) d_W_law_8 ?_
    refine GK.eqN (N' := 146) (st' := [.ref (z + 145)]) (by omega) rfl ?_
    refine bk_dup C d_W_law_11 rfl ?_
    refine bk_call C (c_M_init l D tc z _ (N := 146) (k := 145) rfl rfl (by first | (rw [va_up_self]; done) | (rw [va_up_self]; rfl))) rfl w_657 w_658 w_659 w_9 ⟨by decide, by decide, (by decide +kernel)⟩ ⟨by decide, by decide⟩ ⟨(by first | decide | omega | (dsimp only; omega)), (by first | decide | omega | (dsimp only; omega))⟩ (Nat.le_of_ble_eq_true rfl) d_W_law_12 (fun E2 hc2 => ?_)
    refine GK.eqN (N' := 168) (st' := [.ref (z + 145)]) (by omega) rfl ?_
    refine bk_astore_n C (lo' := [(2, .ref (z + 145)), (1, .ref (z + 0)), (0, .ref b)]) d_W_law_15 rfl (by decide) rfl ?_
    refine bk_iconst C (v := 1) d_W_law_16 (by decide) ?_
    refine bk_newa C (atype := .long) (ty := .long) (a0 := (1, .inr (.inl (fun _ => 0)))) (N0 := 1) (t0 := 1) (cT := tc 1) rfl w_231 rfl (fun _ h => h) (fun _ => rfl) (by decide) (by decide) (by decide) (by first | decide | omega | (dsimp only; omega)) (by first | decide | omega | (dsimp only; omega)) d_W_law_17 ?_
    refine GK.eqN (N' := 169) (st' := [.ref (z + 168)]) (by omega) rfl ?_
    refine bk_astore_n C (lo' := [(3, .ref (z + 168)), (2, .ref (z + 145)), (1, .ref (z + 0)), (0, .ref b)]) d_W_law_19 rfl (by decide) rfl ?_
    refine bk_iconst C (v := 0) d_W_law_20 (by decide) ?_
    refine bk_istore C (lo' := [(4, .int 0), (3, .ref (z + 168)), (2, .ref (z + 145)), (1, .ref (z + 0)), (0, .ref b)]) d_W_law_21 (by decide) rfl ?_
    intro H locs ls hP hS hl
    have hE : KP D z 169 (oE tc z) H := by
      refine hP.cong (fun i hi => ?_)
      by_cases h168 : i = 168
      · subst h168
        rw [va_up_self]
        rfl
      rw [va_up_ne _ _ h168]
      by_cases h145 : 145 ≤ i
      · rw [hc2.1 i h145 (by omega)]
        unfold oE
        rw [if_neg (by omega), if_neg (by omega), if_pos (by omega)]
      · rw [hc2.2 i (by omega) (by omega), va_up_ne _ _ (by omega)]
        by_cases h0 : i = 0
        · subst h0
          rw [hc1.1]
          rfl
        · rw [hc1.2 i (by omega) (by omega)]
          unfold oE
          rw [if_neg h0, if_pos (by omega)]
    have hA : ∀ q, qA (pX (oZ D tc z)) q → kA z q := by
      rintro q ⟨g, -, rfl⟩
      exact Nat.le_add_right _ _
    have hfr : ∀ q, kA z q → s.heap.size ≤ q := fun q h => hz ▸ h
    have hbA : ¬ kA z b := fun h => Nat.not_le.mpr hbl (hz ▸ h)
    have C1 : Cx p s m #[Value.ref b] meth c (pX (oZ D tc z)) 8 (kA z) b_W_law "PriceHouseLaw" QT := ⟨hx, hb, hml, hown, hq, hK, oZ_ok D tc z, hlk, hZs⟩
    exact W.widen (k := 1000 + 0) (n := 10000 + 6 * 0) (by decide) (by decide) (law_loop hadm (oZ D tc z) (oZ_ok D tc z) hA hfr C1 hr hX hbl hbA hL (c0 := 1000) (s0 := 10000) (by decide) (by decide) (L / 5) 0 0 V0 Y0 _ rfl (by omega) (fun q hq => hq) o_rel H locs ls (o_at hE) hS hl)
  rw [lg_entry_eq]
  exact body s.heap [] _ ⟨fun k q hk => absurd hk (by simp [kW]), by omega⟩ va_S.rf (lv_entry [.ref b] (n := 8) (Nat.le_of_ble_eq_true rfl))
set_option maxHeartbeats 4000000 in
theorem lw_walk (l : Launch) (hfl : l.flags = flags0) (b : Addr) (xs : List Int32) : MetFree l x (headSpec (Jvm.Cond.code x code maxLocals ret :: tables_1) room_1) (lw_P b xs) (fun _ _ _ _ _ => True) lw_Q := by
  refine MetFree.of_bodyS (code := code) (maxLocals := maxLocals) (ret := ret) (by decide) ?_ ?_
  · intro args s m h hn
    obtain ⟨meth, c, h1, h2, h3, h4, h5, h6, -, -⟩ := Cond.code_spec hn (atoms_spec (ws := Jvm.Cond.code x code maxLocals ret :: tables_1) h _ List.mem_cons_self)
    exact ⟨meth, c, h1, h2, h3, h4, h5, h6⟩
  · intro p e s m args below meth c s₁ B hml0 hP _
    obtain ⟨rfl, hx, hbd, hgv⟩ := hP
    obtain ⟨scr, harrAt, hlist, hof, hsmall⟩ := hx
    obtain ⟨hcb, hkn, -, -⟩ := State.arrayAt?_spec harrAt
    have hown : s.vm.findClass R_law = some m.cls := findClass_of_methodNamed B.named
    have hts0 : ∀ c ∈ (Jvm.Cond.code x code maxLocals ret :: tables_1), c.before #[Value.ref b] s = true := atoms_spec (ws := Jvm.Cond.code x code maxLocals ret :: tables_1) B.pre
    have hts : ∀ w ∈ lw_tbl, w.before #[Value.ref b] s = true := k2_hts_sels lw_privs (fun w hw => hts0 w (List.mem_cons_of_mem _ hw)) lw_privs_ok
    have hml : c.maxLocals = 8 := B.maxLocals_eq (hts0 _ List.mem_cons_self)
    have X₀ : Stand p l e room_1 s m #[Value.ref b] below meth c s₁ [] 0 0 := Stand.of_body B
    have hh0 : s₁.heap = s.heap := by rw [B.state]; rfl
    have hsz : scr.slots.size = xs.length := by rw [← Array.length_toList, hlist, List.length_map]
    have hval : ∀ j : Nat, j < xs.length → scr.slots[j]? = some (.int (xs.getD j 0)) := fun j hj => by
      rw [← Array.getElem?_toList, hlist]
      simp [hj]
    have hbl : b < s.heap.size := (Array.getElem?_eq_some_iff.mp hcb).1
    have hX : va_X b xs.length (fun j => xs.getD j 0) s s.heap := ⟨scr, hcb, hof, hkn, hsz, hval⟩
    have K : W p l e room_1 s m #[Value.ref b] below meth c s₁.heap [] 0 0 (lw_Z below #[Value.ref b] s) (entryFrame m ([Value.ref b] : List Value).toArray 8) := by
      rw [hh0]
      exact whole_start l hfl hbd ⟨B.exec, B.bytes, B.returns, hml, hown, hts, hX, hbl, B.notSynchronized, hgv⟩
    obtain ⟨t, a1, o, b1, b2, b3⟩ := K s₁ rfl X₀
    exact ⟨t, o, a1, b1, b2, b3⟩
theorem lw_pre_spec {args : Array Value} {s : State} (h : (Jvm.Cond.and given_1 narrow_1).before args s = true) (hr : rest_1_c.before args s = true) : ∃ (b : Addr) (xs : List Int32), lw_P b xs args s := by
  have hs := flat_of_before _ h
  have hq := flat_of_before _ hr
  have hc : (Cond.count 1).before args s = true := hs _ (by decide +kernel)
  have harr : (Cond.arrayOf (.arg 0) .int).before args s = true := hs _ (by decide +kernel)
  have hle : (Cond.le (.length (.arg 0)) (.int 2560)).before args s = true := hs _ (by decide +kernel)
  have hlen : (Cond.isInt (.length (.arg 0))).before args s = true := hq _ (by decide +kernel)
  have hall : (Cond.all (.arg 0) (.isInt (.elem (.arg 0) (.index 0)))).before args s = true := hq _ (by decide +kernel)
  obtain ⟨b, xs, hb, hx⟩ := State.ints_of_pre rfl harr hlen hall
  have hsm : xs.length < 2 ^ 31 := hx.choose_spec.2.2.2
  have hev : (Term.length (.arg 0)).eval args s none [] s = some (.int xs.length.toInt32) := hx.length_eval hb
  have hv := Cond.le_ints hev (show (Term.int 2560).eval args s none [] s = some (.int 2560) from rfl)
  have hd : xs.length.toInt32 ≤ 2560 := by
    simpa [Cond.before, Cond.holds, hv] using hle
  have hN : xs.length ≤ 2560 := (Int32.ofNat_le_ofNat hsm (by decide)).mp (show Int32.ofNat xs.length ≤ Int32.ofNat 2560 from hd)
  exact ⟨b, xs, Cond.one_arg hc (show args[0]? = some (.ref b) from hb), hx, hN, h⟩
theorem lw_comes (l : Launch) (hfl : l.flags = flags0) : Comes l x (Jvm.Cond.code x code maxLocals ret :: tables_1) room_1 (fun tb e args s => Calls_1 tb e args s ∧ rest_1 tb e args s ∧ Pre_1 tb e args s)
    (fun _ _ args s o t => lw_Q args s o t) := by
  intro p e ha hc hk s m args below hf hfit hheap happ hpre
  obtain ⟨b, xs, hP⟩ := lw_pre_spec hpre.2.2 hpre.2.1
  obtain ⟨k, o, h1, h2, h3, hQ⟩ := lw_walk l hfl b xs p e ha hc hk s m args below hf ((Spec.applies_iff_loose hf).mp happ).1 hP trivial
  exact ⟨k, o, h1, h2, h3, hQ⟩
theorem lw_frame {s t : State} {o : Outcome} {args : Array Value} (h : Framed s o t [] 601024 7293034) :
    Framed s o t (fieldLocs frame_1_writes args s ++ arrayLocs frame_1_arrays args s ++ staticLocs frame_1_statics s) 601024 7293034 := h
theorem lw_limb (L : Cond) (hL : ∀ (args : Array Value) (s t : State), L.after args s (.returned (some (.int 1))) t = true) :
    ArmFor flags0 classFile x code maxLocals ret World_1 tables_1 room_1 Calls_1 rest_1 Pre_1
      (fun tb e a s o t => postC L tb e a s o t ∧ Framed s o t (fieldLocs frame_1_writes a s ++ arrayLocs frame_1_arrays a s ++ staticLocs frame_1_statics s) 601024 7293034) := by
  intro l hfl1 hfl2 hfl3 p e ha hc hk s m args below hf hfit hheap happ hpre
  have hfl : l.flags = flags0 := by first | exact hfl1 | exact hfl2 | exact hfl3
  obtain ⟨k, o, h1, h2, h3, rfl, hF⟩ := lw_comes l hfl p e ha hc hk s m args below hf hfit hheap happ hpre
  exact ⟨k, _, h1, h2, h3, hL args s _, lw_frame hF⟩
theorem i_vc : Claimed_1_1 ∧ Claimed_1_2 := ⟨lw_limb limb_1_1 (fun args s t => by simp [limb_1_1, Cond.after, Cond.holds, Cond.value]), lw_limb limb_1_2 (fun args s t => Cond.after_iff.mpr (by
  first | (rw [show limb_1_2 = Cond.eq .result (.int 1) from rfl, Cond.eq_ints (x := 1) (y := 1) rfl rfl]; simp; done) | (simp [limb_1_2, Cond.value, Term.eval]; done)))⟩
