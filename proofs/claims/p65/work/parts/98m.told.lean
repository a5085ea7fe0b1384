/-! what a document leaves in the counts, told by the law -/
theorem zlt_no {b p s : Int} : ∀ (t : Nat) (c : Int → Int) (x : Int), (∀ q : Nat, q < t → zCs q b p + s ≠ x) → zlt b p s t c x = c x
  | 0, _, _, _ => rfl
  | t + 1, c, x, h => by
    show zlt b p s t (zadd c (zCs t b p + s) 1) x = _
    rw [zlt_no t _ x fun q hq => h q (by omega)]
    unfold zadd
    rw [if_neg (fun w => h t (by omega) w.symm)]
theorem zlt_yes {b p s : Int} {o : Nat} : ∀ (t : Nat) (c : Int → Int) (x : Int), o < t → zCs o b p + s = x → (∀ q : Nat, q < t → q ≠ o → zCs q b p + s ≠ x) → zlt b p s t c x = min (c x + 1) 999
  | 0, _, _, ho, _, _ => absurd ho (by omega)
  | t + 1, c, x, ho, hx, h => by
    show zlt b p s t (zadd c (zCs t b p + s) 1) x = _
    by_cases e : o = t
    · subst e
      rw [zlt_no o _ x fun q hq => h q (by omega) (by omega)]
      unfold zadd
      rw [if_pos hx.symm]
    · rw [zlt_yes t _ x (by omega) hx fun q hq hq2 => h q (by omega) hq2]
      unfold zadd
      rw [if_neg (fun w => h t (by omega) (fun q => e q.symm) w.symm)]
/-- symbols of a sound document -/
def zds' (X : zDoc) : Prop := ∀ j : Nat, j < dLe X → 0 ≤ dSy X j ∧ dSy X j < 27
theorem zke_rng {X : zDoc} (h : zds' X) {i o : Nat} (hi : (i : Int) < dLe X) (ho : o ≤ i ∧ o ≤ 2) : (o = 0 ∧ 0 ≤ zke X i o ∧ zke X i o < 27) ∨ (o = 1 ∧ 27 ≤ zke X i o ∧ zke X i o < 756) ∨ (o = 2 ∧ 756 ≤ zke X i o ∧ zke X i o < 20439) := by
  have h0 := h i hi
  rcases (show o = 0 ∨ o = 1 ∨ o = 2 by omega) with rfl | rfl | rfl
  · refine .inl ⟨rfl, ?_⟩
    show 0 ≤ 0 + dSy X i ∧ 0 + dSy X i < 27
    omega
  · have h1 := h (i - 1) (by omega)
    refine .inr (.inl ⟨rfl, ?_⟩)
    show 27 ≤ 27 + dSy X (i - 1) * 27 + dSy X i ∧ 27 + dSy X (i - 1) * 27 + dSy X i < 756
    omega
  · have h1 := h (i - 1) (by omega)
    have h2 := h (i - 2) (by omega)
    refine .inr (.inr ⟨rfl, ?_⟩)
    show 756 ≤ 756 + (dSy X (i - 2) * 27 + dSy X (i - 1)) * 27 + dSy X i ∧ 756 + (dSy X (i - 2) * 27 + dSy X (i - 1)) * 27 + dSy X i < 20439
    omega
theorem zke_at {X : zDoc} {j o : Nat} (hj : (j : Int) < dLe X) (ho : o ≤ j ∧ o ≤ 2) : zCs o (hAt (dSy X) (dLe X) ((j : Int) - 2)) (hAt (dSy X) (dLe X) ((j : Int) - 1)) + hAt (dSy X) (dLe X) j = zke X j o := by
  rw [hAt_in (i := (j : Int)) (by omega), Int.toNat_natCast]
  rcases (show o = 0 ∨ o = 1 ∨ o = 2 by omega) with rfl | rfl | rfl
  · rfl
  · rw [hAt_in (i := (j : Int) - 1) (by omega), show ((j : Int) - 1).toNat = j - 1 by omega]
    rfl
  · rw [hAt_in (i := (j : Int) - 1) (by omega), show ((j : Int) - 1).toNat = j - 1 by omega, hAt_in (i := (j : Int) - 2) (by omega), show ((j : Int) - 2).toNat = j - 2 by omega]
    rfl
theorem zFo_at {X : zDoc} (h : zds' X) {j : Nat} (hj : (j : Int) < dLe X) : (zFo (hAt (dSy X) (dLe X) ((j : Int) - 2)) (hAt (dSy X) (dLe X) ((j : Int) - 1)) + 1).toNat = min j 2 + 1 := by
  unfold zFo
  by_cases e0 : j = 0
  · rw [hAt_out (i := (j : Int) - 1) (by omega), if_pos rfl, e0]
    rfl
  · have h1 := h (j - 1) (by omega)
    rw [hAt_in (i := (j : Int) - 1) (by omega), show ((j : Int) - 1).toNat = j - 1 by omega, if_neg (by omega)]
    by_cases e1 : j = 1
    · rw [hAt_out (i := (j : Int) - 2) (by omega), if_pos rfl, e1]
      rfl
    · have h2 := h (j - 2) (by omega)
      rw [hAt_in (i := (j : Int) - 2) (by omega), show ((j : Int) - 2).toNat = j - 2 by omega, if_neg (by omega)]
      omega
theorem zke_sm {X : zDoc} (h : zds' X) {i j o : Nat} (hi : (i : Int) < dLe X) (hj : (j : Int) < dLe X) (ho : o ≤ i ∧ o ≤ j ∧ o ≤ 2) : zke X j o = zke X i o ↔ zsm X i j (o + 1) = true := by
  have a0 := h i hi
  have b0 := h j hj
  rcases (show o = 0 ∨ o = 1 ∨ o = 2 by omega) with rfl | rfl | rfl
  · show 0 + dSy X j = 0 + dSy X i ↔ (true && decide (dSy X (j - 0) = dSy X (i - 0))) = true
    rw [Bool.true_and, decide_eq_true_eq, Nat.sub_zero, Nat.sub_zero]
    omega
  · have a1 := h (i - 1) (by omega)
    have b1 := h (j - 1) (by omega)
    show 27 + dSy X (j - 1) * 27 + dSy X j = 27 + dSy X (i - 1) * 27 + dSy X i ↔ ((true && decide (dSy X (j - 0) = dSy X (i - 0))) && decide (dSy X (j - 1) = dSy X (i - 1))) = true
    rw [Bool.true_and, Bool.and_eq_true, decide_eq_true_eq, decide_eq_true_eq, Nat.sub_zero, Nat.sub_zero]
    omega
  · have a1 := h (i - 1) (by omega)
    have b1 := h (j - 1) (by omega)
    have a2 := h (i - 2) (by omega)
    have b2 := h (j - 2) (by omega)
    show 756 + (dSy X (j - 2) * 27 + dSy X (j - 1)) * 27 + dSy X j = 756 + (dSy X (i - 2) * 27 + dSy X (i - 1)) * 27 + dSy X i ↔ (((true && decide (dSy X (j - 0) = dSy X (i - 0))) && decide (dSy X (j - 1) = dSy X (i - 1))) && decide (dSy X (j - 2) = dSy X (i - 2))) = true
    rw [Bool.true_and, Bool.and_eq_true, Bool.and_eq_true, decide_eq_true_eq, decide_eq_true_eq, decide_eq_true_eq, Nat.sub_zero, Nat.sub_zero]
    omega
theorem zldn_st {X : zDoc} (h : zds' X) (c : Int → Int) {i o n : Nat} (hi : (i : Int) < dLe X) (ho : o ≤ i ∧ o ≤ 2) (hn : (n : Int) < dLe X) : zldn (dSy X) (dLe X) c (n + 1) (zke X i o) = if o + 1 ≤ n + 1 ∧ zsm X i n (o + 1) = true then min (zldn (dSy X) (dLe X) c n (zke X i o) + 1) 999 else zldn (dSy X) (dLe X) c n (zke X i o) := by
  show zlt _ _ _ (zFo (hAt (dSy X) (dLe X) ((n : Int) - 2)) (hAt (dSy X) (dLe X) ((n : Int) - 1)) + 1).toNat (zldn (dSy X) (dLe X) c n) (zke X i o) = _
  rw [zFo_at h hn]
  have r1 := zke_rng h hi ho
  have ne : ∀ q : Nat, q < min n 2 + 1 → q ≠ o → zCs q (hAt (dSy X) (dLe X) ((n : Int) - 2)) (hAt (dSy X) (dLe X) ((n : Int) - 1)) + hAt (dSy X) (dLe X) n ≠ zke X i o := fun q hq hqo w => by
    rw [zke_at hn (by omega)] at w
    have r2 := zke_rng h hn (o := q) (by omega)
    omega
  by_cases e : o ≤ n
  · by_cases e2 : zsm X i n (o + 1) = true
    · rw [if_pos ⟨by omega, e2⟩]
      exact zlt_yes _ _ _ (o := o) (by omega) (by
        rw [zke_at hn (by omega)]
        exact (zke_sm h hi hn (by omega)).mpr e2) ne
    · rw [if_neg (fun w => e2 w.2)]
      refine zlt_no _ _ _ fun q hq w => ?_
      by_cases e3 : q = o
      · subst e3
        rw [zke_at hn (by omega)] at w
        exact e2 ((zke_sm h hi hn (by omega)).mp w)
      · exact ne q hq e3 w
  · rw [if_neg (fun w => e (by omega))]
    exact zlt_no _ _ _ fun q hq => ne q hq (by omega)
theorem zldn_of {X : zDoc} (h : zds' X) {c : Int → Int} (hc : zcR c) {i o : Nat} (hi : (i : Int) < dLe X) (ho : o ≤ i ∧ o ≤ 2) : ∀ n : Nat, (n : Int) ≤ dLe X → zldn (dSy X) (dLe X) c n (zke X i o) = min 999 (c (zke X i o) + zto X i (o + 1) n)
  | 0, _ => by
    have := hc (zke X i o)
    show c (zke X i o) = min 999 (c (zke X i o) + 0)
    omega
  | n + 1, hn => by
    rw [zldn_st h c hi ho (by omega), zldn_of h hc hi ho n (by omega)]
    show _ = min 999 (c (zke X i o) + (zto X i (o + 1) n + if o + 1 ≤ n + 1 ∧ zsm X i n (o + 1) = true then 1 else 0))
    split <;> omega
/-- the law's word on a count -/
def ztl (hy hf hm hg : Int) (v v2 w : Int) : Int := if hm = 1 then v else if hy = 1 then v / 2 else if hf = 1 then 0 else if hg = 1 then v + v2 else w
theorem zcn_doc {X : zDoc} (h : zds' X) {c : Int → Int} (hc : zcR c) {i o : Nat} (hi : (i : Int) < dLe X) (ho : o < 3) : zcn (zdoc c X) X (3 * i + o) = min 999 (if i < o then 0 else zcn c X (3 * i + o) + zto X i (o + 1) (dLe X).toNat) := by
  unfold zcn
  rw [show (3 * i + o) / 3 = i by omega, show (3 * i + o) % 3 = o by omega]
  by_cases e : i < o
  · rw [if_pos e, if_pos e]
    rfl
  · rw [if_neg e, if_neg e, if_neg e]
    exact zldn_of h hc hi (by omega) _ (by omega)
theorem zcn_hlf (c : Int → Int) (X : zDoc) (j : Nat) : zcn (zhlf c) X j = zcn c X j / 2 := by
  unfold zcn
  split <;> rfl
theorem zcn_clr (X : zDoc) (j : Nat) : zcn (fun _ => 0) X j = 0 := by
  unfold zcn
  split <;> rfl
theorem zcn_mrg (c d : Int → Int) (X : zDoc) (j : Nat) : zcn (zmrg c d) X j = min 999 (zcn d X j + zcn c X j) := by
  unfold zcn
  split
  · rfl
  · show min (c _ + d _) 999 = _
    omega

