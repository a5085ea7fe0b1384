/-! the law's order of guesses: what is picked is what the ranks say -/
theorem zsum_lt {f g : Int → Int} {lo : Int} {t i : Nat} (h : ∀ j : Nat, j < t → f (lo + j) ≤ g (lo + j)) (hi : i < t) (h2 : f (lo + i) + 1 ≤ g (lo + i)) : zsum f lo t + 1 ≤ zsum g lo t := by
  rw [zsum_out (f := f) hi, zsum_out (f := g) hi]
  have := zsum_mo (f := fun k => if k = lo + i then 0 else f k) (g := fun k => if k = lo + i then 0 else g k) (lo := lo) (t := t) (fun j hj => by
    show (if lo + (j : Int) = lo + i then 0 else f (lo + j)) ≤ (if lo + (j : Int) = lo + i then 0 else g (lo + j))
    split
    · exact Int.le_refl 0
    · exact h j hj)
  omega
theorem zbf_tr {c : Int → Int} {b p x y z : Int} (h1 : zbf c b p x y) (h2 : zbf c b p y z) : zbf c b p x z := by
  unfold zbf at h1 h2 ⊢
  omega
theorem zbf_tt {c : Int → Int} {b p x y : Int} (h : x ≠ y) : zbf c b p x y ∨ zbf c b p y x := by
  unfold zbf
  omega
theorem zbfi_1 {c : Int → Int} {b p x y : Int} (h : zbf c b p x y) : zbfi c b p x y = 1 := if_pos h
theorem zbfi_0 {c : Int → Int} {b p x y : Int} (h : ¬ zbf c b p x y) : zbfi c b p x y = 0 := if_neg h
theorem zrk_lt {c : Int → Int} {b p y s : Int} (hy : 0 ≤ y ∧ y < 27) (h : zbf c b p y s) : zrk c b p y + 1 ≤ zrk c b p s := by
  unfold zrk
  have := zsum_lt (f := fun z => zbfi c b p z y) (g := fun z => zbfi c b p z s) (lo := 0) (t := 27) (i := y.toNat) (fun j _ => by
    show zbfi c b p (0 + j) y ≤ zbfi c b p (0 + j) s
    by_cases e : zbf c b p (0 + j) y
    · rw [zbfi_1 e, zbfi_1 (zbf_tr e h)]
      exact Int.le_refl 1
    · rw [zbfi_0 e]
      exact (zbfi_rng c b p _ s).1) (by omega) (by
    show zbfi c b p (0 + (y.toNat : Int)) y + 1 ≤ zbfi c b p (0 + (y.toNat : Int)) s
    rw [show 0 + (y.toNat : Int) = y by omega, zbfi_1 h, zbfi_0 (fun w => zbf_as w w)]
    omega)
  omega
theorem zgs_rk {c : Int → Int} {b p s : Int} (hs : 0 ≤ s ∧ s < 27) : zgs c b p (zrk c b p s) = s := by
  refine zgst_at (fun y y1 y2 q => ?_) rfl hs.1 27 (by omega) hs.2
  by_cases e : y = s
  · exact e
  · rcases zbf_tt (c := c) (b := b) (p := p) e with h | h
    · have := zrk_lt ⟨y1, y2⟩ h
      omega
    · have := zrk_lt hs h
      omega
/-- those seen so far, and the next rank -/
def zSn (c : Int → Int) (b p : Int) (sn : Int → Int) (rk : Int) : Prop := (∀ y, sn y = 0 ∨ sn y = 1) ∧ rk = 1 + zsum sn 0 27 ∧ ∀ y z, 0 ≤ y ∧ y < 27 → 0 ≤ z ∧ z < 27 → sn y = 1 → sn z = 0 → zbf c b p y z
def zsu (sn : Int → Int) (s : Int) : Int → Int := fun y => if y = s then 1 else sn y
theorem zSn.le {c : Int → Int} {b p rk s : Int} {sn : Int → Int} (h : zSn c b p sn rk) (hs : 0 ≤ s ∧ s < 27) (h0 : sn s = 0) : 1 ≤ rk ∧ rk ≤ 27 := by
  have h1 := zsum_lt (f := sn) (g := fun _ => 1) (lo := 0) (t := 27) (i := s.toNat) (fun j _ => by
    have := h.1 (0 + j)
    show sn (0 + j) ≤ 1
    omega) (by omega) (by
    rw [show 0 + (s.toNat : Int) = s by omega, h0]
    decide)
  have h2 : zsum (fun _ => 1) 0 27 = 27 := rfl
  have h3 := zsum_nn (f := sn) (lo := 0) (t := 27) (fun j _ => by
    have := h.1 (0 + j)
    omega)
  have := h.2.1
  omega
theorem zSn.rng {c : Int → Int} {b p rk : Int} {sn : Int → Int} (h : zSn c b p sn rk) : 1 ≤ rk ∧ rk ≤ 28 := by
  have h1 := zsum_le (f := sn) (lo := 0) (b := 1) (t := 27) (fun j _ => by
    have := h.1 (0 + j)
    omega)
  have h3 := zsum_nn (f := sn) (lo := 0) (t := 27) (fun j _ => by
    have := h.1 (0 + j)
    omega)
  have := h.2.1
  omega
theorem zSn.pick {c : Int → Int} {b p rk s : Int} {sn : Int → Int} (h : zSn c b p sn rk) (hs : 0 ≤ s ∧ s < 27) (h0 : sn s = 0) (hb : ∀ z, 0 ≤ z ∧ z < 27 → sn z = 0 → z ≠ s → zbf c b p s z) : zrk c b p s = rk ∧ zSn c b p (zsu sn s) (rk + 1) := by
  refine ⟨?_, ?_, ?_, ?_⟩
  · unfold zrk
    rw [h.2.1]
    congr 1
    refine zsum_cg fun j hj => ?_
    show zbfi c b p (0 + j) s = sn (0 + j)
    rcases h.1 (0 + j) with e | e
    · rw [e]
      refine zbfi_0 fun w => ?_
      by_cases e2 : (0 + (j : Int)) = s
      · rw [e2] at w
        exact zbf_as w w
      · exact zbf_as w (hb _ (by omega) e e2)
    · rw [e]
      exact zbfi_1 (h.2.2 _ _ (by omega) hs e h0)
  · intro y
    unfold zsu
    split
    · exact .inr rfl
    · exact h.1 y
  · have e1 := zsum_out (f := zsu sn s) (lo := 0) (t := 27) (i := s.toNat) (by omega)
    have e2 := zsum_out (f := sn) (lo := 0) (t := 27) (i := s.toNat) (by omega)
    rw [show 0 + (s.toNat : Int) = s by omega] at e1 e2
    rw [h0] at e2
    have e3 : zsu sn s s = 1 := if_pos rfl
    rw [e3] at e1
    have e4 : zsum (fun k => if k = s then 0 else zsu sn s k) 0 27 = zsum (fun k => if k = s then 0 else sn k) 0 27 := zsum_cg fun j _ => by
      show (if (0 + (j : Int)) = s then 0 else zsu sn s (0 + j)) = if (0 + (j : Int)) = s then 0 else sn (0 + j)
      split
      · rfl
      · rename_i q
        exact if_neg q
    have := h.2.1
    omega
  · intro y z hy hz h1 h2
    unfold zsu at h1 h2
    by_cases e2 : z = s
    · rw [if_pos e2] at h2
      exact absurd h2 (by decide)
    · rw [if_neg e2] at h2
      by_cases e1 : y = s
      · rw [e1]
        exact hb z hz h2 e2
      · rw [if_neg e1] at h1
        exact h.2.2 y z hy hz h1 h2
theorem zSn.nil (c : Int → Int) (b p : Int) : zSn c b p (fun _ => 0) 1 := ⟨fun _ => .inl rfl, rfl, fun y z _ _ h _ => absurd h (show ¬ ((0 : Int) = 1) by decide)⟩
theorem zSn.cg {c : Int → Int} {b p rk : Int} {sn sn' : Int → Int} (h : zSn c b p sn rk) (h1 : ∀ y, sn' y = 0 ∨ sn' y = 1) (h2 : ∀ y, 0 ≤ y ∧ y < 27 → sn' y = sn y) : zSn c b p sn' rk := ⟨h1, by
  rw [h.2.1]
  congr 1
  exact zsum_cg fun j hj => (h2 _ (by omega)).symm, fun y z hy hz a1 a2 => h.2.2 y z hy hz (by rw [← h2 y hy]; exact a1) (by rw [← h2 z hz]; exact a2)⟩
/-- the orders above o are seen, none below o -/
def zSo (c : Int → Int) (b p : Int) (sn : Int → Int) (o : Int) : Prop := (∀ y, 0 ≤ y ∧ y < 27 → o < zlv c b p y → sn y = 1) ∧ ∀ y, 0 ≤ y ∧ y < 27 → sn y = 1 → o ≤ zlv c b p y
/-- one who may be picked in order o -/
def zCd (c : Int → Int) (b p : Int) (sn : Int → Int) (o s : Int) : Prop := sn s = 0 ∧ 0 < c (zCs o b p + s)
theorem zCd.lv {c : Int → Int} {b p o s : Int} {sn : Int → Int} (hS : zSo c b p sn o) (ho : 0 ≤ o ∧ o ≤ zFo b p) (hs : 0 ≤ s ∧ s < 27) (h : zCd c b p sn o s) : zlv c b p s = o ∧ zwt c b p s = c (zCs o b p + s) := by
  have h1 := zlv_ge (c := c) (b := b) (p := p) (s := s) ho (by have := h.2; omega)
  have h2 : ¬ o < zlv c b p s := fun w => by
    have h3 := hS.1 s hs w
    rw [h.1] at h3
    exact absurd h3 (by decide)
  have h3 : zlv c b p s = o := by omega
  exact ⟨h3, zwt_at ho.1 h3⟩
/-- the best so far -/
def zBs (c : Int → Int) (b p : Int) (sn : Int → Int) (o i best : Int) : Prop := (best = -1 ∧ ∀ s, 0 ≤ s ∧ s < i → ¬ zCd c b p sn o s) ∨ ((0 ≤ best ∧ best < i) ∧ zCd c b p sn o best ∧ ∀ s, 0 ≤ s ∧ s < i → zCd c b p sn o s → s ≠ best → c (zCs o b p + s) < c (zCs o b p + best) ∨ (c (zCs o b p + s) = c (zCs o b p + best) ∧ best < s))
theorem zBs.nil (c : Int → Int) (b p : Int) (sn : Int → Int) (o : Int) : zBs c b p sn o 0 (-1) := .inl ⟨rfl, fun s hs => by omega⟩
theorem zBs.no {c : Int → Int} {b p o i best : Int} {sn : Int → Int} (h : zBs c b p sn o i best) (hn : ¬ zCd c b p sn o i) : zBs c b p sn o (i + 1) best := by
  rcases h with ⟨h1, h2⟩ | ⟨h1, h2, h3⟩
  · refine .inl ⟨h1, fun s hs w => ?_⟩
    by_cases e : s = i
    · rw [e] at w
      exact hn w
    · exact h2 s (by omega) w
  · refine .inr ⟨by omega, h2, fun s hs w hne => ?_⟩
    by_cases e : s = i
    · rw [e] at w
      exact absurd w hn
    · exact h3 s (by omega) w hne
theorem zBs.le {c : Int → Int} {b p o i best : Int} {sn : Int → Int} (h : zBs c b p sn o i best) (h0 : 0 ≤ best) (hn : c (zCs o b p + i) ≤ c (zCs o b p + best)) : zBs c b p sn o (i + 1) best := by
  rcases h with ⟨h1, h2⟩ | ⟨h1, h2, h3⟩
  · omega
  · refine .inr ⟨by omega, h2, fun s hs w hne => ?_⟩
    by_cases e : s = i
    · rw [e]
      omega
    · exact h3 s (by omega) w hne
theorem zBs.up {c : Int → Int} {b p o i best : Int} {sn : Int → Int} (h : zBs c b p sn o i best) (hi : 0 ≤ i) (hc : zCd c b p sn o i) (hn : best < 0 ∨ c (zCs o b p + best) < c (zCs o b p + i)) : zBs c b p sn o (i + 1) i := by
  refine .inr ⟨by omega, hc, fun s hs w hne => ?_⟩
  rcases h with ⟨h1, h2⟩ | ⟨h1, h2, h3⟩
  · exact absurd w (h2 s (by omega))
  · by_cases e : s = best
    · rw [e]
      omega
    · have := h3 s (by omega) w e
      omega
theorem zBs.rng {c : Int → Int} {b p o i best : Int} {sn : Int → Int} (h : zBs c b p sn o i best) (hi : 0 ≤ i) : -1 ≤ best ∧ best < i ∨ best = -1 := by
  rcases h with ⟨h1, -⟩ | ⟨h1, -⟩ <;> omega
theorem zBs.dn {c : Int → Int} {b p o best : Int} {sn : Int → Int} (h : zBs c b p sn o 27 best) (hb : best < 0) (hc : zcR c) (hS : zSo c b p sn o) (hs01 : ∀ y, sn y = 0 ∨ sn y = 1) (ho : 0 ≤ o ∧ o ≤ zFo b p) : zSo c b p sn (o - 1) := by
  rcases h with ⟨h1, h2⟩ | ⟨h1, h2, h3⟩
  · refine ⟨fun y hy hl => ?_, fun y hy w => by have := hS.2 y hy w; omega⟩
    rcases hs01 y with e | e
    · have h4 : ¬ o < zlv c b p y := fun w => by
        have h5 := hS.1 y hy w
        rw [e] at h5
        exact absurd h5 (by decide)
      have h6 : zlv c b p y = o := by omega
      have h7 : c (zCs o b p + y) ≠ 0 := fun w => zlv_ne ho.1 w h6
      have h8 := hc (zCs o b p + y)
      exact absurd ⟨e, by omega⟩ (h2 y hy)
    · exact e
  · omega
theorem zBs.pk {c : Int → Int} {b p o best rk : Int} {sn : Int → Int} (h : zBs c b p sn o 27 best) (hb : 0 ≤ best) (hc : zcR c) (hS : zSo c b p sn o) (hN : zSn c b p sn rk) (ho : 0 ≤ o ∧ o ≤ zFo b p) : (best < 27 ∧ zlv c b p best = o ∧ zrk c b p best = rk ∧ rk ≤ 27) ∧ zSn c b p (zsu sn best) (rk + 1) ∧ zSo c b p (zsu sn best) o := by
  rcases h with ⟨h1, h2⟩ | ⟨h1, h2, h3⟩
  · omega
  · have hv := h2.lv hS ho (by omega)
    have hp := hN.pick (s := best) (by omega) h2.1 (fun z hz hz0 hne => by
      have hcz := hc (zCs o b p + z)
      have h4 : ¬ o < zlv c b p z := fun w => by
        have h5 := hS.1 z hz w
        rw [hz0] at h5
        exact absurd h5 (by decide)
      by_cases e : 0 < c (zCs o b p + z)
      · have hd : zCd c b p sn o z := ⟨hz0, e⟩
        have hw := hd.lv hS ho hz
        have h6 := h3 z (by omega) hd hne
        unfold zbf
        rw [hv.1, hv.2, hw.1, hw.2]
        omega
      · have h7 := zlv_ne (c := c) (b := b) (p := p) (s := z) ho.1 (by omega)
        unfold zbf
        rw [hv.1]
        omega)
    refine ⟨⟨h1.2, hv.1, hp.1, (hN.le (by omega) h2.1).2⟩, hp.2, fun y hy hl => ?_, fun y hy w => ?_⟩
    · unfold zsu
      split
      · rfl
      · exact hS.1 y hy hl
    · unfold zsu at w
      by_cases e : y = best
      · rw [e, hv.1]
        exact Int.le_refl o
      · rw [if_neg e] at w
        exact hS.2 y hy w
theorem zSo.all {c : Int → Int} {b p o : Int} {sn : Int → Int} {rk : Int} (h : zSo c b p sn o) (hN : zSn c b p sn rk) (hr : 28 ≤ rk) : zSo c b p sn (o - 1) := ⟨fun y hy _ => by
  rcases hN.1 y with e | e
  · have := hN.le hy e
    omega
  · exact e, fun y hy w => by have := h.2 y hy w; omega⟩
theorem zSo.nil (c : Int → Int) (b p : Int) : zSo c b p (fun _ => 0) (zFo b p) := ⟨fun y _ h => by
  have := zlv_rng c b p y
  omega, fun y _ h => absurd h (show ¬ ((0 : Int) = 1) by decide)⟩
/-- the symbols without a count, behind all others -/
def zsl (sn : Int → Int) (i : Int) : Int → Int := fun y => if y < i then 1 else sn y
theorem zsl.lst {c : Int → Int} {b p rk i : Int} {sn : Int → Int} (hS : zSo c b p sn (-1)) (hN : zSn c b p (zsl sn i) rk) (hi : 0 ≤ i ∧ i < 27) (h0 : sn i = 0) : zrk c b p i = rk ∧ zlv c b p i = -1 ∧ rk ≤ 27 ∧ zSn c b p (zsl sn (i + 1)) (rk + 1) := by
  have hl : ∀ z, 0 ≤ z ∧ z < 27 → sn z = 0 → zlv c b p z = -1 := fun z hz w => by
    have h1 := zlv_rng c b p z
    have h2 : ¬ -1 < zlv c b p z := fun q => by
      have h3 := hS.1 z hz q
      rw [w] at h3
      exact absurd h3 (by decide)
    omega
  have e0 : zsl sn i i = 0 := by
    unfold zsl
    rw [if_neg (by omega)]
    exact h0
  have hp := hN.pick hi e0 (fun z hz w hne => by
    unfold zsl at w
    by_cases e : z < i
    · rw [if_pos e] at w
      exact absurd w (by decide)
    · rw [if_neg e] at w
      unfold zbf
      rw [zwt_no (hl z hz w), zwt_no (hl i hi h0), hl z hz w, hl i hi h0]
      omega)
  refine ⟨hp.1, hl i hi h0, (hN.le hi e0).2, ?_⟩
  have ef : zsu (zsl sn i) i = zsl sn (i + 1) := by
    funext y
    unfold zsu zsl
    by_cases e1 : y = i
    · rw [if_pos e1, if_pos (by omega)]
    · rw [if_neg e1]
      by_cases e2 : y < i
      · rw [if_pos e2, if_pos (by omega)]
      · rw [if_neg e2, if_neg (by omega)]
  rw [← ef]
  exact hp.2
theorem zsl.nx {sn : Int → Int} {i : Int} (h : sn i = 1) : zsl sn (i + 1) = zsl sn i := by
  funext y
  unfold zsl
  by_cases e1 : y = i
  · rw [e1, if_pos (by omega), if_neg (by omega), h]
  · by_cases e2 : y < i
    · rw [if_pos e2, if_pos (by omega)]
    · rw [if_neg e2, if_neg (by omega)]

