/-! the face: the past, ranks read, symbols written -/
def yRem (Y : zSys) : zSys := (yS Y, min (yPc Y + 1) 8, (fun i => if i = 0 then yS Y else yPs Y (i - 1)), Y.2.2.2)
def ySet (Y : zSys) (S : zSt) : zSys := (S, Y.2)
def ySI (Y : zSys) (f : Nat → Int) (n : Int) : zSys := (Y.1, Y.2.1, Y.2.2.1, Y.2.2.2.1, Y.2.2.2.2.1, (f, n), Y.2.2.2.2.2.2)
def ySO (Y : zSys) (f : Nat → Int) (n : Int) : zSys := (Y.1, Y.2.1, Y.2.2.1, Y.2.2.2.1, Y.2.2.2.2.1, Y.2.2.2.2.2.1, (f, n), Y.2.2.2.2.2.2.2)
def ySE (Y : zSys) (c p : Int) : zSys := (Y.1, Y.2.1, Y.2.2.1, Y.2.2.2.1, Y.2.2.2.2.1, Y.2.2.2.2.2.1, Y.2.2.2.2.2.2.1, c, p)
theorem zZk.rem {Y : zSys} {pn : Int} {Z : Nat → zSt} (h : zZk Y pn Z) (hc : 0 ≤ yPc Y ∧ yPc Y ≤ 8) : zZk (yRem Y) ((pn + 1) % 8) (va_up Z (2 + pn.toNat) (Z 0)) := by
  obtain ⟨h1, h2, h3, h4⟩ := h
  refine ⟨by omega, ?_, fun i hi => ?_, fun k hk hu => ?_⟩
  · rw [va_up_ne _ _ (by omega)]
    exact h2
  · have hi : (i : Int) < min (yPc Y + 1) 8 := hi
    show va_up Z (2 + pn.toNat) (Z 0) (zPi ((pn + 1) % 8) i) = if i = 0 then yS Y else yPs Y (i - 1)
    by_cases e : i = 0
    · subst e
      rw [if_pos rfl]
      have : zPi ((pn + 1) % 8) 0 = 2 + pn.toNat := by
        unfold zPi
        omega
      rw [this, va_up_self]
      exact h2
    · rw [if_neg e]
      have e1 : zPi ((pn + 1) % 8) i = zPi pn (i - 1) := by
        unfold zPi
        omega
      have e2 : zPi pn (i - 1) ≠ 2 + pn.toNat := by
        unfold zPi
        omega
      rw [e1, va_up_ne _ _ e2]
      exact h3 (i - 1) (by omega)
  · rw [va_up_ne _ _ (by omega)]
    exact h4 k hk hu
theorem zZk.set {Y : zSys} {pn : Int} {Z : Nat → zSt} (h : zZk Y pn Z) (S : zSt) : zZk (ySet Y S) pn (va_up Z 0 S) := by
  obtain ⟨h1, h2, h3, h4⟩ := h
  refine ⟨h1, va_up_self _ _ _, fun i hi => ?_, fun k hk hu => ?_⟩
  · rw [va_up_ne _ _ (by unfold zPi; omega)]
    exact h3 i hi
  · rw [va_up_ne _ _ (by omega)]
    exact h4 k hk hu
theorem yOk.rem {Y : zSys} (h : yOk Y) : yOk (yRem Y) := by
  obtain ⟨h1, h2, h3, h4⟩ := h
  refine ⟨h1, ?_, fun i hi => ?_, h4⟩
  · show 0 ≤ min (yPc Y + 1) 8 ∧ min (yPc Y + 1) 8 ≤ 8
    omega
  · have hi : (i : Int) < min (yPc Y + 1) 8 := hi
    show zOk (if i = 0 then yS Y else yPs Y (i - 1))
    split
    · exact h1
    · exact h3 _ (by omega)
theorem yOk.set {Y : zSys} (h : yOk Y) {S : zSt} (hS : zOk S) : yOk (ySet Y S) := ⟨hS, h.2.1, h.2.2.1, h.2.2.2⟩
theorem zFr.us {M M' : zM} {U : Nat → Nat} {L : List Nat} (h : zFr M M' (L.map U)) (hL : ∀ i ∈ L, i < 532) : zFr M M' (zFU U) := h.tr zFr.rf (zUs hL) (fun _ h => h)
theorem zFr.ub {M M' : zM} {U : Nat → Nat} {k : Nat} (h : zFr M M' (zFD (zUb U k))) (hk : k < 12) : zFr M M' (zFU U) := h.tr zFr.rf (zUbs U hk) (fun _ h => h)
theorem zFr.uu {M M1 M2 : zM} {U : Nat → Nat} (h1 : zFr M M1 (zFU U)) (h2 : zFr M1 M2 (zFU U)) : zFr M M2 (zFU U) := h1.tr h2 (fun _ h => h) (fun _ h => h)
theorem hFo.fr {γ : zG} {M M' : zM} {U : Nat → Nat} {pn cnt ec ep : Int} {S : List Nat} (h : hFo γ M U pn cnt ec ep) (f : zFr M M' S) (hS : U 0 ∉ S) : hFo γ M' U pn cnt ec ep := f.at hS h
set_option maxHeartbeats 4000000 in
set_option maxRecDepth 100000 in
theorem k_X8_remember {l : Launch} {γ : zG} {M : zM} {U : Nat → Nat} {Y : zSys} (hc : hFc γ M U Y) (hk : yOk Y) :
    zCon l γ yX8_remember cX8_remember 1 none [.ref (U 0)] M 4 82 0 0 (fun v' M' => v' = none ∧ zFr M M' (zFU U) ∧ hFc γ M' U (yRem Y)) (fun _ _ => False) := by
  obtain ⟨hI, pn, Z, iF, oF, hZ, hF, hX, hi1, ho1⟩ := hc
  have hpn := hZ.1
  have hcn := hk.2.1
  have hob := id hF
  unfold hFo at hob
  have hps := hX.1
  have hs0 := hX.st0
  have hs1 := hX.2.2.2.2.2.2.2.2.2 (2 + pn.toNat) (by omega)
  have hkn : zNk (Z 0) := by rw [hZ.2.1]; exact hk.1.nk
  have ob1 := hs1.ob
  refine zEnter [some (.ref (U 0))] (by decide +kernel) rfl rfl (Nat.le_of_ble_eq_true rfl) ?_
  intro p e s m args below meth c Q C hin hQ
  refine z_aload_n C dX8_remember_0 rfl ?_
  refine z_get C dX8_remember_1 fl_X8_23 (by first | assumption | ((repeat (first | assumption | exact va_up_self _ _ _ | refine (va_up_ne _ _ (by assumption)).trans ?_)); done) | (simp [va_up, *] <;> rfl)) rfl ?_
  refine z_aload_n C dX8_remember_4 rfl ?_
  refine z_get C dX8_remember_5 fl_X8_27 (by first | assumption | ((repeat (first | assumption | exact va_up_self _ _ _ | refine (va_up_ne _ _ (by assumption)).trans ?_)); done) | (simp [va_up, *] <;> rfl)) rfl ?_
  refine z_aldR C dX8_remember_8 (by first | assumption | ((repeat (first | assumption | exact va_up_self _ _ _ | refine (va_up_ne _ _ (by assumption)).trans ?_)); done) | (simp [va_up, *] <;> rfl)) (by decide) (by omega) (by omega) ?_
  refine z_aload_n C dX8_remember_9 rfl ?_
  refine z_get C dX8_remember_10 fl_X8_13 (by first | assumption | ((repeat (first | assumption | exact va_up_self _ _ _ | refine (va_up_ne _ _ (by assumption)).trans ?_)); done) | (simp [va_up, *] <;> rfl)) rfl ?_
  refine z_callV C dX8_remember_13 lk_X8_139 mw_X7_copyFrom mi_X7_copyFrom ms_X7_copyFrom rfl ob1 (k_X7_copyFrom (hI.b (k := 2 + pn.toNat) (by omega)) hs1 hs0 hkn (fun i j hi hj q => by
  have := hI (16 + 43 * (2 + pn.toNat) + i) (16 + 43 * 0 + j) (by omega) (by omega) q
  omega)) rfl (by first | decide | exact Nat.le_of_ble_eq_true rfl) ⟨by decide, by decide, by decide, by decide⟩ (fun _ _ h => False.elim h) (fun v M' hp => ?_)
  obtain ⟨rfl, f1, hS1⟩ := hp
  have hob1 := f1.at (zUd hI (a := 0) (by omega) (by omega)) hob
  have hX1 := hX.st hI f1 (by omega) hS1
  refine z_aload_n C dX8_remember_16 rfl ?_
  refine z_aload_n C dX8_remember_17 rfl ?_
  refine z_get C dX8_remember_18 fl_X8_27 (by first | assumption | ((repeat (first | assumption | exact va_up_self _ _ _ | refine (va_up_ne _ _ (by assumption)).trans ?_)); done) | (simp [va_up, *] <;> rfl)) rfl ?_
  refine z_iconst C dX8_remember_21 ?_
  refine z_iaddZ C dX8_remember_22 ?_
  refine z_bipush C dX8_remember_23 (by decide) ?_
  refine z_iremZ C dX8_remember_25 (by omega) (by omega) ?_
  refine z_put C dX8_remember_26 fl_X8_27 (by first | assumption | ((repeat (first | assumption | exact va_up_self _ _ _ | refine (va_up_ne _ _ (by assumption)).trans ?_)); done) | (simp [va_up, *] <;> rfl)) rfl rfl (by simp) ?_
  refine z_aload_n C dX8_remember_29 rfl ?_
  refine z_aload_n C dX8_remember_30 rfl ?_
  refine z_get C dX8_remember_31 fl_X8_31 (by first | assumption | ((repeat (first | assumption | exact va_up_self _ _ _ | refine (va_up_ne _ _ (by assumption)).trans ?_)); done) | (simp [va_up, *] <;> rfl)) rfl ?_
  refine z_iconst C dX8_remember_34 ?_
  refine z_iaddZ C dX8_remember_35 ?_
  refine z_bipush C dX8_remember_36 (by decide) ?_
  refine z_min C dX8_remember_38 lk_X8_356 mmin_st ma_in mmin_co (by omega) (by omega) ⟨by decide, (by first | decide | exact Nat.le_of_ble_eq_true rfl), by decide, by decide⟩ ?_
  refine z_put C dX8_remember_41 fl_X8_31 (by first | assumption | ((repeat (first | assumption | exact va_up_self _ _ _ | refine (va_up_ne _ _ (by assumption)).trans ?_)); done) | (simp [va_up, *] <;> rfl)) rfl rfl (by simp) ?_
  refine z_vret C hQ dX8_remember_44 (by decide) (by decide) ?_
  refine ⟨rfl, (f1.ub (by omega)).uu (zFr.u2 zFr.rf (zU_in U (by omega)) (zU_in U (by omega))), hI, (pn + 1) % 8, _, iF, oF, hZ.rem hcn, va_up_self _ _ _, hX1.obj hI (zFr.u2 zFr.rf (by simp) (by simp)), hi1, ho1⟩
/-- ranks read from a text: how many (0: none), which -/
def zrrt (f : Nat → Int) (n : Int) : Nat → Int → Int → Int → (Nat → Int) → Int × (Nat → Int)
  | 0, _, z, _, g => (z, g)
  | t + 1, i, z, v, g => if 48 ≤ hAt f n i ∧ hAt f n i ≤ 57 then zrrt f n t (i + 1) z (min (v * 10 + hAt f n i - 48) 1000) g else if (hAt f n i = 44 ∨ hAt f n i = -1) ∧ 1 ≤ v ∧ v ≤ 27 ∧ z < 40 then zrrt f n t (i + 1) (z + 1) 0 (va_up g z.toNat v) else (0, g)
def zrr (f : Nat → Int) (n : Int) : Int × (Nat → Int) := zrrt f n (n + 1).toNat 0 0 0 (fun _ => 0)
theorem zwd_rng {x y : Int} (hx : 0 ≤ x ∧ x ≤ 1000) (hy : 48 ≤ y ∧ y ≤ 57) : 0 ≤ min (x * 10 + y - 48) 1000 ∧ min (x * 10 + y - 48) 1000 ≤ 1000 := by omega
/-- the symbols written so far: the last two -/
def zwb (c : Int → Int) (g : Nat → Int) : Nat → Int × Int
  | 0 => (-1, -1)
  | i + 1 => ((zwb c g i).2, zgs c (zwb c g i).1 (zwb c g i).2 (g i))
def zbc (s : Int) : Int := if s = 26 then 95 else 97 + s
def zwo (c : Int → Int) (g : Nat → Int) : Nat → Int := fun j => zbc (zwb c g (j + 1)).2
