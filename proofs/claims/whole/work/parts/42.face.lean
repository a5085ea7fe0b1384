/-! the face: the past, ranks read, symbols written -/
def yRem (Y : zSys) : zSys := (yS Y, min (yPc Y + 1) 8, (fun i => if i = 0 then yS Y else yPs Y (i - 1)), Y.2.2.2)
def ySet (Y : zSys) (S : zSt) : zSys := (S, Y.2)
def ySI (Y : zSys) (f : Nat → Int) (n : Int) : zSys := (Y.1, Y.2.1, Y.2.2.1, Y.2.2.2.1, Y.2.2.2.2.1, (f, n), Y.2.2.2.2.2.2)
def ySO (Y : zSys) (f : Nat → Int) (n : Int) : zSys := (Y.1, Y.2.1, Y.2.2.1, Y.2.2.2.1, Y.2.2.2.2.1, Y.2.2.2.2.2.1, (f, n), Y.2.2.2.2.2.2.2)
def ySE (Y : zSys) (c p : Int) : zSys := (Y.1, Y.2.1, Y.2.2.1, Y.2.2.2.1, Y.2.2.2.2.1, Y.2.2.2.2.2.1, Y.2.2.2.2.2.2.1, c, p)
theorem zZk.rem {Y : zSys} {pn : Int} {Z : Nat → zSt} (h : zZk Y pn Z) (hc : 0 ≤ yPc Y ∧ yPc Y ≤ 8) : zZk (yRem Y) ((pn + 1) % 8) (va_up Z (2 + pn.toNat) (Z 0)) := by
  obtain ⟨h1, h2, h3, h4⟩ := h
  refine ⟨by omega, ?_, fun i hi => ?_, fun k hk hu => ?_⟩
  · rw [va_up_ne _ _ (by omega)]
    exact h2
  · have hi : (i : Int) < min (yPc Y + 1) 8 := hi
    show va_up Z (2 + pn.toNat) (Z 0) (zPi ((pn + 1) % 8) i) = if i = 0 then yS Y else yPs Y (i - 1)
    by_cases e : i = 0
    · subst e
      rw [if_pos rfl]
      have : zPi ((pn + 1) % 8) 0 = 2 + pn.toNat := by
        unfold zPi
        omega
      rw [this, va_up_self]
      exact h2
    · rw [if_neg e]
      have e1 : zPi ((pn + 1) % 8) i = zPi pn (i - 1) := by
        unfold zPi
        omega
      have e2 : zPi pn (i - 1) ≠ 2 + pn.toNat := by
        unfold zPi
        omega
      rw [e1, va_up_ne _ _ e2]
      exact h3 (i - 1) (by omega)
  · rw [va_up_ne _ _ (by omega)]
    exact h4 k hk hu
theorem zZk.set {Y : zSys} {pn : Int} {Z : Nat → zSt} (h : zZk Y pn Z) (S : zSt) : zZk (ySet Y S) pn (va_up Z 0 S) := by
  obtain ⟨h1, h2, h3, h4⟩ := h
  refine ⟨h1, va_up_self _ _ _, fun i hi => ?_, fun k hk hu => ?_⟩
  · rw [va_up_ne _ _ (by unfold zPi; omega)]
    exact h3 i hi
  · rw [va_up_ne _ _ (by omega)]
    exact h4 k hk hu
theorem yOk.rem {Y : zSys} (h : yOk Y) : yOk (yRem Y) := by
  obtain ⟨h1, h2, h3, h4⟩ := h
  refine ⟨h1, ?_, fun i hi => ?_, h4⟩
  · show 0 ≤ min (yPc Y + 1) 8 ∧ min (yPc Y + 1) 8 ≤ 8
    omega
  · have hi : (i : Int) < min (yPc Y + 1) 8 := hi
    show zOk (if i = 0 then yS Y else yPs Y (i - 1))
    split
    · exact h1
    · exact h3 _ (by omega)
theorem yOk.set {Y : zSys} (h : yOk Y) {S : zSt} (hS : zOk S) : yOk (ySet Y S) := ⟨hS, h.2.1, h.2.2.1, h.2.2.2⟩
theorem zFr.us {M M' : zM} {U : Nat → Nat} {L : List Nat} (h : zFr M M' (L.map U)) (hL : ∀ i ∈ L, i < 532) : zFr M M' (zFU U) := h.tr zFr.rf (zUs hL) (fun _ h => h)
theorem zFr.ub {M M' : zM} {U : Nat → Nat} {k : Nat} (h : zFr M M' (zFD (zUb U k))) (hk : k < 12) : zFr M M' (zFU U) := h.tr zFr.rf (zUbs U hk) (fun _ h => h)
theorem zFr.uu {M M1 M2 : zM} {U : Nat → Nat} (h1 : zFr M M1 (zFU U)) (h2 : zFr M1 M2 (zFU U)) : zFr M M2 (zFU U) := h1.tr h2 (fun _ h => h) (fun _ h => h)
theorem hFo.fr {γ : zG} {M M' : zM} {U : Nat → Nat} {pn cnt ec ep : Int} {S : List Nat} (h : hFo γ M U pn cnt ec ep) (f : zFr M M' S) (hS : U 0 ∉ S) : hFo γ M' U pn cnt ec ep := f.at hS h
set_option maxHeartbeats 4000000 in
set_option maxRecDepth 100000 in
theorem k_X8_remember {l : Launch} {γ : zG} {M : zM} {U : Nat → Nat} {Y : zSys} (hc : hFc γ M U Y) (hk : yOk Y) :
    zCon l γ yX8_remember cX8_remember 1 none [.ref (U 0)] M 4 82 0 0 (fun v' M' => v' = none ∧ zFr M M' (zFU U) ∧ hFc γ M' U (yRem Y)) (fun _ _ => False) := by
  obtain ⟨hI, pn, Z, iF, oF, hZ, hF, hX, hi1, ho1⟩ := hc
  have hpn := hZ.1
  have hcn := hk.2.1
  have hob := id hF
  unfold hFo at hob
  have hps := hX.1
  have hs0 := hX.st0
  have hs1 := hX.2.2.2.2.2.2.2.2.2 (2 + pn.toNat) (by omega)
  have hkn : zNk (Z 0) := by rw [hZ.2.1]; exact hk.1.nk
  have ob1 := hs1.ob
  refine zEnter [some (.ref (U 0))] (by decide +kernel) rfl rfl (Nat.le_of_ble_eq_true rfl) ?_
  intro p e s m args below meth c Q C hin hQ
  refine z_aload_n C dX8_remember_0 rfl ?_
  refine z_get C dX8_remember_1 fl_X8_23 (by first | assumption | ((repeat (first | assumption | exact va_up_self _ _ _ | refine (va_up_ne _ _ (by assumption)).trans ?_)); done) | (simp [va_up, *] <;> rfl)) rfl ?_
  refine z_aload_n C dX8_remember_4 rfl ?_
  refine z_get C dX8_remember_5 fl_X8_27 (by first | assumption | ((repeat (first | assumption | exact va_up_self _ _ _ | refine (va_up_ne _ _ (by assumption)).trans ?_)); done) | (simp [va_up, *] <;> rfl)) rfl ?_
  refine z_aldR C dX8_remember_8 (by first | assumption | ((repeat (first | assumption | exact va_up_self _ _ _ | refine (va_up_ne _ _ (by assumption)).trans ?_)); done) | (simp [va_up, *] <;> rfl)) (by decide) (by omega) (by omega) ?_
  refine z_aload_n C dX8_remember_9 rfl ?_
  refine z_get C dX8_remember_10 fl_X8_13 (by first | assumption | ((repeat (first | assumption | exact va_up_self _ _ _ | refine (va_up_ne _ _ (by assumption)).trans ?_)); done) | (simp [va_up, *] <;> rfl)) rfl ?_
  refine z_callV C dX8_remember_13 lk_X8_139 mw_X7_copyFrom mi_X7_copyFrom ms_X7_copyFrom rfl ob1 (k_X7_copyFrom (hI.b (k := 2 + pn.toNat) (by omega)) hs1 hs0 hkn (fun i j hi hj q => by
  have := hI (16 + 43 * (2 + pn.toNat) + i) (16 + 43 * 0 + j) (by omega) (by omega) q
  omega)) rfl (by first | decide | exact Nat.le_of_ble_eq_true rfl) ⟨by decide, by decide, by decide, by decide⟩ (fun _ _ h => False.elim h) (fun v M' hp => ?_)
  obtain ⟨rfl, f1, hS1⟩ := hp
  have hob1 := f1.at (zUd hI (a := 0) (by omega) (by omega)) hob
  have hX1 := hX.st hI f1 (by omega) hS1
  refine z_aload_n C dX8_remember_16 rfl ?_
  refine z_aload_n C dX8_remember_17 rfl ?_
  refine z_get C dX8_remember_18 fl_X8_27 (by first | assumption | ((repeat (first | assumption | exact va_up_self _ _ _ | refine (va_up_ne _ _ (by assumption)).trans ?_)); done) | (simp [va_up, *] <;> rfl)) rfl ?_
  refine z_iconst C dX8_remember_21 ?_
  refine z_iaddZ C dX8_remember_22 ?_
  refine z_bipush C dX8_remember_23 (by decide) ?_
  refine z_iremZ C dX8_remember_25 (by omega) (by omega) ?_
  refine z_put C dX8_remember_26 fl_X8_27 (by first | assumption | ((repeat (first | assumption | exact va_up_self _ _ _ | refine (va_up_ne _ _ (by assumption)).trans ?_)); done) | (simp [va_up, *] <;> rfl)) rfl rfl (by simp) ?_
  refine z_aload_n C dX8_remember_29 rfl ?_
  refine z_aload_n C dX8_remember_30 rfl ?_
  refine z_get C dX8_remember_31 fl_X8_31 (by first | assumption | ((repeat (first | assumption | exact va_up_self _ _ _ | refine (va_up_ne _ _ (by assumption)).trans ?_)); done) | (simp [va_up, *] <;> rfl)) rfl ?_
  refine z_iconst C dX8_remember_34 ?_
  refine z_iaddZ C dX8_remember_35 ?_
  refine z_bipush C dX8_remember_36 (by decide) ?_
  refine z_min C dX8_remember_38 lk_X8_356 mmin_st ma_in mmin_co (by omega) (by omega) ⟨by decide, (by first | decide | exact Nat.le_of_ble_eq_true rfl), by decide, by decide⟩ ?_
  refine z_put C dX8_remember_41 fl_X8_31 (by first | assumption | ((repeat (first | assumption | exact va_up_self _ _ _ | refine (va_up_ne _ _ (by assumption)).trans ?_)); done) | (simp [va_up, *] <;> rfl)) rfl rfl (by simp) ?_
  refine z_vret C hQ dX8_remember_44 (by decide) (by decide) ?_
  refine ⟨rfl, (f1.ub (by omega)).uu (zFr.u2 zFr.rf (zU_in U (by omega)) (zU_in U (by omega))), hI, (pn + 1) % 8, _, iF, oF, hZ.rem hcn, va_up_self _ _ _, hX1.obj hI (zFr.u2 zFr.rf (by simp) (by simp)), hi1, ho1⟩
/-- ranks read from a text: how many (0: none), which -/
def zrrt (f : Nat → Int) (n : Int) : Nat → Int → Int → Int → (Nat → Int) → Int × (Nat → Int)
  | 0, _, z, _, g => (z, g)
  | t + 1, i, z, v, g => if 48 ≤ hAt f n i ∧ hAt f n i ≤ 57 then zrrt f n t (i + 1) z (min (v * 10 + hAt f n i - 48) 1000) g else if (hAt f n i = 44 ∨ hAt f n i = -1) ∧ 1 ≤ v ∧ v ≤ 27 ∧ z < 40 then zrrt f n t (i + 1) (z + 1) 0 (va_up g z.toNat v) else (0, g)
def zrr (f : Nat → Int) (n : Int) : Int × (Nat → Int) := zrrt f n (n + 1).toNat 0 0 0 (fun _ => 0)
theorem zwd_rng {x y : Int} (hx : 0 ≤ x ∧ x ≤ 1000) (hy : 48 ≤ y ∧ y ≤ 57) : 0 ≤ min (x * 10 + y - 48) 1000 ∧ min (x * 10 + y - 48) 1000 ≤ 1000 := by omega
set_option maxHeartbeats 4000000 in
set_option maxRecDepth 100000 in
theorem k_X8_readRanks {l : Launch} {γ : zG} {M : zM} {U : Nat → Nat} {pn cnt ec ep : Int} {f g : Nat → Int} {n : Int} (hF : hFo γ M U pn cnt ec ep) (hT : hBy γ M (U 4) (U 5) f n) (hO : hBo f n) (hG : M (U 15) = some (zar γ 40 g)) (hg : ∀ j, zR (g j)) (hne : U 5 ≠ U 15) :
    zCon l γ yX8_readRanks cX8_readRanks 6 (some .int) [.ref (U 0)] M 2 34 0 0 (fun v' M' => ∃ r : Int, v' = some (.int (zi r)) ∧ zFr M M' [U 15] ∧ r = (zrr f n).1 ∧ (0 ≤ r ∧ r ≤ 40) ∧ ∃ g', M' (U 15) = some (zar γ 40 g') ∧ (∀ j, zR (g' j)) ∧ ∀ j : Nat, j < r → g' j = (zrr f n).2 j ∧ 1 ≤ g' j ∧ g' j ≤ 27) (fun _ _ => False) := by
  have hn := hO.1
  have n0 : U 0 ∉ [U 15] := by
    have := zne_ka hF hG
    simp [this]
  have n4 : U 4 ∉ [U 15] := by
    have := zne_ka hT.1 hG
    simp [this]
  have n5 : U 5 ∉ [U 15] := by simp [hne]
  have hrg := hAt_rng hO
  refine zEnter [some (.ref (U 0)), none, none, none, none, none] (by decide +kernel) rfl rfl (Nat.le_of_ble_eq_true rfl) ?_
  intro p e s m args below meth c Q C hin hQ
  have loop : ∀ (t : Nat) (M1 : zM) (i z v : Int) (g1 h1 : Nat → Int) (x4 x5 : Option Value), n + 1 - i = t → 0 ≤ i ∧ i ≤ n + 1 → 0 ≤ z ∧ z ≤ 40 → 0 ≤ v ∧ v ≤ 1000 → zFr M M1 [U 15] → M1 (U 15) = some (zar γ 40 g1) → (∀ j, zR (g1 j)) → (∀ j : Nat, j < z → g1 j = h1 j ∧ 1 ≤ g1 j ∧ g1 j ≤ 27) → zrrt f n t i z v h1 = zrr f n → zAW p l e { frames := 2, cells := 0, slots := 0, locals := 34 } s m args below meth c γ 6 Q M1 0 0 6 [some (.ref (U 0)), some (.int (zi z)), some (.int (zi v)), some (.int (zi i)), x4, x5] [] := by
    intro t
    induction t with
    | zero =>
      intro M1 i z v g1 h1 x4 x5 ht hi hz hv hf hG1 hg1 hh he
      have he : (z, h1) = zrr f n := he
      have hob1 := hf.at n0 hF
      unfold hFo at hob1
      have hT1 := hT.fr hf n4 n5
      have obt := hT1.1
      refine z_iload_n C dX8_readRanks_6 rfl ?_
      refine z_aload_n C dX8_readRanks_7 rfl ?_
      refine z_get C dX8_readRanks_8 fl_X8_44 (by first | assumption | ((repeat (first | assumption | exact va_up_self _ _ _ | refine (va_up_ne _ _ (by assumption)).trans ?_)); done) | (simp [va_up, *] <;> rfl)) rfl ?_
      refine z_get C dX8_readRanks_11 fl_X8_107 (by first | assumption | ((repeat (first | assumption | exact va_up_self _ _ _ | refine (va_up_ne _ _ (by assumption)).trans ?_)); done) | (simp [va_up, *] <;> rfl)) rfl ?_
      refine z_icmp_gtZ (tgt := 110) C dX8_readRanks_14 (by decide) (by omega) (by omega) (fun h14 => ?_) (fun h14 => ?_)
      · refine z_iload_n C dX8_readRanks_110 rfl ?_
        refine z_iret C hQ dX8_readRanks_111 rfl (by decide) (by decide) ?_
        rw [← he]
        exact ⟨z, rfl, hf, rfl, hz, g1, hG1, hg1, hh⟩
      · exact absurd h14 (by omega)
    | succ t ih =>
      intro M1 i z v g1 h1 x4 x5 ht hi hz hv hf hG1 hg1 hh he
      have he : (if 48 ≤ hAt f n i ∧ hAt f n i ≤ 57 then zrrt f n t (i + 1) z (min (v * 10 + hAt f n i - 48) 1000) h1 else if (hAt f n i = 44 ∨ hAt f n i = -1) ∧ 1 ≤ v ∧ v ≤ 27 ∧ z < 40 then zrrt f n t (i + 1) (z + 1) 0 (va_up h1 z.toNat v) else (0, h1)) = zrr f n := he
      have hob1 := hf.at n0 hF
      unfold hFo at hob1
      have hT1 := hT.fr hf n4 n5
      have obt := hT1.1
      have hx := hrg i
      have bad : ¬ (48 ≤ hAt f n i ∧ hAt f n i ≤ 57) → ¬ ((hAt f n i = 44 ∨ hAt f n i = -1) ∧ 1 ≤ v ∧ v ≤ 27 ∧ z < 40) → ∃ r : Int, some (Value.int (zi 0)) = some (.int (zi r)) ∧ zFr M M1 [U 15] ∧ r = (zrr f n).1 ∧ (0 ≤ r ∧ r ≤ 40) ∧ ∃ g', M1 (U 15) = some (zar γ 40 g') ∧ (∀ j, zR (g' j)) ∧ ∀ j : Nat, j < r → g' j = (zrr f n).2 j ∧ 1 ≤ g' j ∧ g' j ≤ 27 := fun b1 b2 => by
        rw [if_neg b1, if_neg b2] at he
        rw [← he]
        exact ⟨0, rfl, hf, rfl, by omega, g1, hG1, hg1, fun j hj => by omega⟩
      have tail : ∀ (e0 : Int) (y5 : Option Value), ¬ (48 ≤ hAt f n i ∧ hAt f n i ≤ 57) → zB e0 (hAt f n i = 44 ∨ hAt f n i = -1) → zAW p l e { frames := 2, cells := 0, slots := 0, locals := 34 } s m args below meth c γ 6 Q M1 0 0 63 [some (.ref (U 0)), some (.int (zi z)), some (.int (zi v)), some (.int (zi i)), some (.int (zi (hAt f n i))), y5] [.int (zi e0)] := by
        intro e0 y5 b1 hb
        have q := hb.rng
        refine z_istore C dX8_readRanks_63 (by decide) ?_
        refine z_iload C dX8_readRanks_65 rfl ?_
        refine z_if_eqZ (tgt := 90) C dX8_readRanks_67 (by decide) (by omega) (fun h67 => ?_) (fun h67 => ?_)
        · refine z_iconst C dX8_readRanks_90 ?_
          refine z_iret C hQ dX8_readRanks_91 rfl (by decide) (by decide) ?_
          exact bad b1 (fun w => hb.f h67 w.1)
        · refine z_iload_n C dX8_readRanks_70 rfl ?_
          refine z_iconst C dX8_readRanks_71 ?_
          refine z_icmp_ltZ (tgt := 90) C dX8_readRanks_72 (by decide) (by omega) (by omega) (fun h72 => ?_) (fun h72 => ?_)
          · refine z_iconst C dX8_readRanks_90 ?_
            refine z_iret C hQ dX8_readRanks_91 rfl (by decide) (by decide) ?_
            exact bad b1 (fun w => by omega)
          · refine z_iload_n C dX8_readRanks_75 rfl ?_
            refine z_bipush C dX8_readRanks_76 (by decide) ?_
            refine z_icmp_gtZ (tgt := 90) C dX8_readRanks_78 (by decide) (by omega) (by omega) (fun h78 => ?_) (fun h78 => ?_)
            · refine z_iconst C dX8_readRanks_90 ?_
              refine z_iret C hQ dX8_readRanks_91 rfl (by decide) (by decide) ?_
              exact bad b1 (fun w => by omega)
            · refine z_iload_n C dX8_readRanks_81 rfl ?_
              refine z_aload_n C dX8_readRanks_82 rfl ?_
              refine z_get C dX8_readRanks_83 fl_X8_78 (by first | assumption | ((repeat (first | assumption | exact va_up_self _ _ _ | refine (va_up_ne _ _ (by assumption)).trans ?_)); done) | (simp [va_up, *] <;> rfl)) rfl ?_
              refine z_alenI C dX8_readRanks_86 (by first | assumption | ((repeat (first | assumption | exact va_up_self _ _ _ | refine (va_up_ne _ _ (by assumption)).trans ?_)); done) | (simp [va_up, *] <;> rfl)) (by decide) ?_
              refine z_icmp_ltZ (tgt := 92) C dX8_readRanks_87 (by decide) (by omega) (by omega) (fun h87 => ?_) (fun h87 => ?_)
              · refine z_aload_n C dX8_readRanks_92 rfl ?_
                refine z_get C dX8_readRanks_93 fl_X8_78 (by first | assumption | ((repeat (first | assumption | exact va_up_self _ _ _ | refine (va_up_ne _ _ (by assumption)).trans ?_)); done) | (simp [va_up, *] <;> rfl)) rfl ?_
                refine z_iload_n C dX8_readRanks_96 rfl ?_
                refine z_iload_n C dX8_readRanks_97 rfl ?_
                refine z_astN C dX8_readRanks_98 (by first | assumption | ((repeat (first | assumption | exact va_up_self _ _ _ | refine (va_up_ne _ _ (by assumption)).trans ?_)); done) | (simp [va_up, *] <;> rfl)) (by omega) (by omega) (by assumption) (by omega) (fun hr98 => ?_)
                refine z_iincZ C dX8_readRanks_99 rfl (by decide) ?_
                refine z_iconst C dX8_readRanks_102 ?_
                refine z_istore_n C dX8_readRanks_103 (by decide) ?_
                refine z_iincZ C dX8_readRanks_104 rfl (by decide) ?_
                refine z_goto (tgt := 6) C dX8_readRanks_107 (by decide) ?_
                rw [if_neg b1, if_pos ⟨hb.t h67, by omega, by omega, by omega⟩] at he
                refine ih _ (i + 1) (z + 1) 0 (va_up g1 z.toNat v) (va_up h1 z.toNat v) _ _ (by omega) (by omega) (by omega) (by omega) (hf.u1 (by simp)) (va_up_self _ _ _) hr98 (fun j hj => ?_) he
                unfold va_up
                split
                · omega
                · exact hh j (by omega)
              · refine z_iconst C dX8_readRanks_90 ?_
                refine z_iret C hQ dX8_readRanks_91 rfl (by decide) (by decide) ?_
                exact bad b1 (fun w => h87 w.2.2.2)
      refine z_iload_n C dX8_readRanks_6 rfl ?_
      refine z_aload_n C dX8_readRanks_7 rfl ?_
      refine z_get C dX8_readRanks_8 fl_X8_44 (by first | assumption | ((repeat (first | assumption | exact va_up_self _ _ _ | refine (va_up_ne _ _ (by assumption)).trans ?_)); done) | (simp [va_up, *] <;> rfl)) rfl ?_
      refine z_get C dX8_readRanks_11 fl_X8_107 (by first | assumption | ((repeat (first | assumption | exact va_up_self _ _ _ | refine (va_up_ne _ _ (by assumption)).trans ?_)); done) | (simp [va_up, *] <;> rfl)) rfl ?_
      refine z_icmp_gtZ (tgt := 110) C dX8_readRanks_14 (by decide) (by omega) (by omega) (fun h14 => ?_) (fun h14 => ?_)
      · exact absurd h14 (by omega)
      · refine z_aload_n C dX8_readRanks_17 rfl ?_
        refine z_get C dX8_readRanks_18 fl_X8_44 (by first | assumption | ((repeat (first | assumption | exact va_up_self _ _ _ | refine (va_up_ne _ _ (by assumption)).trans ?_)); done) | (simp [va_up, *] <;> rfl)) rfl ?_
        refine z_iload_n C dX8_readRanks_21 rfl ?_
        refine z_callV C dX8_readRanks_22 lk_X8_344 mw_X0_at mi_X0_at ms_X0_at rfl (by first | assumption | ((repeat (first | assumption | exact va_up_self _ _ _ | refine (va_up_ne _ _ (by assumption)).trans ?_)); done) | (simp [va_up, *] <;> rfl)) (k_X0_at hT1 hO (i := i) (by unfold zR; omega)) rfl (by first | decide | exact Nat.le_of_ble_eq_true rfl) ⟨by decide, by decide, by decide, by decide⟩ (fun _ _ h => False.elim h) (fun v M' hp => ?_)
        obtain ⟨r22, rfl, rfl, hr22⟩ := hp
        subst hr22
        refine z_istore C dX8_readRanks_25 (by decide) ?_
        refine z_iload C dX8_readRanks_27 rfl ?_
        refine z_callS C dX8_readRanks_29 lk_X8_400 mw_X8_isDigit mst_X8_isDigit (k_X8_isDigit (by unfold zR; omega)) rfl (by first | decide | exact Nat.le_of_ble_eq_true rfl) ⟨by decide, by decide, by decide, by decide⟩ (fun _ _ h => False.elim h) (fun v M' hp => ?_)
        obtain ⟨r29, rfl, rfl, hr29⟩ := hp
        have q29 := hr29.rng
        refine z_if_eqZ (tgt := 45) C dX8_readRanks_32 (by decide) (by omega) (fun h32 => ?_) (fun h32 => ?_)
        · refine z_iload C dX8_readRanks_45 rfl ?_
          refine z_bipush C dX8_readRanks_47 (by decide) ?_
          refine z_icmp_eqZ (tgt := 58) C dX8_readRanks_49 (by decide) (by omega) (by omega) (fun h49 => ?_) (fun h49 => ?_)
          · refine z_iconst C dX8_readRanks_58 ?_
            refine z_goto (tgt := 63) C dX8_readRanks_59 (by decide) ?_
            exact tail 1 _ (fun w => hr29.f h32 w) (.inl ⟨rfl, by omega⟩)
          · refine z_iload C dX8_readRanks_52 rfl ?_
            refine z_iconst C dX8_readRanks_54 ?_
            refine z_icmp_neZ (tgt := 62) C dX8_readRanks_55 (by decide) (by omega) (by omega) (fun h55 => ?_) (fun h55 => ?_)
            · refine z_iconst C dX8_readRanks_62 ?_
              exact tail 0 _ (fun w => hr29.f h32 w) (.inr ⟨rfl, by omega⟩)
            · refine z_iconst C dX8_readRanks_58 ?_
              refine z_goto (tgt := 63) C dX8_readRanks_59 (by decide) ?_
              exact tail 1 _ (fun w => hr29.f h32 w) (.inl ⟨rfl, by omega⟩)
        · refine z_iload_n C dX8_readRanks_35 rfl ?_
          refine z_iload C dX8_readRanks_36 rfl ?_
          refine z_callS C dX8_readRanks_38 lk_X8_403 mw_X8_withDigit mst_X8_withDigit (k_X8_withDigit hv (by have := hr29.t h32; unfold zDig at this; omega)) rfl (by first | decide | exact Nat.le_of_ble_eq_true rfl) ⟨by decide, by decide, by decide, by decide⟩ (fun _ _ h => False.elim h) (fun v M' hp => ?_)
          obtain ⟨r38, rfl, rfl, hr38⟩ := hp
          have w38 := hr29.t h32
          unfold zDig at w38
          refine z_istore_n C dX8_readRanks_41 (by decide) ?_
          refine z_goto (tgt := 104) C dX8_readRanks_42 (by decide) ?_
          refine z_iincZ C dX8_readRanks_104 rfl (by decide) ?_
          refine z_goto (tgt := 6) C dX8_readRanks_107 (by decide) ?_
          rw [if_pos w38] at he
          have z38 := zwd_rng hv w38
          rw [← hr38] at z38
          refine ih _ (i + 1) z r38 g1 h1 _ _ (by omega) (by omega) hz z38 hf hG1 hg1 hh ?_
          rw [hr38]
          exact he
  refine z_iconst C dX8_readRanks_0 ?_
  refine z_istore_n C dX8_readRanks_1 (by decide) ?_
  refine z_iconst C dX8_readRanks_2 ?_
  refine z_istore_n C dX8_readRanks_3 (by decide) ?_
  refine z_iconst C dX8_readRanks_4 ?_
  refine z_istore_n C dX8_readRanks_5 (by decide) ?_
  exact loop (n + 1).toNat M 0 0 0 g (fun _ => 0) none none (by omega) (by omega) (by omega) (by omega) zFr.rf hG hg (fun j hj => by omega) rfl
/-- the symbols written so far: the last two -/
def zwb (c : Int → Int) (g : Nat → Int) : Nat → Int × Int
  | 0 => (-1, -1)
  | i + 1 => ((zwb c g i).2, zgs c (zwb c g i).1 (zwb c g i).2 (g i))
def zbc (s : Int) : Int := if s = 26 then 95 else 97 + s
def zwo (c : Int → Int) (g : Nat → Int) : Nat → Int := fun j => zbc (zwb c g (j + 1)).2
set_option maxHeartbeats 4000000 in
set_option maxRecDepth 100000 in
theorem k_X8_writeSymbols {l : Launch} {γ : zG} {M : zM} {U : Nat → Nat} {pn cnt ec ep : Int} {ca k v : Nat} {c0 : Int → Int} {of g : Nat → Int} {on z : Int} (hI : zIU U) (hF : hFo γ M U pn cnt ec ep) (hB : hBy γ M (U 6) (U 7) of on) (hO : hBo of on) (hRQ : hRq γ M (U 11) (U 12) (U 13)) (hC : hCn γ M ca k v c0) (hG : M (U 15) = some (zar γ 40 g)) (hg : ∀ j, zR (g j)) (hz : 0 ≤ z ∧ z ≤ 40) (hr : ∀ j : Nat, j < z → 1 ≤ g j ∧ g j ≤ 27) (hne : ca ∉ [U 6, U 7] ∧ k ∉ [U 6, U 7] ∧ v ∉ [U 6, U 7]) :
    zCon l γ yX8_writeSymbols cX8_writeSymbols 8 none [.ref (U 0), .ref ca, .ref (U 15), .int (zi z)] M 4 98 0 0 (fun v' M' => v' = none ∧ zFr M M' [U 6, U 7, U 11, U 12, U 13] ∧ hRq γ M' (U 11) (U 12) (U 13) ∧ ∃ of', hBy γ M' (U 6) (U 7) of' z ∧ hBo of' z ∧ ∀ j : Nat, j < z → of' j = zwo c0 g j) (fun _ _ => False) := by
  have hnc := hC.disR hRQ
  have un : ∀ (a : Nat) (L : List Nat), a < 532 → (∀ i ∈ L, i < 532) → a ∉ L → U a ∉ L.map U := fun a L h1 h2 h3 => zUn hI h1 h2 h3
  have m1 : ∀ x, x ∉ [U 6, U 7] → x ∉ [U 11, U 12, U 13] → x ∉ [U 6, U 7, U 11, U 12, U 13] := fun x h1 h2 => by
    simp only [List.mem_cons, List.not_mem_nil, or_false, not_or] at h1 h2 ⊢
    exact ⟨h1.1, h1.2, h2⟩
  have k0 : U 0 ∉ [U 6, U 7, U 11, U 12, U 13] := un 0 [6, 7, 11, 12, 13] (by decide) (by decide) (by decide)
  have k15 : U 15 ∉ [U 6, U 7, U 11, U 12, U 13] := un 15 [6, 7, 11, 12, 13] (by decide) (by decide) (by decide)
  have e67 : ∀ x, x ∈ [U 11, U 12, U 13] → x ∉ [U 6, U 7] := fun x hx => by
    simp only [List.mem_cons, List.not_mem_nil, or_false] at hx
    rcases hx with e | e | e <;> rw [e]
    · exact un 11 [6, 7] (by decide) (by decide) (by decide)
    · exact un 12 [6, 7] (by decide) (by decide) (by decide)
    · exact un 13 [6, 7] (by decide) (by decide) (by decide)
  have e6 : U 6 ∉ [U 11, U 12, U 13] := un 6 [11, 12, 13] (by decide) (by decide) (by decide)
  have e7 : U 7 ∉ [U 11, U 12, U 13] := un 7 [11, 12, 13] (by decide) (by decide) (by decide)
  have s1 : ∀ b, b ∈ [U 11, U 12, U 13] → b ∈ [U 6, U 7, U 11, U 12, U 13] := fun b hb => List.mem_cons_of_mem _ (List.mem_cons_of_mem _ hb)
  have s2 : ∀ b, b ∈ [U 6, U 7] → b ∈ [U 6, U 7, U 11, U 12, U 13] := fun b hb => by
    simp only [List.mem_cons, List.not_mem_nil, or_false] at hb ⊢
    rcases hb with h | h <;> simp [h]
  have obF := id hF
  unfold hFo at obF
  have obB := hB.1
  refine zEnter [some (.ref (U 0)), some (.ref ca), some (.ref (U 15)), some (.int (zi z)), none, none, none, none] (by decide +kernel) rfl rfl (Nat.le_of_ble_eq_true rfl) ?_
  intro p e s m args below meth c Q C hin hQ
  have loop : ∀ (t : Nat) (M1 : zM) (i : Int) (f1 : Nat → Int) (x7 : Option Value), z - i = t → 0 ≤ i ∧ i ≤ z → zFr M M1 [U 6, U 7, U 11, U 12, U 13] → hRq γ M1 (U 11) (U 12) (U 13) → hBy γ M1 (U 6) (U 7) f1 i → hBo f1 i → (∀ j : Nat, j < i → f1 j = zwo c0 g j) → zCx (zwb c0 g i.toNat).1 (zwb c0 g i.toNat).2 → zAW p l e { frames := 4, cells := 0, slots := 0, locals := 98 } s m args below meth c γ 8 Q M1 0 0 16 [some (.ref (U 0)), some (.ref ca), some (.ref (U 15)), some (.int (zi z)), some (.int (zi (zwb c0 g i.toNat).1)), some (.int (zi (zwb c0 g i.toNat).2)), some (.int (zi i)), x7] [] := by
    intro t
    induction t with
    | zero =>
      intro M1 i f1 x7 ht hi hf hQ1 hB1 hO1 hv hx
      obtain rfl : i = z := by omega
      refine z_iload C dX8_writeSymbols_16 rfl ?_
      refine z_iload_n C dX8_writeSymbols_18 rfl ?_
      refine z_icmp_geZ (tgt := 82) C dX8_writeSymbols_19 (by decide) (by omega) (by omega) (fun h19 => ?_) (fun h19 => ?_)
      · refine z_vret C hQ dX8_writeSymbols_82 (by decide) (by decide) ?_
        exact ⟨rfl, hf, hQ1, f1, hB1, hO1, hv⟩
      · exact absurd h19 (by omega)
    | succ t ih =>
      intro M1 i f1 x7 ht hi hf hQ1 hB1 hO1 hv hx
      have hF1 := hF.fr hf k0
      have ob1 := id hF1
      unfold hFo at ob1
      have hG1 := hf.at k15 hG
      have hgi := hr i.toNat (by omega)
      have e1 : zwb c0 g (i + 1).toNat = ((zwb c0 g i.toNat).2, zgs c0 (zwb c0 g i.toNat).1 (zwb c0 g i.toNat).2 (g i.toNat)) := by
        rw [show (i + 1).toNat = i.toNat + 1 by omega]
        rfl
      have e2 : zwo c0 g i.toNat = zbc (zgs c0 (zwb c0 g i.toNat).1 (zwb c0 g i.toNat).2 (g i.toNat)) := by
        unfold zwo
        rfl
      generalize hbb : (zwb c0 g i.toNat).1 = bb at *
      generalize hpp : (zwb c0 g i.toNat).2 = pp at *
      have app : ∀ (M2 : zM) (sg x : Int), sg = zgs c0 bb pp (g i.toNat) → 0 ≤ sg ∧ sg < 27 → x = zbc sg → zFr M1 M2 [U 11, U 12, U 13] → hRq γ M2 (U 11) (U 12) (U 13) → zAW p l e { frames := 4, cells := 0, slots := 0, locals := 98 } s m args below meth c γ 8 Q M2 0 0 65 [some (.ref (U 0)), some (.ref ca), some (.ref (U 15)), some (.int (zi z)), some (.int (zi bb)), some (.int (zi pp)), some (.int (zi i)), some (.int (zi sg))] [.int (zi x), .ref (U 6)] := by
        intro M2 sg x hs hs2 hxx f2 hQ2
        have hB2 := hB1.fr f2 e6 e7
        have ob2 := hB2.1
        have hxr : 0 ≤ x ∧ x ≤ 255 := by
          rw [hxx]
          unfold zbc
          split <;> omega
        refine z_callV C dX8_writeSymbols_65 lk_X8_94 mw_X0_append mi_X0_append ms_X0_append rfl (by first | assumption | ((repeat (first | assumption | exact va_up_self _ _ _ | refine (va_up_ne _ _ (by assumption)).trans ?_)); done) | (simp [va_up, *] <;> rfl)) (k_X0_append hB2 hO1 hxr) rfl (by first | decide | exact Nat.le_of_ble_eq_true rfl) ⟨by decide, by decide, by decide, by decide⟩ (fun _ _ h => False.elim h) (fun v M' hp => ?_)
        obtain ⟨rfl, f3, hp3⟩ := hp
        refine z_iload C dX8_writeSymbols_68 rfl ?_
        refine z_istore C dX8_writeSymbols_70 (by decide) ?_
        refine z_iload C dX8_writeSymbols_72 rfl ?_
        refine z_istore C dX8_writeSymbols_74 (by decide) ?_
        refine z_iincZ C dX8_writeSymbols_76 rfl (by decide) ?_
        refine z_goto (tgt := 16) C dX8_writeSymbols_79 (by decide) ?_
        rcases hp3 with ⟨p1, p2, p3⟩ | ⟨p1, p2⟩
        · have := ih _ (i + 1) _ (some (.int (zi sg))) (by omega) (by omega) ((hf.tr f2 (fun _ h => h) s1).tr f3 (fun _ h => h) s2) (hQ2.fr f3 (e67 _ (by simp)) (e67 _ (by simp)) (e67 _ (by simp))) p2 p3 (fun j hj => ?_) ?_
          · rw [e1] at this
            simp only at this
            rw [← hs] at this
            exact this
          · by_cases q : j = i.toNat
            · subst q
              rw [va_up_self, e2, hxx, hs]
            · rw [va_up_ne _ _ q]
              exact hv j (by omega)
          · rw [e1, ← hs]
            unfold zCx at hx ⊢
            simp only
            omega
        · omega
      refine z_iload C dX8_writeSymbols_16 rfl ?_
      refine z_iload_n C dX8_writeSymbols_18 rfl ?_
      refine z_icmp_geZ (tgt := 82) C dX8_writeSymbols_19 (by decide) (by omega) (by omega) (fun h19 => ?_) (fun h19 => ?_)
      · exact absurd h19 (by omega)
      · refine z_iload C dX8_writeSymbols_22 rfl ?_
        refine z_aload_n C dX8_writeSymbols_24 rfl ?_
        refine z_alenI C dX8_writeSymbols_25 (by first | assumption | ((repeat (first | assumption | exact va_up_self _ _ _ | refine (va_up_ne _ _ (by assumption)).trans ?_)); done) | (simp [va_up, *] <;> rfl)) (by decide) ?_
        refine z_icmp_geZ (tgt := 82) C dX8_writeSymbols_26 (by decide) (by omega) (by omega) (fun h26 => ?_) (fun h26 => ?_)
        · exact absurd h26 (by omega)
        · refine z_aload_n C dX8_writeSymbols_29 rfl ?_
          refine z_aload_n C dX8_writeSymbols_30 rfl ?_
          refine z_iload C dX8_writeSymbols_31 rfl ?_
          refine z_iload C dX8_writeSymbols_33 rfl ?_
          refine z_aload_n C dX8_writeSymbols_35 rfl ?_
          refine z_iload C dX8_writeSymbols_36 rfl ?_
          refine z_aldN C dX8_writeSymbols_38 (by first | assumption | ((repeat (first | assumption | exact va_up_self _ _ _ | refine (va_up_ne _ _ (by assumption)).trans ?_)); done) | (simp [va_up, *] <;> rfl)) (by omega) (by omega) (by assumption) (fun hr38 => ?_)
          refine z_callV C dX8_writeSymbols_39 lk_X8_226 mw_X8_guessIn mi_X8_guessIn ms_X8_guessIn rfl (by first | assumption | ((repeat (first | assumption | exact va_up_self _ _ _ | refine (va_up_ne _ _ (by assumption)).trans ?_)); done) | (simp [va_up, *] <;> rfl)) (k_X8_guessIn hF1 hQ1 (hC.fr hf (m1 _ hne.1 hnc.1) (m1 _ hne.2.1 hnc.2.1) (m1 _ hne.2.2 hnc.2.2)) hx hgi) rfl (by first | decide | exact Nat.le_of_ble_eq_true rfl) ⟨by decide, by decide, by decide, by decide⟩ (fun _ _ h => False.elim h) (fun v M' hp => ?_)
          obtain ⟨r39, rfl, f2, hQ2, hr39, hz39⟩ := hp
          have ob3 := f2.at (un 0 [11, 12, 13] (by decide) (by decide) (by decide)) ob1
          refine z_istore C dX8_writeSymbols_42 (by decide) ?_
          refine z_aload_n C dX8_writeSymbols_44 rfl ?_
          refine z_get C dX8_writeSymbols_45 fl_X8_48 (by first | assumption | ((repeat (first | assumption | exact va_up_self _ _ _ | refine (va_up_ne _ _ (by assumption)).trans ?_)); done) | (simp [va_up, *] <;> rfl)) rfl ?_
          refine z_iload C dX8_writeSymbols_48 rfl ?_
          refine z_bipush C dX8_writeSymbols_50 (by decide) ?_
          refine z_icmp_neZ (tgt := 60) C dX8_writeSymbols_52 (by decide) (by omega) (by omega) (fun h52 => ?_) (fun h52 => ?_)
          · refine z_bipush C dX8_writeSymbols_60 (by decide) ?_
            refine z_iload C dX8_writeSymbols_62 rfl ?_
            refine z_iaddZ C dX8_writeSymbols_64 ?_
            exact app _ r39 _ hr39 hz39 (by rw [zbc, if_neg h52]) f2 hQ2
          · refine z_bipush C dX8_writeSymbols_55 (by decide) ?_
            refine z_goto (tgt := 65) C dX8_writeSymbols_57 (by decide) ?_
            exact app _ r39 _ hr39 hz39 (by rw [zbc, if_pos (by omega)]) f2 hQ2
  refine z_iconst C dX8_writeSymbols_0 ?_
  refine z_istore C dX8_writeSymbols_1 (by decide) ?_
  refine z_iconst C dX8_writeSymbols_3 ?_
  refine z_istore C dX8_writeSymbols_4 (by decide) ?_
  refine z_aload_n C dX8_writeSymbols_6 rfl ?_
  refine z_get C dX8_writeSymbols_7 fl_X8_48 (by first | assumption | ((repeat (first | assumption | exact va_up_self _ _ _ | refine (va_up_ne _ _ (by assumption)).trans ?_)); done) | (simp [va_up, *] <;> rfl)) rfl ?_
  refine z_callV C dX8_writeSymbols_10 lk_X8_127 mw_X0_clear mi_X0_clear ms_X0_clear rfl (by first | assumption | ((repeat (first | assumption | exact va_up_self _ _ _ | refine (va_up_ne _ _ (by assumption)).trans ?_)); done) | (simp [va_up, *] <;> rfl)) (k_X0_clear hB) rfl (by first | decide | exact Nat.le_of_ble_eq_true rfl) ⟨by decide, by decide, by decide, by decide⟩ (fun _ _ h => False.elim h) (fun v M' hp => ?_)
  obtain ⟨rfl, hB2, f1⟩ := hp
  refine z_iconst C dX8_writeSymbols_13 ?_
  refine z_istore C dX8_writeSymbols_14 (by decide) ?_
  refine loop z.toNat _ 0 of none (by omega) (by omega) (f1.tr zFr.rf (fun b hb => by rw [List.mem_singleton.mp hb]; simp) (fun _ h => h)) (hRQ.fr f1 (un 11 [6] (by decide) (by decide) (by decide)) (un 12 [6] (by decide) (by decide) (by decide)) (un 13 [6] (by decide) (by decide) (by decide))) hB2 ⟨by omega, hO.2.1, fun j hj => by omega⟩ (fun j hj => by omega) ?_
  show zCx (-1) (-1)
  unfold zCx
  omega

