/-! the model's parser: tokens -/
theorem zkd_1i (x : Int) : zkd x = 1 ↔ (zLet x ∨ x = 95) := by
  unfold zkd zLet
  split
  · omega
  · split
    · omega
    · split <;> omega
theorem zkd_2i (x : Int) : zkd x = 2 ↔ (48 ≤ x ∧ x ≤ 57) := by
  unfold zkd
  split
  · omega
  · split
    · omega
    · split <;> omega
def mtk (K : Int) : Int := if K = 0 then 0 else if K = 1 then 3 else if K = 2 then 2 else 1
def mnv (f : Nat → Int) (n : Int) : Nat → Int → Int → Int
  | 0, _, v => v
  | t + 1, i, v => mnv f n t (i + 1) (if 99999999 < v then v else 10 * v + hAt f n i - 48)
theorem mnv_eq {f : Nat → Int} {n : Int} : ∀ (t : Nat) (i v : Int), 0 ≤ v → (∀ j : Int, i ≤ j → j < i + t → 48 ≤ hAt f n j ∧ hAt f n j ≤ 57) → znv f n t i (min v 1000) = min (mnv f n t i v) 1000 ∧ 0 ≤ mnv f n t i v
  | 0, _, v, hv, _ => ⟨rfl, hv⟩
  | t + 1, i, v, hv, hd => by
    unfold znv mnv
    have d0 := hd i (by omega) (by omega)
    have e1 : min (min v 1000 * 10 + hAt f n i - 48) 1000 = min (if 99999999 < v then v else 10 * v + hAt f n i - 48) 1000 := by
      split <;> omega
    rw [e1]
    exact mnv_eq t (i + 1) _ (by split <;> omega) (fun j a1 a2 => hd j (by omega) (by omega))
/-- the fields that tell the token behind e -/
def mTk (F f : Nat → Int) (n e : Int) : Prop := F 20 = ztE f n e ∧ F 21 = ztS f n e ∧ F 22 = mtk (ztK f n e) ∧ F 24 = (if ztK f n e = 1 then ztE f n e - ztS f n e else 0) ∧ F 23 = (if ztK f n e = 2 then mnv f n (ztE f n e - ztS f n e).toNat (ztS f n e) 0 else 0)
set_option maxHeartbeats 4000000 in
set_option maxRecDepth 100000 in
theorem k_X9_byteAt {l : Launch} {γ : zG} {M : zM} {A : Nat → Nat} {F f : Nat → Int} {n i : Int} (hO : M (A 0) = some (mOb A F)) (hI : M (A 11) = some (zar γ 500 f)) (hn : F 19 = n) (hB : hBo f n) (hi : 0 ≤ i ∧ i ≤ 1000) :
    zCon l γ yX9_byteAt cX9_byteAt 2 (some .int) [.ref (A 0), .int (zi i)] M 0 0 0 0 (fun v' M' => v' = some (.int (zi (hAt f n i))) ∧ M' = M) (fun _ _ => False) := by
  have hb := hB.1
  refine zEnter [some (.ref (A 0)), some (.int (zi i))] (by decide +kernel) rfl rfl (Nat.le_of_ble_eq_true rfl) ?_
  intro p e s m args below meth c Q C hin hQ
  refine z_iload_n C dX9_byteAt_0 rfl ?_
  refine z_aload_n C dX9_byteAt_1 rfl ?_
  refine z_getM C dX9_byteAt_2 fl_X9_68 (by first | assumption | ((repeat (first | assumption | exact va_up_self _ _ _ | refine (va_up_ne _ _ (by first | assumption | exact hA.ne (by decide) | exact hA.ne (by omega))).trans ?_)); done)) rfl (by first | assumption | ((repeat (first | assumption | exact va_up_self _ _ _ | rewrite [va_up_ne _ _ (by decide)])); (first | done | exact rfl))) ?_
  refine z_icmp_geZ (tgt := 17) C dX9_byteAt_5 (by decide) (by omega) (by omega) (fun h5 => ?_) (fun h5 => ?_)
  · refine z_iconst C dX9_byteAt_17 ?_
    refine z_iret C hQ dX9_byteAt_18 rfl (by decide) (by decide) ?_
    rw [hAt_out (by omega)]
    exact ⟨rfl, rfl⟩
  · refine z_aload_n C dX9_byteAt_8 rfl ?_
    refine z_get C dX9_byteAt_9 fl_X9_42 (by first | assumption | ((repeat (first | assumption | exact va_up_self _ _ _ | refine (va_up_ne _ _ (by first | assumption | exact hA.ne (by decide) | exact hA.ne (by omega))).trans ?_)); done)) rfl ?_
    refine z_iload_n C dX9_byteAt_12 rfl ?_
    refine z_aldN C dX9_byteAt_13 (by first | assumption | ((repeat (first | assumption | exact va_up_self _ _ _ | refine (va_up_ne _ _ (by first | assumption | exact hA.ne (by decide) | exact hA.ne (by omega))).trans ?_)); done)) (by omega) (by omega) hB.2.1 (fun hr13 => ?_)
    refine z_goto (tgt := 18) C dX9_byteAt_14 (by decide) ?_
    refine z_iret C hQ dX9_byteAt_18 rfl (by decide) (by decide) ?_
    rw [hAt_in (by omega)]
    exact ⟨rfl, rfl⟩
theorem hAt_r {f : Nat → Int} {n : Int} (h : hBo f n) (i : Int) : -1 ≤ hAt f n i ∧ hAt f n i ≤ 255 := by
  unfold hAt
  split
  · have := h.2.2 i.toNat (by omega)
    omega
  · omega
set_option maxHeartbeats 4000000 in
set_option maxRecDepth 100000 in
theorem k_X9_advance {l : Launch} {γ : zG} {M : zM} {A : Nat → Nat} {F f : Nat → Int} {n e0 : Int} (hA : mIA A) (hO : M (A 0) = some (mOb A F)) (hI : M (A 11) = some (zar γ 500 f)) (hn : F 19 = n) (hB : hBo f n) (he : F 20 = e0) (re : 0 ≤ e0 ∧ e0 ≤ n) :
    zCon l γ yX9_advance cX9_advance 2 none [.ref (A 0)] M 3 64 0 0 (fun v' M' => v' = none ∧ mF A M M' [0] ∧ ∃ F', M' (A 0) = some (mOb A F') ∧ mKp [20, 21, 22, 23, 24] F F' ∧ mTk F' f n e0) (fun _ _ => False) := by
  have hb := hB.1
  have rS := ztS_rng (f := f) re
  have rE := ztE_rng hB re
  have hK0 := ztK_0 hB re
  have hra := hAt_r hB
  refine zEnter [some (.ref (A 0)), none] (by decide +kernel) rfl rfl (Nat.le_of_ble_eq_true rfl) ?_
  intro p e s m args below meth c Q C hin hQ
  have iI : ∀ M1 : zM, mF A M M1 [0] → M1 (A 11) = some (zar γ 500 f) := fun M1 h => h.at hA (.of rfl) hI
  have lw : ∀ (t : Nat) (M1 : zM) (F1 : Nat → Int) (q : Int) (x1 : Option Value), ztK f n e0 = 1 → mF A M M1 [0] → M1 (A 0) = some (mOb A F1) → mKp [20, 21, 22, 23, 24] F F1 → F1 20 = q → F1 21 = ztS f n e0 → F1 22 = 3 → F1 23 = 0 → F1 24 = q - ztS f n e0 → 0 ≤ q ∧ q ≤ n → n ≤ q + t → zrn f n 1 t q = ztE f n e0 → zAW p l e { frames := 3, cells := 0, slots := 0, locals := 64 } s m args below meth c γ 2 Q M1 0 0 91 [some (.ref (A 0)), x1] [] := by
    intro t
    have fin : ∀ (M1 : zM) (F1 : Nat → Int) (q : Int) (x1 : Option Value), ztK f n e0 = 1 → mF A M M1 [0] → M1 (A 0) = some (mOb A F1) → mKp [20, 21, 22, 23, 24] F F1 → F1 20 = q → F1 21 = ztS f n e0 → F1 22 = 3 → F1 23 = 0 → F1 24 = q - ztS f n e0 → q = ztE f n e0 → zAW p l e { frames := 3, cells := 0, slots := 0, locals := 64 } s m args below meth c γ 2 Q M1 0 0 229 [some (.ref (A 0)), x1] [] := by
      intro M1 F1 q x1 hk hf hM1 hp1 h20 h21 h22 h23 h24 hq
      refine z_vret C hQ dX9_advance_229 (by decide) (by decide) ?_
      exact ⟨rfl, hf, F1, hM1, hp1, h20.trans hq, h21, by rw [h22, hk]; rfl, by rw [h24, if_pos hk, hq], by rw [h23, if_neg (by omega)]⟩
    induction t with
    | zero =>
      intro M1 F1 q x1 hk hf hM1 hp1 h20 h21 h22 h23 h24 hq hqt hz
      have n1 : F1 19 = n := (hp1 19 (by decide)).trans hn
      have hI1 := iI M1 hf
      have hz : q = ztE f n e0 := hz
      refine z_aload_n C dX9_advance_91 rfl ?_
      refine z_aload_n C dX9_advance_92 rfl ?_
      refine z_getM C dX9_advance_93 fl_X9_206 (by first | assumption | ((repeat (first | assumption | exact va_up_self _ _ _ | refine (va_up_ne _ _ (by first | assumption | exact hA.ne (by decide) | exact hA.ne (by omega))).trans ?_)); done)) rfl (by first | assumption | ((repeat (first | assumption | exact va_up_self _ _ _ | rewrite [va_up_ne _ _ (by decide)])); (first | done | exact rfl))) ?_
      refine z_callV C dX9_advance_96 lk_X9_209 mw_X9_byteAt mi_X9_byteAt ms_X9_byteAt rfl (by first | assumption | ((repeat (first | assumption | exact va_up_self _ _ _ | refine (va_up_ne _ _ (by first | assumption | exact hA.ne (by decide) | exact hA.ne (by omega))).trans ?_)); done)) (k_X9_byteAt hM1 hI1 n1 hB (i := q) (by omega)) rfl (by first | decide | exact Nat.le_of_ble_eq_true rfl) ⟨by decide, by decide, by decide, by decide⟩ (fun _ _ h => False.elim h) (fun v M' hp => ?_)
      obtain ⟨rfl, rfl⟩ := hp
      refine z_callS C dX9_advance_99 lk_X9_224 mw_X9_isSymbolByte mst_X9_isSymbolByte (k_X9_isSymbolByte (x := hAt f n q) (by have := hra q; unfold zR; omega)) rfl (by first | decide | exact Nat.le_of_ble_eq_true rfl) ⟨by decide, by decide, by decide, by decide⟩ (fun _ _ h => False.elim h) (fun v M' hp => ?_)
      obtain ⟨r99, rfl, rfl, q99⟩ := hp
      have s99 := q99.rng
      refine z_if_eqZ (tgt := 229) C dX9_advance_102 (by decide) (by omega) (fun h102 => ?_) (fun h102 => ?_)
      · exact fin _ F1 q x1 hk hf hM1 hp1 h20 h21 h22 h23 h24 hz
      · exact absurd (q99.t h102) (by rw [hAt_out (by omega)]; unfold zLet; omega)
    | succ t ih =>
      intro M1 F1 q x1 hk hf hM1 hp1 h20 h21 h22 h23 h24 hq hqt hz
      have n1 : F1 19 = n := (hp1 19 (by decide)).trans hn
      have hI1 := iI M1 hf
      have k1 := zkd_1i (hAt f n q)
      have k2 := hAt_m1 hB (i := q) hq.1
      unfold zrn at hz
      refine z_aload_n C dX9_advance_91 rfl ?_
      refine z_aload_n C dX9_advance_92 rfl ?_
      refine z_getM C dX9_advance_93 fl_X9_206 (by first | assumption | ((repeat (first | assumption | exact va_up_self _ _ _ | refine (va_up_ne _ _ (by first | assumption | exact hA.ne (by decide) | exact hA.ne (by omega))).trans ?_)); done)) rfl (by first | assumption | ((repeat (first | assumption | exact va_up_self _ _ _ | rewrite [va_up_ne _ _ (by decide)])); (first | done | exact rfl))) ?_
      refine z_callV C dX9_advance_96 lk_X9_209 mw_X9_byteAt mi_X9_byteAt ms_X9_byteAt rfl (by first | assumption | ((repeat (first | assumption | exact va_up_self _ _ _ | refine (va_up_ne _ _ (by first | assumption | exact hA.ne (by decide) | exact hA.ne (by omega))).trans ?_)); done)) (k_X9_byteAt hM1 hI1 n1 hB (i := q) (by omega)) rfl (by first | decide | exact Nat.le_of_ble_eq_true rfl) ⟨by decide, by decide, by decide, by decide⟩ (fun _ _ h => False.elim h) (fun v M' hp => ?_)
      obtain ⟨rfl, rfl⟩ := hp
      refine z_callS C dX9_advance_99 lk_X9_224 mw_X9_isSymbolByte mst_X9_isSymbolByte (k_X9_isSymbolByte (x := hAt f n q) (by have := hra q; unfold zR; omega)) rfl (by first | decide | exact Nat.le_of_ble_eq_true rfl) ⟨by decide, by decide, by decide, by decide⟩ (fun _ _ h => False.elim h) (fun v M' hp => ?_)
      obtain ⟨r99, rfl, rfl, q99⟩ := hp
      have s99 := q99.rng
      refine z_if_eqZ (tgt := 229) C dX9_advance_102 (by decide) (by omega) (fun h102 => ?_) (fun h102 => ?_)
      · rw [if_neg (fun w => q99.f h102 (k1.mp w.2))] at hz
        exact fin _ F1 q x1 hk hf hM1 hp1 h20 h21 h22 h23 h24 hz
      · refine z_aload_n C dX9_advance_105 rfl ?_
        refine z_dup C dX9_advance_106 rfl ?_
        refine z_getM C dX9_advance_107 fl_X9_215 (by first | assumption | ((repeat (first | assumption | exact va_up_self _ _ _ | refine (va_up_ne _ _ (by first | assumption | exact hA.ne (by decide) | exact hA.ne (by omega))).trans ?_)); done)) rfl (by first | assumption | ((repeat (first | assumption | exact va_up_self _ _ _ | rewrite [va_up_ne _ _ (by decide)])); (first | done | exact rfl))) ?_
        refine z_iconst C dX9_advance_110 ?_
        refine z_iaddZ C dX9_advance_111 ?_
        refine z_putM C dX9_advance_112 fl_X9_215 (by first | assumption | ((repeat (first | assumption | exact va_up_self _ _ _ | refine (va_up_ne _ _ (by first | assumption | exact hA.ne (by decide) | exact hA.ne (by omega))).trans ?_)); done)) rfl ?_
        refine z_aload_n C dX9_advance_115 rfl ?_
        refine z_dup C dX9_advance_116 rfl ?_
        refine z_getM C dX9_advance_117 fl_X9_206 (by first | assumption | ((repeat (first | assumption | exact va_up_self _ _ _ | refine (va_up_ne _ _ (by first | assumption | exact hA.ne (by decide) | exact hA.ne (by omega))).trans ?_)); done)) rfl (by first | assumption | ((repeat (first | assumption | exact va_up_self _ _ _ | rewrite [va_up_ne _ _ (by decide)])); (first | done | exact rfl))) ?_
        refine z_iconst C dX9_advance_120 ?_
        refine z_iaddZ C dX9_advance_121 ?_
        refine z_putM C dX9_advance_122 fl_X9_206 (by first | assumption | ((repeat (first | assumption | exact va_up_self _ _ _ | refine (va_up_ne _ _ (by first | assumption | exact hA.ne (by decide) | exact hA.ne (by omega))).trans ?_)); done)) rfl ?_
        refine z_goto (tgt := 91) C dX9_advance_125 (by decide) ?_
        have w1 := q99.t h102
        have w2 : q < n := by
          by_cases w : q < n
          · exact w
          · rw [hAt_out (by omega)] at w1
            unfold zLet at w1
            omega
        rw [if_pos ⟨w2, k1.mpr w1⟩] at hz
        refine ih _ _ (q + 1) x1 hk ((hf.up rfl).up rfl) (va_up_self _ _ _) ((hp1.up rfl).up rfl) (va_up_self _ _ _) ?_ ?_ ?_ ?_ (by omega) (by omega) hz
        · rw [va_up_ne _ _ (by decide), va_up_ne _ _ (by decide)]
          exact h21
        · rw [va_up_ne _ _ (by decide), va_up_ne _ _ (by decide)]
          exact h22
        · rw [va_up_ne _ _ (by decide), va_up_ne _ _ (by decide)]
          exact h23
        · rw [va_up_ne _ _ (by decide), va_up_self]
          omega
  have ld : ∀ (t : Nat) (M1 : zM) (F1 : Nat → Int) (q v : Int) (x1 : Option Value), ztK f n e0 = 2 → mF A M M1 [0] → M1 (A 0) = some (mOb A F1) → mKp [20, 21, 22, 23, 24] F F1 → F1 20 = q → F1 21 = ztS f n e0 → F1 22 = 2 → F1 23 = v → F1 24 = 0 → 0 ≤ q ∧ q ≤ n → n ≤ q + t → zrn f n 2 t q = ztE f n e0 → (0 ≤ v ∧ v ≤ 999999999) → mnv f n (ztE f n e0 - q).toNat q v = mnv f n (ztE f n e0 - ztS f n e0).toNat (ztS f n e0) 0 → zAW p l e { frames := 3, cells := 0, slots := 0, locals := 64 } s m args below meth c γ 2 Q M1 0 0 144 [some (.ref (A 0)), x1] [] := by
    intro t
    have fin : ∀ (M1 : zM) (F1 : Nat → Int) (q v : Int) (x1 : Option Value), ztK f n e0 = 2 → mF A M M1 [0] → M1 (A 0) = some (mOb A F1) → mKp [20, 21, 22, 23, 24] F F1 → F1 20 = q → F1 21 = ztS f n e0 → F1 22 = 2 → F1 23 = v → F1 24 = 0 → q = ztE f n e0 → mnv f n (ztE f n e0 - q).toNat q v = mnv f n (ztE f n e0 - ztS f n e0).toNat (ztS f n e0) 0 → zAW p l e { frames := 3, cells := 0, slots := 0, locals := 64 } s m args below meth c γ 2 Q M1 0 0 229 [some (.ref (A 0)), x1] [] := by
      intro M1 F1 q v x1 hk hf hM1 hp1 h20 h21 h22 h23 h24 hq hm
      subst hq
      rw [show (ztE f n e0 - ztE f n e0).toNat = 0 by omega] at hm
      refine z_vret C hQ dX9_advance_229 (by decide) (by decide) ?_
      exact ⟨rfl, hf, F1, hM1, hp1, h20, h21, by rw [h22, hk]; rfl, by rw [h24, if_neg (by omega)], by rw [h23, if_pos hk, ← hm]; rfl⟩
    induction t with
    | zero =>
      intro M1 F1 q v x1 hk hf hM1 hp1 h20 h21 h22 h23 h24 hq hqt hz hv hm
      have n1 : F1 19 = n := (hp1 19 (by decide)).trans hn
      have hI1 := iI M1 hf
      have hz : q = ztE f n e0 := hz
      refine z_aload_n C dX9_advance_144 rfl ?_
      refine z_aload_n C dX9_advance_145 rfl ?_
      refine z_getM C dX9_advance_146 fl_X9_206 (by first | assumption | ((repeat (first | assumption | exact va_up_self _ _ _ | refine (va_up_ne _ _ (by first | assumption | exact hA.ne (by decide) | exact hA.ne (by omega))).trans ?_)); done)) rfl (by first | assumption | ((repeat (first | assumption | exact va_up_self _ _ _ | rewrite [va_up_ne _ _ (by decide)])); (first | done | exact rfl))) ?_
      refine z_callV C dX9_advance_149 lk_X9_209 mw_X9_byteAt mi_X9_byteAt ms_X9_byteAt rfl (by first | assumption | ((repeat (first | assumption | exact va_up_self _ _ _ | refine (va_up_ne _ _ (by first | assumption | exact hA.ne (by decide) | exact hA.ne (by omega))).trans ?_)); done)) (k_X9_byteAt hM1 hI1 n1 hB (i := q) (by omega)) rfl (by first | decide | exact Nat.le_of_ble_eq_true rfl) ⟨by decide, by decide, by decide, by decide⟩ (fun _ _ h => False.elim h) (fun v M' hp => ?_)
      obtain ⟨rfl, rfl⟩ := hp
      refine z_bipush C dX9_advance_152 (by decide) ?_
      refine z_bipush C dX9_advance_154 (by decide) ?_
      refine z_callS C dX9_advance_156 lk_X9_128 mw_X9_isBetween mst_X9_isBetween (k_X9_isBetween (x := hAt f n q) (a := 48) (b := 57) (by have := hra q; unfold zR; omega) (by unfold zR; omega) (by unfold zR; omega)) rfl (by first | decide | exact Nat.le_of_ble_eq_true rfl) ⟨by decide, by decide, by decide, by decide⟩ (fun _ _ h => False.elim h) (fun v M' hp => ?_)
      obtain ⟨r156, rfl, rfl, q156⟩ := hp
      have s156 := q156.rng
      refine z_if_eqZ (tgt := 229) C dX9_advance_159 (by decide) (by omega) (fun h159 => ?_) (fun h159 => ?_)
      · exact fin _ F1 q v x1 hk hf hM1 hp1 h20 h21 h22 h23 h24 hz hm
      · exact absurd (q156.t h159) (by rw [hAt_out (by omega)]; omega)
    | succ t ih =>
      intro M1 F1 q v x1 hk hf hM1 hp1 h20 h21 h22 h23 h24 hq hqt hz hv hm
      have n1 : F1 19 = n := (hp1 19 (by decide)).trans hn
      have hI1 := iI M1 hf
      have k1 := zkd_2i (hAt f n q)
      have k2 := hAt_m1 hB (i := q) hq.1
      unfold zrn at hz
      have nxt : ∀ (v2 : Int) (_ : v2 = if 99999999 < v then v else 10 * v + hAt f n q - 48), (48 ≤ hAt f n q ∧ hAt f n q ≤ 57) → ∀ x1, zAW p l e { frames := 3, cells := 0, slots := 0, locals := 64 } s m args below meth c γ 2 Q (va_up (va_up M1 (A 0) (some (mOb A (va_up F1 23 v2)))) (A 0) (some (mOb A (va_up (va_up F1 23 v2) 20 (q + 1))))) 0 0 144 [some (.ref (A 0)), x1] [] := by
        intro v2 hv2 w1 x1
        have w2 : q < n := by
          by_cases w : q < n
          · exact w
          · rw [hAt_out (by omega)] at w1
            omega
        rw [if_pos ⟨w2, k1.mpr w1⟩] at hz
        have z1 := zrn_rng (f := f) (n := n) (k := 2) t (q + 1) (by omega)
        refine ih _ _ (q + 1) v2 x1 hk ((hf.up rfl).up rfl) (va_up_self _ _ _) ((hp1.up rfl).up rfl) (va_up_self _ _ _) ?_ ?_ ?_ ?_ (by omega) (by omega) hz (by split at hv2 <;> omega) ?_
        · rw [va_up_ne _ _ (by decide), va_up_ne _ _ (by decide)]
          exact h21
        · rw [va_up_ne _ _ (by decide), va_up_ne _ _ (by decide)]
          exact h22
        · rw [va_up_ne _ _ (by decide), va_up_self]
        · rw [va_up_ne _ _ (by decide), va_up_ne _ _ (by decide)]
          exact h24
        · rw [← hm, show (ztE f n e0 - q).toNat = (ztE f n e0 - (q + 1)).toNat + 1 by omega, mnv, hv2]
      refine z_aload_n C dX9_advance_144 rfl ?_
      refine z_aload_n C dX9_advance_145 rfl ?_
      refine z_getM C dX9_advance_146 fl_X9_206 (by first | assumption | ((repeat (first | assumption | exact va_up_self _ _ _ | refine (va_up_ne _ _ (by first | assumption | exact hA.ne (by decide) | exact hA.ne (by omega))).trans ?_)); done)) rfl (by first | assumption | ((repeat (first | assumption | exact va_up_self _ _ _ | rewrite [va_up_ne _ _ (by decide)])); (first | done | exact rfl))) ?_
      refine z_callV C dX9_advance_149 lk_X9_209 mw_X9_byteAt mi_X9_byteAt ms_X9_byteAt rfl (by first | assumption | ((repeat (first | assumption | exact va_up_self _ _ _ | refine (va_up_ne _ _ (by first | assumption | exact hA.ne (by decide) | exact hA.ne (by omega))).trans ?_)); done)) (k_X9_byteAt hM1 hI1 n1 hB (i := q) (by omega)) rfl (by first | decide | exact Nat.le_of_ble_eq_true rfl) ⟨by decide, by decide, by decide, by decide⟩ (fun _ _ h => False.elim h) (fun v M' hp => ?_)
      obtain ⟨rfl, rfl⟩ := hp
      refine z_bipush C dX9_advance_152 (by decide) ?_
      refine z_bipush C dX9_advance_154 (by decide) ?_
      refine z_callS C dX9_advance_156 lk_X9_128 mw_X9_isBetween mst_X9_isBetween (k_X9_isBetween (x := hAt f n q) (a := 48) (b := 57) (by have := hra q; unfold zR; omega) (by unfold zR; omega) (by unfold zR; omega)) rfl (by first | decide | exact Nat.le_of_ble_eq_true rfl) ⟨by decide, by decide, by decide, by decide⟩ (fun _ _ h => False.elim h) (fun v M' hp => ?_)
      obtain ⟨r156, rfl, rfl, q156⟩ := hp
      have s156 := q156.rng
      refine z_if_eqZ (tgt := 229) C dX9_advance_159 (by decide) (by omega) (fun h159 => ?_) (fun h159 => ?_)
      · rw [if_neg (fun w => q156.f h159 (k1.mp w.2))] at hz
        exact fin _ F1 q v x1 hk hf hM1 hp1 h20 h21 h22 h23 h24 hz hm
      · refine z_aload_n C dX9_advance_162 rfl ?_
        refine z_aload_n C dX9_advance_163 rfl ?_
        refine z_getM C dX9_advance_164 fl_X9_218 (by first | assumption | ((repeat (first | assumption | exact va_up_self _ _ _ | refine (va_up_ne _ _ (by first | assumption | exact hA.ne (by decide) | exact hA.ne (by omega))).trans ?_)); done)) rfl (by first | assumption | ((repeat (first | assumption | exact va_up_self _ _ _ | rewrite [va_up_ne _ _ (by decide)])); (first | done | exact rfl))) ?_
        refine z_ldc C dX9_advance_167 t6_99 ?_
        rw [show (99999999 : Int32) = zi 99999999 by rfl]
        refine z_icmp_leZ (tgt := 179) C dX9_advance_169 (by decide) (by omega) (by omega) (fun h169 => ?_) (fun h169 => ?_)
        · refine z_bipush C dX9_advance_179 (by decide) ?_
          refine z_aload_n C dX9_advance_181 rfl ?_
          refine z_getM C dX9_advance_182 fl_X9_218 (by first | assumption | ((repeat (first | assumption | exact va_up_self _ _ _ | refine (va_up_ne _ _ (by first | assumption | exact hA.ne (by decide) | exact hA.ne (by omega))).trans ?_)); done)) rfl (by first | assumption | ((repeat (first | assumption | exact va_up_self _ _ _ | rewrite [va_up_ne _ _ (by decide)])); (first | done | exact rfl))) ?_
          refine z_imulZ C dX9_advance_185 ?_
          refine z_aload_n C dX9_advance_186 rfl ?_
          refine z_aload_n C dX9_advance_187 rfl ?_
          refine z_getM C dX9_advance_188 fl_X9_206 (by first | assumption | ((repeat (first | assumption | exact va_up_self _ _ _ | refine (va_up_ne _ _ (by first | assumption | exact hA.ne (by decide) | exact hA.ne (by omega))).trans ?_)); done)) rfl (by first | assumption | ((repeat (first | assumption | exact va_up_self _ _ _ | rewrite [va_up_ne _ _ (by decide)])); (first | done | exact rfl))) ?_
          refine z_callV C dX9_advance_191 lk_X9_209 mw_X9_byteAt mi_X9_byteAt ms_X9_byteAt rfl (by first | assumption | ((repeat (first | assumption | exact va_up_self _ _ _ | refine (va_up_ne _ _ (by first | assumption | exact hA.ne (by decide) | exact hA.ne (by omega))).trans ?_)); done)) (k_X9_byteAt hM1 hI1 n1 hB (i := q) (by omega)) rfl (by first | decide | exact Nat.le_of_ble_eq_true rfl) ⟨by decide, by decide, by decide, by decide⟩ (fun _ _ h => False.elim h) (fun v M' hp => ?_)
          obtain ⟨rfl, rfl⟩ := hp
          refine z_iaddZ C dX9_advance_194 ?_
          refine z_bipush C dX9_advance_195 (by decide) ?_
          refine z_isubZ C dX9_advance_197 ?_
          refine z_putM C dX9_advance_198 fl_X9_218 (by first | assumption | ((repeat (first | assumption | exact va_up_self _ _ _ | refine (va_up_ne _ _ (by first | assumption | exact hA.ne (by decide) | exact hA.ne (by omega))).trans ?_)); done)) rfl ?_
          refine z_aload_n C dX9_advance_201 rfl ?_
          refine z_dup C dX9_advance_202 rfl ?_
          refine z_getM C dX9_advance_203 fl_X9_206 (by first | assumption | ((repeat (first | assumption | exact va_up_self _ _ _ | refine (va_up_ne _ _ (by first | assumption | exact hA.ne (by decide) | exact hA.ne (by omega))).trans ?_)); done)) rfl (by first | assumption | ((repeat (first | assumption | exact va_up_self _ _ _ | rewrite [va_up_ne _ _ (by decide)])); (first | done | exact rfl))) ?_
          refine z_iconst C dX9_advance_206 ?_
          refine z_iaddZ C dX9_advance_207 ?_
          refine z_putM C dX9_advance_208 fl_X9_206 (by first | assumption | ((repeat (first | assumption | exact va_up_self _ _ _ | refine (va_up_ne _ _ (by first | assumption | exact hA.ne (by decide) | exact hA.ne (by omega))).trans ?_)); done)) rfl ?_
          refine z_goto (tgt := 144) C dX9_advance_211 (by decide) ?_
          exact nxt _ (by rw [if_neg (by omega)]) (q156.t h159) _
        · refine z_aload_n C dX9_advance_172 rfl ?_
          refine z_getM C dX9_advance_173 fl_X9_218 (by first | assumption | ((repeat (first | assumption | exact va_up_self _ _ _ | refine (va_up_ne _ _ (by first | assumption | exact hA.ne (by decide) | exact hA.ne (by omega))).trans ?_)); done)) rfl (by first | assumption | ((repeat (first | assumption | exact va_up_self _ _ _ | rewrite [va_up_ne _ _ (by decide)])); (first | done | exact rfl))) ?_
          refine z_goto (tgt := 198) C dX9_advance_176 (by decide) ?_
          refine z_putM C dX9_advance_198 fl_X9_218 (by first | assumption | ((repeat (first | assumption | exact va_up_self _ _ _ | refine (va_up_ne _ _ (by first | assumption | exact hA.ne (by decide) | exact hA.ne (by omega))).trans ?_)); done)) rfl ?_
          refine z_aload_n C dX9_advance_201 rfl ?_
          refine z_dup C dX9_advance_202 rfl ?_
          refine z_getM C dX9_advance_203 fl_X9_206 (by first | assumption | ((repeat (first | assumption | exact va_up_self _ _ _ | refine (va_up_ne _ _ (by first | assumption | exact hA.ne (by decide) | exact hA.ne (by omega))).trans ?_)); done)) rfl (by first | assumption | ((repeat (first | assumption | exact va_up_self _ _ _ | rewrite [va_up_ne _ _ (by decide)])); (first | done | exact rfl))) ?_
          refine z_iconst C dX9_advance_206 ?_
          refine z_iaddZ C dX9_advance_207 ?_
          refine z_putM C dX9_advance_208 fl_X9_206 (by first | assumption | ((repeat (first | assumption | exact va_up_self _ _ _ | refine (va_up_ne _ _ (by first | assumption | exact hA.ne (by decide) | exact hA.ne (by omega))).trans ?_)); done)) rfl ?_
          refine z_goto (tgt := 144) C dX9_advance_211 (by decide) ?_
          exact nxt _ (by rw [if_pos (by omega)]) (q156.t h159) _
  have skip : ∀ (t : Nat) (M1 : zM) (F1 : Nat → Int) (q : Int), mF A M M1 [0] → M1 (A 0) = some (mOb A F1) → mKp [20, 21, 22, 23, 24] F F1 → F1 20 = q → 0 ≤ q ∧ q ≤ n → n ≤ q + t → zsk f n t q = ztS f n e0 → zAW p l e { frames := 3, cells := 0, slots := 0, locals := 64 } s m args below meth c γ 2 Q M1 0 0 0 [some (.ref (A 0)), none] [] := by
    intro t
    have t39 : ∀ (M1 : zM) (F1 : Nat → Int) (q : Int), mF A M M1 [0] → M1 (A 0) = some (mOb A F1) → mKp [20, 21, 22, 23, 24] F F1 → F1 20 = q → q = ztS f n e0 → zAW p l e { frames := 3, cells := 0, slots := 0, locals := 64 } s m args below meth c γ 2 Q M1 0 0 39 [some (.ref (A 0)), none] [] := by
      intro M1 F1 q hf hM1 hp1 h20 hq
      subst hq
      have hK : ztK f n e0 = zkd (hAt f n (ztS f n e0)) := rfl
      have k1 := zkd_1i (hAt f n (ztS f n e0))
      have k2 := zkd_2i (hAt f n (ztS f n e0))
      have k0 := zkd_0 (x := hAt f n (ztS f n e0))
      have hEd : ztE f n e0 = if ztK f n e0 = 1 ∨ ztK f n e0 = 2 then zrn f n (ztK f n e0) 500 (ztS f n e0 + 1) else if ztS f n e0 < n then ztS f n e0 + 1 else ztS f n e0 := rfl
      generalize hF2 : va_up (va_up (va_up F1 21 (ztS f n e0)) 24 0) 23 0 = F2
      have g20 : F2 20 = ztS f n e0 := by rw [← hF2, va_up_ne _ _ (by decide), va_up_ne _ _ (by decide), va_up_ne _ _ (by decide)]; exact h20
      have g21 : F2 21 = ztS f n e0 := by rw [← hF2, va_up_ne _ _ (by decide), va_up_ne _ _ (by decide), va_up_self]
      have g24 : F2 24 = 0 := by rw [← hF2, va_up_ne _ _ (by decide), va_up_self]
      have g23 : F2 23 = 0 := by rw [← hF2, va_up_self]
      have gp : mKp [20, 21, 22, 23, 24] F F2 := by rw [← hF2]; exact ((hp1.up rfl).up rfl).up rfl
      have g19 : F2 19 = n := (gp 19 (by decide)).trans hn
      have t57 : ∀ M2 : zM, mF A M M2 [0] → M2 (A 0) = some (mOb A F2) → zAW p l e { frames := 3, cells := 0, slots := 0, locals := 64 } s m args below meth c γ 2 Q M2 0 0 57 [some (.ref (A 0)), none] [] := by
        intro M2 hf2 hM2
        have hI2 := iI M2 hf2
        refine z_aload_n C dX9_advance_57 rfl ?_
        refine z_aload_n C dX9_advance_58 rfl ?_
        refine z_getM C dX9_advance_59 fl_X9_206 (by first | assumption | ((repeat (first | assumption | exact va_up_self _ _ _ | refine (va_up_ne _ _ (by first | assumption | exact hA.ne (by decide) | exact hA.ne (by omega))).trans ?_)); done)) rfl (by first | assumption | ((repeat (first | assumption | exact va_up_self _ _ _ | rewrite [va_up_ne _ _ (by decide)])); (first | done | exact rfl))) ?_
        refine z_callV C dX9_advance_62 lk_X9_209 mw_X9_byteAt mi_X9_byteAt ms_X9_byteAt rfl (by first | assumption | ((repeat (first | assumption | exact va_up_self _ _ _ | refine (va_up_ne _ _ (by first | assumption | exact hA.ne (by decide) | exact hA.ne (by omega))).trans ?_)); done)) (k_X9_byteAt hM2 hI2 g19 hB (i := ztS f n e0) (by omega)) rfl (by first | decide | exact Nat.le_of_ble_eq_true rfl) ⟨by decide, by decide, by decide, by decide⟩ (fun _ _ h => False.elim h) (fun v M' hp => ?_)
        obtain ⟨rfl, rfl⟩ := hp
        have ra := hra (ztS f n e0)
        refine z_istore_n C dX9_advance_65 (by decide) ?_
        refine z_iload_n C dX9_advance_66 rfl ?_
        refine z_iconst C dX9_advance_67 ?_
        refine z_icmp_neZ (tgt := 79) C dX9_advance_68 (by decide) (by omega) (by omega) (fun h68 => ?_) (fun h68 => ?_)
        · refine z_iload_n C dX9_advance_79 rfl ?_
          refine z_callS C dX9_advance_80 lk_X9_224 mw_X9_isSymbolByte mst_X9_isSymbolByte (k_X9_isSymbolByte (x := hAt f n (ztS f n e0)) (by unfold zR; omega)) rfl (by first | decide | exact Nat.le_of_ble_eq_true rfl) ⟨by decide, by decide, by decide, by decide⟩ (fun _ _ h => False.elim h) (fun v M' hp => ?_)
          obtain ⟨r80, rfl, rfl, q80⟩ := hp
          have s80 := q80.rng
          refine z_if_eqZ (tgt := 128) C dX9_advance_83 (by decide) (by omega) (fun h83 => ?_) (fun h83 => ?_)
          · refine z_iload_n C dX9_advance_128 rfl ?_
            refine z_bipush C dX9_advance_129 (by decide) ?_
            refine z_bipush C dX9_advance_131 (by decide) ?_
            refine z_callS C dX9_advance_133 lk_X9_128 mw_X9_isBetween mst_X9_isBetween (k_X9_isBetween (x := hAt f n (ztS f n e0)) (a := 48) (b := 57) (by unfold zR; omega) (by unfold zR; omega) (by unfold zR; omega)) rfl (by first | decide | exact Nat.le_of_ble_eq_true rfl) ⟨by decide, by decide, by decide, by decide⟩ (fun _ _ h => False.elim h) (fun v M' hp => ?_)
            obtain ⟨r133, rfl, rfl, q133⟩ := hp
            have s133 := q133.rng
            refine z_if_eqZ (tgt := 214) C dX9_advance_136 (by decide) (by omega) (fun h136 => ?_) (fun h136 => ?_)
            · refine z_aload_n C dX9_advance_214 rfl ?_
              refine z_iconst C dX9_advance_215 ?_
              refine z_putM C dX9_advance_216 fl_X9_221 (by first | assumption | ((repeat (first | assumption | exact va_up_self _ _ _ | refine (va_up_ne _ _ (by first | assumption | exact hA.ne (by decide) | exact hA.ne (by omega))).trans ?_)); done)) rfl ?_
              refine z_aload_n C dX9_advance_219 rfl ?_
              refine z_dup C dX9_advance_220 rfl ?_
              refine z_getM C dX9_advance_221 fl_X9_206 (by first | assumption | ((repeat (first | assumption | exact va_up_self _ _ _ | refine (va_up_ne _ _ (by first | assumption | exact hA.ne (by decide) | exact hA.ne (by omega))).trans ?_)); done)) rfl (by first | assumption | ((repeat (first | assumption | exact va_up_self _ _ _ | rewrite [va_up_ne _ _ (by decide)])); (first | done | exact rfl))) ?_
              refine z_iconst C dX9_advance_224 ?_
              refine z_iaddZ C dX9_advance_225 ?_
              refine z_putM C dX9_advance_226 fl_X9_206 (by first | assumption | ((repeat (first | assumption | exact va_up_self _ _ _ | refine (va_up_ne _ _ (by first | assumption | exact hA.ne (by decide) | exact hA.ne (by omega))).trans ?_)); done)) rfl ?_
              refine z_vret C hQ dX9_advance_229 (by decide) (by decide) ?_
              have hk3 : ztK f n e0 = 3 := by
                have n0 : ztK f n e0 ≠ 0 := fun w => h68 (k0.mp w)
                have n1 : ztK f n e0 ≠ 1 := fun w => q80.f h83 (k1.mp w)
                have n2 : ztK f n e0 ≠ 2 := fun w => q133.f h136 (k2.mp w)
                have := zkd_rng (hAt f n (ztS f n e0))
                omega
              have hlt : ztS f n e0 < n := by omega
              refine ⟨rfl, (hf2.up rfl).up rfl, _, va_up_self _ _ _, (gp.up rfl).up rfl, ?_, ?_, ?_, ?_, ?_⟩
              · rw [va_up_self, hEd, if_neg (by omega), if_pos hlt]
              · rw [va_up_ne _ _ (by decide), va_up_ne _ _ (by decide)]
                exact g21
              · rw [va_up_ne _ _ (by decide), va_up_self, hk3]
                rfl
              · rw [va_up_ne _ _ (by decide), va_up_ne _ _ (by decide), if_neg (by omega)]
                exact g24
              · rw [va_up_ne _ _ (by decide), va_up_ne _ _ (by decide), if_neg (by omega)]
                exact g23
            · refine z_aload_n C dX9_advance_139 rfl ?_
              refine z_iconst C dX9_advance_140 ?_
              refine z_putM C dX9_advance_141 fl_X9_221 (by first | assumption | ((repeat (first | assumption | exact va_up_self _ _ _ | refine (va_up_ne _ _ (by first | assumption | exact hA.ne (by decide) | exact hA.ne (by omega))).trans ?_)); done)) rfl ?_
              have hk1 : ztK f n e0 = 2 := k2.mpr (q133.t h136)
              have hlt : ztS f n e0 < n := by
                by_cases w : ztS f n e0 < n
                · exact w
                · exact absurd (hAt_out (f := f) (by omega)) h68
              refine ld 501 _ _ (ztS f n e0) 0 _ hk1 (hf2.up rfl) (va_up_self _ _ _) (gp.up rfl) ?_ ?_ (va_up_self _ _ _) ?_ ?_ (by omega) (by omega) ?_ (by omega) rfl
              · rw [va_up_ne _ _ (by decide)]
                exact g20
              · rw [va_up_ne _ _ (by decide)]
                exact g21
              · rw [va_up_ne _ _ (by decide)]
                exact g23
              · rw [va_up_ne _ _ (by decide)]
                exact g24
              · rw [hEd, if_pos (.inr hk1), hk1]
                show (if _ then _ else _) = _
                rw [if_pos ⟨hlt, hK.symm.trans hk1⟩]
          · refine z_aload_n C dX9_advance_86 rfl ?_
            refine z_iconst C dX9_advance_87 ?_
            refine z_putM C dX9_advance_88 fl_X9_221 (by first | assumption | ((repeat (first | assumption | exact va_up_self _ _ _ | refine (va_up_ne _ _ (by first | assumption | exact hA.ne (by decide) | exact hA.ne (by omega))).trans ?_)); done)) rfl ?_
            have hk1 : ztK f n e0 = 1 := k1.mpr (q80.t h83)
            have hlt : ztS f n e0 < n := by
              by_cases w : ztS f n e0 < n
              · exact w
              · exact absurd (hAt_out (f := f) (by omega)) h68
            refine lw 501 _ _ (ztS f n e0) _ hk1 (hf2.up rfl) (va_up_self _ _ _) (gp.up rfl) ?_ ?_ (va_up_self _ _ _) ?_ ?_ (by omega) (by omega) ?_
            · rw [va_up_ne _ _ (by decide)]
              exact g20
            · rw [va_up_ne _ _ (by decide)]
              exact g21
            · rw [va_up_ne _ _ (by decide)]
              exact g23
            · rw [va_up_ne _ _ (by decide)]
              omega
            · rw [hEd, if_pos (.inl hk1), hk1]
              show (if _ then _ else _) = _
              rw [if_pos ⟨hlt, hK.symm.trans hk1⟩]
        · refine z_aload_n C dX9_advance_71 rfl ?_
          refine z_iconst C dX9_advance_72 ?_
          refine z_putM C dX9_advance_73 fl_X9_221 (by first | assumption | ((repeat (first | assumption | exact va_up_self _ _ _ | refine (va_up_ne _ _ (by first | assumption | exact hA.ne (by decide) | exact hA.ne (by omega))).trans ?_)); done)) rfl ?_
          refine z_goto (tgt := 229) C dX9_advance_76 (by decide) ?_
          refine z_vret C hQ dX9_advance_229 (by decide) (by decide) ?_
          have hk0 : ztK f n e0 = 0 := k0.mpr h68
          have hSn := hK0.mp hk0
          refine ⟨rfl, hf2.up rfl, _, va_up_self _ _ _, gp.up rfl, ?_, ?_, ?_, ?_, ?_⟩
          · rw [va_up_ne _ _ (by decide), hEd, if_neg (by omega), if_neg (by omega)]
            exact g20
          · rw [va_up_ne _ _ (by decide)]
            exact g21
          · rw [va_up_self, hk0]
            rfl
          · rw [va_up_ne _ _ (by decide), if_neg (by omega)]
            exact g24
          · rw [va_up_ne _ _ (by decide), if_neg (by omega)]
            exact g23
      refine z_aload_n C dX9_advance_39 rfl ?_
      refine z_aload_n C dX9_advance_40 rfl ?_
      refine z_getM C dX9_advance_41 fl_X9_206 (by first | assumption | ((repeat (first | assumption | exact va_up_self _ _ _ | refine (va_up_ne _ _ (by first | assumption | exact hA.ne (by decide) | exact hA.ne (by omega))).trans ?_)); done)) rfl (by first | assumption | ((repeat (first | assumption | exact va_up_self _ _ _ | rewrite [va_up_ne _ _ (by decide)])); (first | done | exact rfl))) ?_
      refine z_putM C dX9_advance_44 fl_X9_212 (by first | assumption | ((repeat (first | assumption | exact va_up_self _ _ _ | refine (va_up_ne _ _ (by first | assumption | exact hA.ne (by decide) | exact hA.ne (by omega))).trans ?_)); done)) rfl ?_
      refine z_aload_n C dX9_advance_47 rfl ?_
      refine z_iconst C dX9_advance_48 ?_
      refine z_putM C dX9_advance_49 fl_X9_215 (by first | assumption | ((repeat (first | assumption | exact va_up_self _ _ _ | refine (va_up_ne _ _ (by first | assumption | exact hA.ne (by decide) | exact hA.ne (by omega))).trans ?_)); done)) rfl ?_
      refine z_aload_n C dX9_advance_52 rfl ?_
      refine z_iconst C dX9_advance_53 ?_
      refine z_putM C dX9_advance_54 fl_X9_218 (by first | assumption | ((repeat (first | assumption | exact va_up_self _ _ _ | refine (va_up_ne _ _ (by first | assumption | exact hA.ne (by decide) | exact hA.ne (by omega))).trans ?_)); done)) rfl ?_
      exact t57 _ (((hf.up rfl).up rfl).up rfl) (by rw [va_up_self, hF2])
    induction t with
    | zero =>
      intro M1 F1 q hf hM1 hp1 h20 hq hqt hz
      have n1 : F1 19 = n := (hp1 19 (by decide)).trans hn
      have hI1 := iI M1 hf
      have hz : q = ztS f n e0 := hz
      have ho : hAt f n q = -1 := hAt_out (by omega)
      refine z_aload_n C dX9_advance_0 rfl ?_
      refine z_aload_n C dX9_advance_1 rfl ?_
      refine z_getM C dX9_advance_2 fl_X9_206 (by first | assumption | ((repeat (first | assumption | exact va_up_self _ _ _ | refine (va_up_ne _ _ (by first | assumption | exact hA.ne (by decide) | exact hA.ne (by omega))).trans ?_)); done)) rfl (by first | assumption | ((repeat (first | assumption | exact va_up_self _ _ _ | rewrite [va_up_ne _ _ (by decide)])); (first | done | exact rfl))) ?_
      refine z_callV C dX9_advance_5 lk_X9_209 mw_X9_byteAt mi_X9_byteAt ms_X9_byteAt rfl (by first | assumption | ((repeat (first | assumption | exact va_up_self _ _ _ | refine (va_up_ne _ _ (by first | assumption | exact hA.ne (by decide) | exact hA.ne (by omega))).trans ?_)); done)) (k_X9_byteAt hM1 hI1 n1 hB (i := q) (by omega)) rfl (by first | decide | exact Nat.le_of_ble_eq_true rfl) ⟨by decide, by decide, by decide, by decide⟩ (fun _ _ h => False.elim h) (fun v M' hp => ?_)
      obtain ⟨rfl, rfl⟩ := hp
      rw [ho]
      refine z_bipush C dX9_advance_8 (by decide) ?_
      refine z_icmp_eqZ (tgt := 26) C dX9_advance_10 (by decide) (by omega) (by omega) (fun h10 => ?_) (fun h10 => ?_)
      · exact absurd h10 (by decide)
      · refine z_aload_n C dX9_advance_13 rfl ?_
        refine z_aload_n C dX9_advance_14 rfl ?_
        refine z_getM C dX9_advance_15 fl_X9_206 (by first | assumption | ((repeat (first | assumption | exact va_up_self _ _ _ | refine (va_up_ne _ _ (by first | assumption | exact hA.ne (by decide) | exact hA.ne (by omega))).trans ?_)); done)) rfl (by first | assumption | ((repeat (first | assumption | exact va_up_self _ _ _ | rewrite [va_up_ne _ _ (by decide)])); (first | done | exact rfl))) ?_
        refine z_callV C dX9_advance_18 lk_X9_209 mw_X9_byteAt mi_X9_byteAt ms_X9_byteAt rfl (by first | assumption | ((repeat (first | assumption | exact va_up_self _ _ _ | refine (va_up_ne _ _ (by first | assumption | exact hA.ne (by decide) | exact hA.ne (by omega))).trans ?_)); done)) (k_X9_byteAt hM1 hI1 n1 hB (i := q) (by omega)) rfl (by first | decide | exact Nat.le_of_ble_eq_true rfl) ⟨by decide, by decide, by decide, by decide⟩ (fun _ _ h => False.elim h) (fun v M' hp => ?_)
        obtain ⟨rfl, rfl⟩ := hp
        rw [ho]
        refine z_bipush C dX9_advance_21 (by decide) ?_
        refine z_icmp_neZ (tgt := 39) C dX9_advance_23 (by decide) (by omega) (by omega) (fun h23 => ?_) (fun h23 => ?_)
        · exact t39 _ F1 q hf hM1 hp1 h20 hz
        · exact absurd h23 (by decide)
    | succ t ih =>
      intro M1 F1 q hf hM1 hp1 h20 hq hqt hz
      have n1 : F1 19 = n := (hp1 19 (by decide)).trans hn
      have hI1 := iI M1 hf
      have ra := hra q
      unfold zsk at hz
      have nxt : (hAt f n q = 32 ∨ hAt f n q = 10) → zAW p l e { frames := 3, cells := 0, slots := 0, locals := 64 } s m args below meth c γ 2 Q (va_up M1 (A 0) (some (mOb A (va_up F1 20 (q + 1))))) 0 0 0 [some (.ref (A 0)), none] [] := by
        intro w1
        have w2 : q < n := by
          by_cases w : q < n
          · exact w
          · rw [hAt_out (by omega)] at w1
            omega
        rw [if_pos ⟨w2, w1⟩] at hz
        exact ih _ _ (q + 1) (hf.up rfl) (va_up_self _ _ _) (hp1.up rfl) (va_up_self _ _ _) (by omega) (by omega) hz
      refine z_aload_n C dX9_advance_0 rfl ?_
      refine z_aload_n C dX9_advance_1 rfl ?_
      refine z_getM C dX9_advance_2 fl_X9_206 (by first | assumption | ((repeat (first | assumption | exact va_up_self _ _ _ | refine (va_up_ne _ _ (by first | assumption | exact hA.ne (by decide) | exact hA.ne (by omega))).trans ?_)); done)) rfl (by first | assumption | ((repeat (first | assumption | exact va_up_self _ _ _ | rewrite [va_up_ne _ _ (by decide)])); (first | done | exact rfl))) ?_
      refine z_callV C dX9_advance_5 lk_X9_209 mw_X9_byteAt mi_X9_byteAt ms_X9_byteAt rfl (by first | assumption | ((repeat (first | assumption | exact va_up_self _ _ _ | refine (va_up_ne _ _ (by first | assumption | exact hA.ne (by decide) | exact hA.ne (by omega))).trans ?_)); done)) (k_X9_byteAt hM1 hI1 n1 hB (i := q) (by omega)) rfl (by first | decide | exact Nat.le_of_ble_eq_true rfl) ⟨by decide, by decide, by decide, by decide⟩ (fun _ _ h => False.elim h) (fun v M' hp => ?_)
      obtain ⟨rfl, rfl⟩ := hp
      refine z_bipush C dX9_advance_8 (by decide) ?_
      refine z_icmp_eqZ (tgt := 26) C dX9_advance_10 (by decide) (by omega) (by omega) (fun h10 => ?_) (fun h10 => ?_)
      · refine z_aload_n C dX9_advance_26 rfl ?_
        refine z_dup C dX9_advance_27 rfl ?_
        refine z_getM C dX9_advance_28 fl_X9_206 (by first | assumption | ((repeat (first | assumption | exact va_up_self _ _ _ | refine (va_up_ne _ _ (by first | assumption | exact hA.ne (by decide) | exact hA.ne (by omega))).trans ?_)); done)) rfl (by first | assumption | ((repeat (first | assumption | exact va_up_self _ _ _ | rewrite [va_up_ne _ _ (by decide)])); (first | done | exact rfl))) ?_
        refine z_iconst C dX9_advance_31 ?_
        refine z_iaddZ C dX9_advance_32 ?_
        refine z_putM C dX9_advance_33 fl_X9_206 (by first | assumption | ((repeat (first | assumption | exact va_up_self _ _ _ | refine (va_up_ne _ _ (by first | assumption | exact hA.ne (by decide) | exact hA.ne (by omega))).trans ?_)); done)) rfl ?_
        refine z_goto (tgt := 0) C dX9_advance_36 (by decide) ?_
        exact nxt (.inl h10)
      · refine z_aload_n C dX9_advance_13 rfl ?_
        refine z_aload_n C dX9_advance_14 rfl ?_
        refine z_getM C dX9_advance_15 fl_X9_206 (by first | assumption | ((repeat (first | assumption | exact va_up_self _ _ _ | refine (va_up_ne _ _ (by first | assumption | exact hA.ne (by decide) | exact hA.ne (by omega))).trans ?_)); done)) rfl (by first | assumption | ((repeat (first | assumption | exact va_up_self _ _ _ | rewrite [va_up_ne _ _ (by decide)])); (first | done | exact rfl))) ?_
        refine z_callV C dX9_advance_18 lk_X9_209 mw_X9_byteAt mi_X9_byteAt ms_X9_byteAt rfl (by first | assumption | ((repeat (first | assumption | exact va_up_self _ _ _ | refine (va_up_ne _ _ (by first | assumption | exact hA.ne (by decide) | exact hA.ne (by omega))).trans ?_)); done)) (k_X9_byteAt hM1 hI1 n1 hB (i := q) (by omega)) rfl (by first | decide | exact Nat.le_of_ble_eq_true rfl) ⟨by decide, by decide, by decide, by decide⟩ (fun _ _ h => False.elim h) (fun v M' hp => ?_)
        obtain ⟨rfl, rfl⟩ := hp
        refine z_bipush C dX9_advance_21 (by decide) ?_
        refine z_icmp_neZ (tgt := 39) C dX9_advance_23 (by decide) (by omega) (by omega) (fun h23 => ?_) (fun h23 => ?_)
        · rw [if_neg (by omega)] at hz
          exact t39 _ F1 q hf hM1 hp1 h20 hz
        · refine z_aload_n C dX9_advance_26 rfl ?_
          refine z_dup C dX9_advance_27 rfl ?_
          refine z_getM C dX9_advance_28 fl_X9_206 (by first | assumption | ((repeat (first | assumption | exact va_up_self _ _ _ | refine (va_up_ne _ _ (by first | assumption | exact hA.ne (by decide) | exact hA.ne (by omega))).trans ?_)); done)) rfl (by first | assumption | ((repeat (first | assumption | exact va_up_self _ _ _ | rewrite [va_up_ne _ _ (by decide)])); (first | done | exact rfl))) ?_
          refine z_iconst C dX9_advance_31 ?_
          refine z_iaddZ C dX9_advance_32 ?_
          refine z_putM C dX9_advance_33 fl_X9_206 (by first | assumption | ((repeat (first | assumption | exact va_up_self _ _ _ | refine (va_up_ne _ _ (by first | assumption | exact hA.ne (by decide) | exact hA.ne (by omega))).trans ?_)); done)) rfl ?_
          refine z_goto (tgt := 0) C dX9_advance_36 (by decide) ?_
          exact nxt (.inr (by omega))
  exact skip 500 M F e0 mF.rf hO mKp.rf he re (by omega) rfl

