/-! the law's own fraction of a chance -/
theorem zbd_up {k : Nat} {T : Int} (h : 1 ≤ T ∧ T ≤ zbd k) : 1 ≤ T ∧ T ≤ zbd (k + 1) := by
  show 1 ≤ T ∧ T ≤ zbd k * 54000
  omega
theorem zifc {P Q : Prop} [Decidable P] [Decidable Q] (h : P ↔ Q) : (if P then (1 : Int) else 0) = if Q then 1 else 0 := by
  by_cases hP : P
  · rw [if_pos hP, if_pos (h.mp hP)]
  · rw [if_neg hP, if_neg (fun w => hP (h.mpr w))]
def zpw : Nat → Int
  | 0 => 1
  | t + 1 => 2 * zpw t
set_option maxHeartbeats 4000000 in
set_option maxRecDepth 100000 in
theorem k_L_isFraction {l : Launch} {γ : zG} {M : zM} {U : Nat → Nat} {Y : zSys} {rr bb pp ss : Int} (hc : hFc γ M U Y) (hk : yOk Y) (hrr : 0 ≤ rr ∧ rr < sRn (yS Y)) (hcv : zCv bb pp) (hss : zSy ss) :
    zCon l γ yL_isFraction cL_isFraction 22 (some .boolean) [.ref (U 0), .int (zi rr), .int (zi bb), .int (zi pp), .int (zi ss)] M 6 230 2 45 (fun v' M' => v' = some (.int (zi 1)) ∧ hFc γ M' U Y) (fun _ _ => False) := by
  have hs : 0 ≤ ss ∧ ss < 27 := hss
  have hcR := (hk.1.2.2 rr.toNat (by omega)).1.2.2.1
  have hme := (hk.1.2.2 rr.toNat (by omega)).1.1
  have hfo := zFo_rng bb pp
  have hls := zlv_rng (rC (sRd (yS Y) rr.toNat)) bb pp ss
  have hbb := hcv.zb
  have hpp := hcv.zp
  unfold zR at hbb hpp
  have hZ := zcf_rng hcR (b := bb) (p := pp) (s := ss) (me := (rMe (sRd (yS Y) rr.toNat))) hs
  have hTB := zcT_rng hcR (b := bb) (p := pp) (s := ss) (me := (rMe (sRd (yS Y) rr.toNat))) hs
  obtain ⟨fs0, hM0⟩ := hc.ok0
  refine zEnter [some (.ref (U 0)), some (.int (zi rr)), some (.int (zi bb)), some (.int (zi pp)), some (.int (zi ss)), none, none, none, none, none, none, none, none, none, none, none, none, none, none, none, none, none] (by decide +kernel) rfl rfl (Nat.le_of_ble_eq_true rfl) ?_
  intro p e s m args below meth c Q C hin hQ
  have j392 : ∀ (q : Nat) (T B E fo dv nu de : Int), T = (zcf (rC (sRd (yS Y) rr.toNat)) bb pp ss (rMe (sRd (yS Y) rr.toNat))).1 → B = (zcf (rC (sRd (yS Y) rr.toNat)) bb pp ss (rMe (sRd (yS Y) rr.toNat))).2.1 → E = (zcf (rC (sRd (yS Y) rr.toNat)) bb pp ss (rMe (sRd (yS Y) rr.toNat))).2.2 → 0 ≤ E ∧ E ≤ 3 → dv = zgd T B → nu = zcT (rC (sRd (yS Y) rr.toNat)) bb pp ss (rMe (sRd (yS Y) rr.toNat)) → de = zcB (rC (sRd (yS Y) rr.toNat)) bb pp ss (rMe (sRd (yS Y) rr.toNat)) → ∀ (t : Nat) (M3 : zM) (i d : Int), hFc γ M3 U Y → 0 ≤ i ∧ i + t = 62 → 1 ≤ d ∧ d < 18014398509481984 → i + zbt t d de = zbt 62 nu de → 4611686018427387904 ≤ d * zpw t → zAW p l e { frames := 6, cells := 2, slots := 45, locals := 230 } s m args below meth c γ 22 Q M3 1 27 392 [some (.ref (U 0)), some (.int (zi rr)), some (.int (zi bb)), some (.int (zi pp)), some (.int (zi ss)), some (.ref q), some (.long (zl T)), none, some (.long (zl B)), none, some (.int (zi E)), some (.int (zi fo)), some (.int (zi (rMe (sRd (yS Y) rr.toNat)))), some (.long (zl dv)), none, some (.long (zl nu)), none, some (.long (zl de)), none, some (.int (zi i)), some (.long (zl d)), none] [] := by
    intro q T B E fo dv nu de hT hB hE hEr hdv hnu hde
    have hZ1 := hZ
    rw [← hT, ← hB] at hZ1
    have hTB1 := hTB
    rw [← hnu, ← hde] at hTB1
    have hN : nu = T / dv := by
      rw [hnu, hdv, hT, hB]
      rfl
    have hDe : de = B / dv := by
      rw [hde, hdv, hT, hB]
      rfl
    have hdp := zgd_pos (y := B) (show 0 < T by omega)
    rw [← hdv] at hdp
    have hdl : dv ≤ T := by
      rw [hdv]
      exact Int.le_of_dvd (by omega) (zgd_dv T B).1
    have hnn := zddiv_l (a := nu) (b := de) (by omega) (by omega)
    have j414 : ∀ (M3 : zM) (i d : Int), hFc γ M3 U Y → 0 ≤ i ∧ i ≤ 62 → i = zbt 62 nu de → zAW p l e { frames := 6, cells := 2, slots := 45, locals := 230 } s m args below meth c γ 22 Q M3 1 27 414 [some (.ref (U 0)), some (.int (zi rr)), some (.int (zi bb)), some (.int (zi pp)), some (.int (zi ss)), some (.ref q), some (.long (zl T)), none, some (.long (zl B)), none, some (.int (zi E)), some (.int (zi fo)), some (.int (zi (rMe (sRd (yS Y) rr.toNat)))), some (.long (zl dv)), none, some (.long (zl nu)), none, some (.long (zl de)), none, some (.int (zi i)), some (.long (zl d)), none] [] := by
      intro M3 i d hO hi hiz
      obtain ⟨fs1, hM1⟩ := hO.ok0
      refine z_lload C dL_isFraction_414 rfl ?_
      refine z_lload C dL_isFraction_416 rfl ?_
      refine z_lload C dL_isFraction_418 rfl ?_
      refine z_ldivZ C dL_isFraction_420 (by unfold zZ; omega) (by unfold zZ; omega) ?_
      refine z_lcmpZ C dL_isFraction_421 (by unfold zZ; omega) (by unfold zZ; omega) ?_
      rw [← hN, zcmp_self]
      refine z_if_neZ (tgt := 488) C dL_isFraction_422 (by decide) (by omega) (fun h422 => ?_) (fun h422 => ?_)
      · exact absurd rfl h422
      · refine z_lload C dL_isFraction_425 rfl ?_
        refine z_lload C dL_isFraction_427 rfl ?_
        refine z_lload C dL_isFraction_429 rfl ?_
        refine z_ldivZ C dL_isFraction_431 (by unfold zZ; omega) (by unfold zZ; omega) ?_
        refine z_lcmpZ C dL_isFraction_432 (by unfold zZ; omega) (by unfold zZ; omega) ?_
        rw [← hDe, zcmp_self]
        refine z_if_neZ (tgt := 488) C dL_isFraction_433 (by decide) (by omega) (fun h433 => ?_) (fun h433 => ?_)
        · exact absurd rfl h433
        · refine z_aload_n C dL_isFraction_436 rfl ?_
          refine z_iload_n C dL_isFraction_437 rfl ?_
          refine z_iload_n C dL_isFraction_438 rfl ?_
          refine z_iload_n C dL_isFraction_439 rfl ?_
          refine z_iload C dL_isFraction_440 rfl ?_
          refine z_callV C dL_isFraction_442 lk_L_210 mw_X8_escapes mi_X8_escapes ms_X8_escapes rfl hM1 (k_I_escapes hO hk hrr hcv hss) rfl (by first | decide | exact Nat.le_of_ble_eq_true rfl) ⟨by decide, by decide, by decide, by decide⟩ (fun _ _ h => False.elim h) (fun v M' hp => ?_)
          obtain ⟨hO2, -, hv⟩ := hp
          obtain rfl : v = some (.int (zi E)) := by rw [hE]; exact hv
          have hO3 := hO2.2
          obtain ⟨fs2, hM2⟩ := hO3.ok0
          refine z_iload C dL_isFraction_445 rfl ?_
          refine z_icmp_neZ (tgt := 488) C dL_isFraction_447 (by decide) (by omega) (by omega) (fun h447 => ?_) (fun h447 => ?_)
          · exact absurd rfl h447
          · refine z_aload_n C dL_isFraction_450 rfl ?_
            refine z_iload_n C dL_isFraction_451 rfl ?_
            refine z_iload_n C dL_isFraction_452 rfl ?_
            refine z_iload_n C dL_isFraction_453 rfl ?_
            refine z_iload C dL_isFraction_454 rfl ?_
            refine z_callV C dL_isFraction_456 lk_L_213 mw_X8_codeLength mi_X8_codeLength ms_X8_codeLength rfl hM2 (k_I_codeLength hO3 hk hrr hcv hss) rfl (by first | decide | exact Nat.le_of_ble_eq_true rfl) ⟨by decide, by decide, by decide, by decide⟩ (fun _ _ h => False.elim h) (fun v M' hp => ?_)
            obtain ⟨hO4, -, hv⟩ := hp
            obtain rfl : v = some (.int (zi i)) := by rw [hiz, hnu, hde]; exact hv
            have hO5 := hO4.2
            obtain ⟨fs3, hM3⟩ := hO5.ok0
            refine z_iload C dL_isFraction_459 rfl ?_
            refine z_icmp_neZ (tgt := 488) C dL_isFraction_461 (by decide) (by omega) (by omega) (fun h461 => ?_) (fun h461 => ?_)
            · exact absurd rfl h461
            · refine z_aload_n C dL_isFraction_464 rfl ?_
              refine z_iload_n C dL_isFraction_465 rfl ?_
              refine z_iload_n C dL_isFraction_466 rfl ?_
              refine z_iload_n C dL_isFraction_467 rfl ?_
              refine z_iload C dL_isFraction_468 rfl ?_
              refine z_callV C dL_isFraction_470 lk_L_216 mw_X8_probability mi_X8_probability ms_X8_probability rfl hM3 (k_I_probability hO5 hk hrr hcv hss) rfl (by first | decide | exact Nat.le_of_ble_eq_true rfl) ⟨by decide, by decide, by decide, by decide⟩ (fun _ _ h => False.elim h) (fun v M' hp => ?_)
              obtain ⟨hO6, -, hv⟩ := hp
              obtain rfl : v = some (.double (FP.ddiv (FP.l2d (zl nu)) (FP.l2d (zl de)))) := by rw [hnu, hde]; exact hv
              refine z_lload C dL_isFraction_473 rfl ?_
              refine z_l2d C dL_isFraction_475 ?_
              refine z_lload C dL_isFraction_476 rfl ?_
              refine z_l2d C dL_isFraction_478 ?_
              refine z_ddiv C dL_isFraction_479 hnn ?_
              refine z_dcmp0 C dL_isFraction_480 hnn ?_
              refine z_if_neZ (tgt := 488) C dL_isFraction_481 (by decide) (by omega) (fun h481 => ?_) (fun h481 => ?_)
              · exact absurd rfl h481
              · refine z_iconst C dL_isFraction_484 ?_
                refine z_goto (tgt := 489) C dL_isFraction_485 (by decide) ?_
                refine z_iret C hQ dL_isFraction_489 rfl (by decide) (by decide) ?_
                exact ⟨rfl, hO6.2⟩
    intro t
    induction t with
    | zero =>
      intro M3 i d hO hi hd hz hw
      have hw : 4611686018427387904 ≤ d * 1 := hw
      exact absurd hd (by omega)
    | succ t ih =>
      intro M3 i d hO hi hd hz hw
      have hw : 4611686018427387904 ≤ d * (2 * zpw t) := hw
      rw [← Int.mul_assoc] at hw
      have hc1 := zcmp_rng d de
      have hc2 := zcmp_ge d de
      have hz : i + (if d < de then zbt t (d * 2) de + 1 else 0) = zbt 62 nu de := hz
      refine z_lload C dL_isFraction_392 rfl ?_
      refine z_lload C dL_isFraction_394 rfl ?_
      refine z_lcmpZ C dL_isFraction_396 (by unfold zZ; omega) (by unfold zZ; omega) ?_
      refine z_if_geZ (tgt := 414) C dL_isFraction_397 (by decide) (by omega) (fun h397 => ?_) (fun h397 => ?_)
      · rw [if_neg (by omega)] at hz
        exact j414 M3 i d hO (by omega) (by omega)
      · refine z_iincZ C dL_isFraction_400 rfl (by decide) ?_
        refine z_lload C dL_isFraction_403 rfl ?_
        refine z_ldc2 C dL_isFraction_405 t5_230 ?_
        rw [show (2 : Int64) = zl 2 by rfl]
        refine z_lmulZ C dL_isFraction_408 ?_
        refine z_lstore C dL_isFraction_409 (by decide) ?_
        refine z_goto (tgt := 392) C dL_isFraction_411 (by decide) ?_
        rw [if_pos (by omega)] at hz
        exact ih M3 (i + 1) (d * 2) hO (by omega) (by omega) (by omega) hw
  have j354 : ∀ (M1 : zM) (q : Nat) (T B E fo : Int) (o13 o14 o15 o16 o17 o18 o19 o20 o21 : Option Value), hFc γ M1 U Y → T = (zcf (rC (sRd (yS Y) rr.toNat)) bb pp ss (rMe (sRd (yS Y) rr.toNat))).1 → B = (zcf (rC (sRd (yS Y) rr.toNat)) bb pp ss (rMe (sRd (yS Y) rr.toNat))).2.1 → E = (zcf (rC (sRd (yS Y) rr.toNat)) bb pp ss (rMe (sRd (yS Y) rr.toNat))).2.2 → 0 ≤ E ∧ E ≤ 3 → zAW p l e { frames := 6, cells := 2, slots := 45, locals := 230 } s m args below meth c γ 22 Q M1 1 27 354 [some (.ref (U 0)), some (.int (zi rr)), some (.int (zi bb)), some (.int (zi pp)), some (.int (zi ss)), some (.ref q), some (.long (zl T)), none, some (.long (zl B)), none, some (.int (zi E)), some (.int (zi fo)), some (.int (zi (rMe (sRd (yS Y) rr.toNat)))), o13, o14, o15, o16, o17, o18, o19, o20, o21] [] := by
    intro M1 q T B E fo o13 o14 o15 o16 o17 o18 o19 o20 o21 hO hT hB hE hEr
    have hZ1 := hZ
    rw [← hT, ← hB] at hZ1
    obtain ⟨fs1, hM1⟩ := hO.ok0
    refine z_lload C dL_isFraction_354 rfl ?_
    refine z_lload C dL_isFraction_356 rfl ?_
    refine z_callS C dL_isFraction_358 lk_L_197 mw_L_divisor mst_L_divisor (k_L_divisor (by omega) (by omega)) rfl (by first | decide | exact Nat.le_of_ble_eq_true rfl) ⟨by decide, by decide, by decide, by decide⟩ (fun _ _ h => False.elim h) (fun v M' hp => ?_)
    obtain ⟨rfl, rfl⟩ := hp
    refine z_lstore C dL_isFraction_361 (by decide) ?_
    refine z_aload_n C dL_isFraction_363 rfl ?_
    refine z_iload_n C dL_isFraction_364 rfl ?_
    refine z_iload_n C dL_isFraction_365 rfl ?_
    refine z_iload_n C dL_isFraction_366 rfl ?_
    refine z_iload C dL_isFraction_367 rfl ?_
    refine z_callV C dL_isFraction_369 lk_L_201 mw_X8_numerator mi_X8_numerator ms_X8_numerator rfl hM1 (k_I_numerator hO hk hrr hcv hss) rfl (by first | decide | exact Nat.le_of_ble_eq_true rfl) ⟨by decide, by decide, by decide, by decide⟩ (fun _ _ h => False.elim h) (fun v M' hp => ?_)
    obtain ⟨hO2, -, hv⟩ := hp
    obtain rfl : v = some (.long (zl (zcT (rC (sRd (yS Y) rr.toNat)) bb pp ss (rMe (sRd (yS Y) rr.toNat))))) := hv
    have hO3 := hO2.2
    obtain ⟨fs2, hM2⟩ := hO3.ok0
    refine z_lstore C dL_isFraction_372 (by decide) ?_
    refine z_aload_n C dL_isFraction_374 rfl ?_
    refine z_iload_n C dL_isFraction_375 rfl ?_
    refine z_iload_n C dL_isFraction_376 rfl ?_
    refine z_iload_n C dL_isFraction_377 rfl ?_
    refine z_iload C dL_isFraction_378 rfl ?_
    refine z_callV C dL_isFraction_380 lk_L_205 mw_X8_denominator mi_X8_denominator ms_X8_denominator rfl hM2 (k_I_denominator hO3 hk hrr hcv hss) rfl (by first | decide | exact Nat.le_of_ble_eq_true rfl) ⟨by decide, by decide, by decide, by decide⟩ (fun _ _ h => False.elim h) (fun v M' hp => ?_)
    obtain ⟨hO4, -, hv⟩ := hp
    obtain rfl : v = some (.long (zl (zcB (rC (sRd (yS Y) rr.toNat)) bb pp ss (rMe (sRd (yS Y) rr.toNat))))) := hv
    refine z_lstore C dL_isFraction_383 (by decide) ?_
    refine z_iconst C dL_isFraction_385 ?_
    refine z_istore C dL_isFraction_386 (by decide) ?_
    refine z_lload C dL_isFraction_388 rfl ?_
    refine z_lstore C dL_isFraction_390 (by decide) ?_
    exact j392 q T B E fo _ _ _ hT hB hE hEr rfl rfl rfl 62 _ 0 _ hO4.2 (by omega) (by omega) (by omega) (by rw [show zpw 62 = 4611686018427387904 by rfl]; omega)
  have hcq : ∀ (q : Nat), M q = none → ∀ x, hFc γ (va_up M q x) U Y := fun q hq x => hc.up (hc.no hq)
  have hMq : ∀ (q : Nat), M q = none → ∀ x, va_up M q x (U 0) = some (.inr (8, fs0)) := fun q hq x => (va_up_ne _ _ (hc.no hq 0 (by decide))).trans hM0
  have kco : ∀ (q : Nat) (hq : M q = none) (x : Option va_E) (oo s : Int), 0 ≤ oo ∧ oo ≤ zFo bb pp → 0 ≤ s ∧ s < 27 → _ := fun q hq x oo s ho hs' => k_L_count (l := l) (M := va_up M q x) (oo := oo) (ss := s) (hcq q hq x) hk hrr hcv ho hs'
  have j322 : ∀ (q : Nat), M q = none → ∀ (f : Nat → Int32) (T B E : Int) (o15 o16 o17 o18 o19 o20 o21 : Option Value), (∀ j : Nat, j < 27 → f j = (zi (if -1 < zlv (rC (sRd (yS Y) rr.toNat)) bb pp (j : Int) then 1 else 0))) → T = (zcf (rC (sRd (yS Y) rr.toNat)) bb pp ss (rMe (sRd (yS Y) rr.toNat))).1 → B * zxn (rC (sRd (yS Y) rr.toNat)) bb pp (-1) = (zcf (rC (sRd (yS Y) rr.toNat)) bb pp ss (rMe (sRd (yS Y) rr.toNat))).2.1 → E = (zcf (rC (sRd (yS Y) rr.toNat)) bb pp ss (rMe (sRd (yS Y) rr.toNat))).2.2 → 0 ≤ E ∧ E ≤ 3 → ∀ (t y : Nat), y + t = 27 → zAW p l e { frames := 6, cells := 2, slots := 45, locals := 230 } s m args below meth c γ 22 Q (va_up M q (some (zaZ γ 27 f))) 1 27 322 [some (.ref (U 0)), some (.int (zi rr)), some (.int (zi bb)), some (.int (zi pp)), some (.int (zi ss)), some (.ref q), some (.long (zl T)), none, some (.long (zl B)), none, some (.int (zi E)), some (.int (zi 0)), some (.int (zi (rMe (sRd (yS Y) rr.toNat)))), some (.int (zi (zsum (zvG (rC (sRd (yS Y) rr.toNat)) bb pp (-1)) 0 y))), some (.int (zi (y : Int))), o15, o16, o17, o18, o19, o20, o21] [] := by
    intro q hq f T B E o15 o16 o17 o18 o19 o20 o21 hf hT hB hE hEr t
    induction t with
    | zero =>
      intro y hst
      have hzr := zxn_rng (rC (sRd (yS Y) rr.toNat)) bb pp (-1)
      have e27 : zsum (zvG (rC (sRd (yS Y) rr.toNat)) bb pp (-1)) 0 y = zxn (rC (sRd (yS Y) rr.toNat)) bb pp (-1) := by
        rw [show y = 27 by omega]
        rfl
      rw [e27]
      refine z_iload C dL_isFraction_322 rfl ?_
      refine z_bipush C dL_isFraction_324 (by decide) ?_
      refine z_icmp_geZ (tgt := 346) C dL_isFraction_326 (by decide) (by omega) (by omega) (fun h326 => ?_) (fun h326 => ?_)
      · refine z_lload C dL_isFraction_346 rfl ?_
        refine z_iload C dL_isFraction_348 rfl ?_
        refine z_i2lZ C dL_isFraction_350 (by unfold zR; omega) ?_
        refine z_lmulZ C dL_isFraction_351 ?_
        refine z_lstore C dL_isFraction_352 (by decide) ?_
        exact j354 _ q T _ E 0 _ _ _ _ _ _ _ _ _ (hcq q hq _) hT hB hE hEr
      · exact absurd h326 (by omega)
    | succ t ih =>
      intro y hst
      have hM : va_up M q (some (zaZ γ 27 f)) q = some (zaZ γ 27 f) := va_up_self _ _ _
      have h1 := zsum_nn (f := zvG (rC (sRd (yS Y) rr.toNat)) bb pp (-1)) (lo := 0) (t := y) (fun i _ => (zvG_rng _ _ _ _ _).1)
      have h2 := zsum_le (f := zvG (rC (sRd (yS Y) rr.toNat)) bb pp (-1)) (lo := 0) (b := 1) (t := y) (fun i _ => (zvG_rng _ _ _ _ _).2)
      have hlj := zlv_rng (rC (sRd (yS Y) rr.toNat)) bb pp (y : Int)
      have e1 : zsum (zvG (rC (sRd (yS Y) rr.toNat)) bb pp (-1)) 0 (y + 1) = zsum (zvG (rC (sRd (yS Y) rr.toNat)) bb pp (-1)) 0 y + zvG (rC (sRd (yS Y) rr.toNat)) bb pp (-1) (y : Int) := by
        show zsum (zvG (rC (sRd (yS Y) rr.toNat)) bb pp (-1)) 0 y + zvG (rC (sRd (yS Y) rr.toNat)) bb pp (-1) (0 + (y : Int)) = _
        rw [Int.zero_add]
      refine z_iload C dL_isFraction_322 rfl ?_
      refine z_bipush C dL_isFraction_324 (by decide) ?_
      refine z_icmp_geZ (tgt := 346) C dL_isFraction_326 (by decide) (by omega) (by omega) (fun h326 => ?_) (fun h326 => ?_)
      · exact absurd h326 (by omega)
      · refine z_aload C dL_isFraction_329 rfl ?_
        refine z_iload C dL_isFraction_331 rfl ?_
        refine z_aldZ C dL_isFraction_333 hM (by omega) (by omega) ?_
        rw [Int.toNat_natCast, hf y (by omega)]
        obtain ⟨g, hg⟩ : ∃ g : Int, g = if -1 < zlv (rC (sRd (yS Y) rr.toNat)) bb pp (y : Int) then 1 else 0 := ⟨_, rfl⟩
        rw [← hg]
        have hgr : (g = 1 ∧ -1 < zlv (rC (sRd (yS Y) rr.toNat)) bb pp (y : Int)) ∨ (g = 0 ∧ ¬ -1 < zlv (rC (sRd (yS Y) rr.toNat)) bb pp (y : Int)) := by
          rw [hg]
          split
          · exact .inl ⟨rfl, by assumption⟩
          · exact .inr ⟨rfl, by assumption⟩
        refine z_if_neZ (tgt := 340) C dL_isFraction_334 (by decide) (by omega) (fun h334 => ?_) (fun h334 => ?_)
        · refine z_iincZ C dL_isFraction_340 rfl (by decide) ?_
          refine z_goto (tgt := 322) C dL_isFraction_343 (by decide) ?_
          have e2 : zvG (rC (sRd (yS Y) rr.toNat)) bb pp (-1) (y : Int) = 0 := if_neg (by omega)
          rw [e2, Int.add_zero] at e1
          have q9 := ih (y + 1) (by omega)
          rw [e1] at q9
          exact q9
        · refine z_iincZ C dL_isFraction_337 rfl (by decide) ?_
          refine z_iincZ C dL_isFraction_340 rfl (by decide) ?_
          refine z_goto (tgt := 322) C dL_isFraction_343 (by decide) ?_
          have e2 : zvG (rC (sRd (yS Y) rr.toNat)) bb pp (-1) (y : Int) = 1 := if_pos (by omega)
          rw [e2] at e1
          have q9 := ih (y + 1) (by omega)
          rw [e1] at q9
          exact q9
  have j44f : ∀ (q : Nat), M q = none → ∀ (f : Nat → Int32) (T B E o0 : Int) (o14 o15 o16 o17 o18 o19 o20 o21 : Option Value), -1 ≤ o0 ∧ o0 ≤ 2 → T = (zcf (rC (sRd (yS Y) rr.toNat)) bb pp ss (rMe (sRd (yS Y) rr.toNat))).1 → B = (zcf (rC (sRd (yS Y) rr.toNat)) bb pp ss (rMe (sRd (yS Y) rr.toNat))).2.1 → E = (zcf (rC (sRd (yS Y) rr.toNat)) bb pp ss (rMe (sRd (yS Y) rr.toNat))).2.2 → 0 ≤ E ∧ E ≤ 3 → zAW p l e { frames := 6, cells := 2, slots := 45, locals := 230 } s m args below meth c γ 22 Q (va_up M q (some (zaZ γ 27 f))) 1 27 44 [some (.ref (U 0)), some (.int (zi rr)), some (.int (zi bb)), some (.int (zi pp)), some (.int (zi ss)), some (.ref q), some (.long (zl T)), none, some (.long (zl B)), none, some (.int (zi E)), some (.int (zi 1)), some (.int (zi (rMe (sRd (yS Y) rr.toNat)))), some (.int (zi o0)), o14, o15, o16, o17, o18, o19, o20, o21] [] := by
    intro q hq f T B E o0 o14 o15 o16 o17 o18 o19 o20 o21 ho hT hB hE hEr
    refine z_iload C dL_isFraction_44 rfl ?_
    refine z_if_ltZ (tgt := 311) C dL_isFraction_46 (by decide) (by omega) (fun h46 => ?_) (fun h46 => ?_)
    · refine z_iload C dL_isFraction_311 rfl ?_
      refine z_if_neZ (tgt := 354) C dL_isFraction_313 (by decide) (by omega) (fun h313 => ?_) (fun h313 => ?_)
      · exact j354 _ q T B E 1 _ _ _ _ _ _ _ _ _ (hcq q hq _) hT hB hE hEr
      · exact absurd h313 (by omega)
    · refine z_iload C dL_isFraction_49 rfl ?_
      refine z_if_neZ (tgt := 311) C dL_isFraction_51 (by decide) (by omega) (fun h51 => ?_) (fun h51 => ?_)
      · refine z_iload C dL_isFraction_311 rfl ?_
        refine z_if_neZ (tgt := 354) C dL_isFraction_313 (by decide) (by omega) (fun h313 => ?_) (fun h313 => ?_)
        · exact j354 _ q T B E 1 _ _ _ _ _ _ _ _ _ (hcq q hq _) hT hB hE hEr
        · exact absurd h313 (by omega)
      · exact absurd h51 (by omega)
  have j44 : ∀ (q : Nat), M q = none → ∀ (t kk : Nat) (f : Nat → Int32) (T B E : Int) (o14 o15 o16 o17 o18 o19 o20 o21 : Option Value), (t : Int) + kk = zFo bb pp + 1 → 1 ≤ T ∧ T ≤ zbd kk → 1 ≤ B ∧ B ≤ zbd kk → 0 ≤ E ∧ E ≤ kk → zlv (rC (sRd (yS Y) rr.toNat)) bb pp ss < t → (∀ j : Nat, j < 27 → f j = (zi (if (t : Int) - 1 < zlv (rC (sRd (yS Y) rr.toNat)) bb pp (j : Int) then 1 else 0))) → zch (rC (sRd (yS Y) rr.toNat)) bb pp ss (rMe (sRd (yS Y) rr.toNat)) t T B E = (zcf (rC (sRd (yS Y) rr.toNat)) bb pp ss (rMe (sRd (yS Y) rr.toNat))) → zAW p l e { frames := 6, cells := 2, slots := 45, locals := 230 } s m args below meth c γ 22 Q (va_up M q (some (zaZ γ 27 f))) 1 27 44 [some (.ref (U 0)), some (.int (zi rr)), some (.int (zi bb)), some (.int (zi pp)), some (.int (zi ss)), some (.ref q), some (.long (zl T)), none, some (.long (zl B)), none, some (.int (zi E)), some (.int (zi 0)), some (.int (zi (rMe (sRd (yS Y) rr.toNat)))), some (.int (zi ((t : Int) - 1))), o14, o15, o16, o17, o18, o19, o20, o21] [] := by
    intro q hq t
    induction t with
    | zero =>
      intro kk f T B E o14 o15 o16 o17 o18 o19 o20 o21 hkk hT hB hE hl hf hz
      have hz : (T, B * zxn (rC (sRd (yS Y) rr.toNat)) bb pp (-1), E) = (zcf (rC (sRd (yS Y) rr.toNat)) bb pp ss (rMe (sRd (yS Y) rr.toNat))) := hz
      rw [show ((0 : Nat) : Int) - 1 = -1 by omega] at hf ⊢
      refine z_iload C dL_isFraction_44 rfl ?_
      refine z_if_ltZ (tgt := 311) C dL_isFraction_46 (by decide) (by omega) (fun h46 => ?_) (fun h46 => ?_)
      · refine z_iload C dL_isFraction_311 rfl ?_
        refine z_if_neZ (tgt := 354) C dL_isFraction_313 (by decide) (by omega) (fun h313 => ?_) (fun h313 => ?_)
        · exact absurd rfl h313
        · refine z_iconst C dL_isFraction_316 ?_
          refine z_istore C dL_isFraction_317 (by decide) ?_
          refine z_iconst C dL_isFraction_319 ?_
          refine z_istore C dL_isFraction_320 (by decide) ?_
          exact j322 q hq f T B E _ _ _ _ _ _ _ hf (by rw [← hz]) (by rw [← hz]) (by rw [← hz]) (by omega) 27 0 rfl
      · exact absurd h46 (by omega)
    | succ t ih =>
      intro kk f T B E o14 o15 o16 o17 o18 o19 o20 o21 hkk hT hB hE hl hf hz
      rw [show ((t + 1 : Nat) : Int) - 1 = (t : Int) by omega] at hf ⊢
      have ho : 0 ≤ (t : Int) ∧ (t : Int) ≤ zFo bb pp := by omega
      have hM : ∀ f', va_up M q (some (zaZ γ 27 f')) q = some (zaZ γ 27 f') := fun f' => va_up_self _ _ _
      have hcn := hcR (zCs (t : Int) bb pp + ss)
      have hxr := zxn_rng (rC (sRd (yS Y) rr.toNat)) bb pp (t : Int)
      have hsr := zxs_rng hcR bb pp ho.1
      have hge := fun (y : Int) (h : (rC (sRd (yS Y) rr.toNat)) (zCs (t : Int) bb pp + y) ≠ 0) => zlv_ge (c := (rC (sRd (yS Y) rr.toNat))) (b := bb) (p := pp) (s := y) ho h
      have hne := fun (y : Int) (h : (rC (sRd (yS Y) rr.toNat)) (zCs (t : Int) bb pp + y) = 0) => zlv_ne (c := (rC (sRd (yS Y) rr.toNat))) (b := bb) (p := pp) (s := y) ho.1 h
      have hbk := zbd_le kk (by omega)
      have hfac : (zxn (rC (sRd (yS Y) rr.toNat)) bb pp (t : Int)) ≠ 0 → 1 ≤ zxf (rMe (sRd (yS Y) rr.toNat)) (zxn (rC (sRd (yS Y) rr.toNat)) bb pp (t : Int)) ∧ zxf (rMe (sRd (yS Y) rr.toNat)) (zxn (rC (sRd (yS Y) rr.toNat)) bb pp (t : Int)) ≤ 54000 := fun h => by
        unfold zxf
        split <;> omega
      -- the exclusions
      have j272 : ∀ (T B E fo w16 : Int) (o14 o15 o18 o19 o20 o21 : Option Value), (∀ (f : Nat → Int32) (o17 : Option Value), (∀ j : Nat, j < 27 → f j = (zi (if (t : Int) - 1 < zlv (rC (sRd (yS Y) rr.toNat)) bb pp (j : Int) then 1 else 0))) → zAW p l e { frames := 6, cells := 2, slots := 45, locals := 230 } s m args below meth c γ 22 Q (va_up M q (some (zaZ γ 27 f))) 1 27 44 [some (.ref (U 0)), some (.int (zi rr)), some (.int (zi bb)), some (.int (zi pp)), some (.int (zi ss)), some (.ref q), some (.long (zl T)), none, some (.long (zl B)), none, some (.int (zi E)), some (.int (zi fo)), some (.int (zi (rMe (sRd (yS Y) rr.toNat)))), some (.int (zi ((t : Int) - 1))), o14, o15, some (.int (zi w16)), o17, o18, o19, o20, o21] []) → ∀ (tt y : Nat) (f : Nat → Int32), y + tt = 27 → (∀ j : Nat, j < 27 → f j = zi (if (t : Int) - (if j < y then 1 else 0) < zlv (rC (sRd (yS Y) rr.toNat)) bb pp (j : Int) then 1 else 0)) → zAW p l e { frames := 6, cells := 2, slots := 45, locals := 230 } s m args below meth c γ 22 Q (va_up M q (some (zaZ γ 27 f))) 1 27 272 [some (.ref (U 0)), some (.int (zi rr)), some (.int (zi bb)), some (.int (zi pp)), some (.int (zi ss)), some (.ref q), some (.long (zl T)), none, some (.long (zl B)), none, some (.int (zi E)), some (.int (zi fo)), some (.int (zi (rMe (sRd (yS Y) rr.toNat)))), some (.int (zi (t : Int))), o14, o15, some (.int (zi w16)), some (.int (zi (y : Int))), o18, o19, o20, o21] [] := by
        intro T B E fo w16 o14 o15 o18 o19 o20 o21 hk44 tt
        induction tt with
        | zero =>
          intro y f hy hf
          refine z_iload C dL_isFraction_272 rfl ?_
          refine z_bipush C dL_isFraction_274 (by decide) ?_
          refine z_icmp_geZ (tgt := 305) C dL_isFraction_276 (by decide) (by omega) (by omega) (fun h276 => ?_) (fun h276 => ?_)
          · refine z_iincZ C dL_isFraction_305 rfl (by decide) ?_
            refine z_goto (tgt := 44) C dL_isFraction_308 (by decide) ?_
            rw [show (t : Int) + -1 = (t : Int) - 1 by omega]
            exact hk44 f _ (fun j hj => by rw [hf j hj, if_pos (show j < y by omega)])
          · exact absurd h276 (by omega)
        | succ tt ih2 =>
          intro y f hy hf
          have hcy := hcR (zCs (t : Int) bb pp + (y : Int))
          have hgy := hge (y : Int)
          have hny := hne (y : Int)
          refine z_iload C dL_isFraction_272 rfl ?_
          refine z_bipush C dL_isFraction_274 (by decide) ?_
          refine z_icmp_geZ (tgt := 305) C dL_isFraction_276 (by decide) (by omega) (by omega) (fun h276 => ?_) (fun h276 => ?_)
          · exact absurd h276 (by omega)
          · refine z_aload_n C dL_isFraction_279 rfl ?_
            refine z_iload_n C dL_isFraction_280 rfl ?_
            refine z_iload C dL_isFraction_281 rfl ?_
            refine z_iload_n C dL_isFraction_283 rfl ?_
            refine z_iload_n C dL_isFraction_284 rfl ?_
            refine z_iload C dL_isFraction_285 rfl ?_
            refine z_callS C dL_isFraction_287 lk_L_171 mw_L_count mst_L_count (kco q hq _ (t : Int) (y : Int) ho (by omega)) rfl (by first | decide | exact Nat.le_of_ble_eq_true rfl) ⟨by decide, by decide, by decide, by decide⟩ (fun _ _ h => False.elim h) (fun v M' hp => ?_)
            obtain ⟨rfl, rfl⟩ := hp
            refine z_if_leZ (tgt := 299) C dL_isFraction_290 (by decide) (by omega) (fun h290 => ?_) (fun h290 => ?_)
            · refine z_iincZ C dL_isFraction_299 rfl (by decide) ?_
              refine z_goto (tgt := 272) C dL_isFraction_302 (by decide) ?_
              have q9 := ih2 (y + 1) f (by omega) (fun j hj => by
                rw [hf j hj]
                by_cases e : j = y
                · rw [e]
                  have h9 := hny (by omega)
                  have i1 : (if y < y then (1 : Int) else 0) = 0 := if_neg (by omega)
                  have i2 : (if y < y + 1 then (1 : Int) else 0) = 1 := if_pos (by omega)
                  rw [i1, i2]
                  exact congrArg zi (zifc (by omega))
                · by_cases e2 : j < y
                  · rw [if_pos e2, if_pos (show j < y + 1 by omega)]
                  · rw [if_neg e2, if_neg (show ¬ j < y + 1 by omega)])
              exact q9
            · refine z_aload C dL_isFraction_293 rfl ?_
              refine z_iload C dL_isFraction_295 rfl ?_
              refine z_iconst C dL_isFraction_297 ?_
              refine z_astZ C dL_isFraction_298 (hM _) (by omega) (by omega) ?_
              rw [va_up_tw, Int.toNat_natCast]
              refine z_iincZ C dL_isFraction_299 rfl (by decide) ?_
              refine z_goto (tgt := 272) C dL_isFraction_302 (by decide) ?_
              have q9 := ih2 (y + 1) (va_up f y (vp_nar .boolean (zi 1))) (by omega) (fun j hj => by
                by_cases e : j = y
                · rw [e, va_up_self, if_pos (show y < y + 1 by omega), if_pos (by have := hgy (by omega); omega)]
                  rfl
                · rw [va_up_ne _ _ e, hf j hj]
                  by_cases e2 : j < y
                  · rw [if_pos e2, if_pos (show j < y + 1 by omega)]
                  · rw [if_neg e2, if_neg (show ¬ j < y + 1 by omega)])
              exact q9
      have j269 : ∀ (T B E fo w16 : Int) (o14 o15 o17 o18 o19 o20 o21 : Option Value), (∀ (f : Nat → Int32) (o17 : Option Value), (∀ j : Nat, j < 27 → f j = (zi (if (t : Int) - 1 < zlv (rC (sRd (yS Y) rr.toNat)) bb pp (j : Int) then 1 else 0))) → zAW p l e { frames := 6, cells := 2, slots := 45, locals := 230 } s m args below meth c γ 22 Q (va_up M q (some (zaZ γ 27 f))) 1 27 44 [some (.ref (U 0)), some (.int (zi rr)), some (.int (zi bb)), some (.int (zi pp)), some (.int (zi ss)), some (.ref q), some (.long (zl T)), none, some (.long (zl B)), none, some (.int (zi E)), some (.int (zi fo)), some (.int (zi (rMe (sRd (yS Y) rr.toNat)))), some (.int (zi ((t : Int) - 1))), o14, o15, some (.int (zi w16)), o17, o18, o19, o20, o21] []) → zAW p l e { frames := 6, cells := 2, slots := 45, locals := 230 } s m args below meth c γ 22 Q (va_up M q (some (zaZ γ 27 f))) 1 27 269 [some (.ref (U 0)), some (.int (zi rr)), some (.int (zi bb)), some (.int (zi pp)), some (.int (zi ss)), some (.ref q), some (.long (zl T)), none, some (.long (zl B)), none, some (.int (zi E)), some (.int (zi fo)), some (.int (zi (rMe (sRd (yS Y) rr.toNat)))), some (.int (zi (t : Int))), o14, o15, some (.int (zi w16)), o17, o18, o19, o20, o21] [] := by
        intro T B E fo w16 o14 o15 o17 o18 o19 o20 o21 hk44
        refine z_iconst C dL_isFraction_269 ?_
        refine z_istore C dL_isFraction_270 (by decide) ?_
        exact j272 T B E fo w16 _ _ _ _ _ _ hk44 27 0 f rfl (fun j hj => by rw [hf j hj, if_neg (show ¬ j < 0 by omega), Int.sub_zero])
      -- the factors
      have j152 : ∀ (fo : Int) (o17 o18 o19 o20 o21 : Option Value), (fo = 1 ∧ zlv (rC (sRd (yS Y) rr.toNat)) bb pp ss = t) ∨ (fo = 0 ∧ zlv (rC (sRd (yS Y) rr.toNat)) bb pp ss < t) → zAW p l e { frames := 6, cells := 2, slots := 45, locals := 230 } s m args below meth c γ 22 Q (va_up M q (some (zaZ γ 27 f))) 1 27 152 [some (.ref (U 0)), some (.int (zi rr)), some (.int (zi bb)), some (.int (zi pp)), some (.int (zi ss)), some (.ref q), some (.long (zl T)), none, some (.long (zl B)), none, some (.int (zi E)), some (.int (zi fo)), some (.int (zi (rMe (sRd (yS Y) rr.toNat)))), some (.int (zi (t : Int))), some (.int (zi (zxs (rC (sRd (yS Y) rr.toNat)) bb pp (t : Int)))), some (.int (zi (zxn (rC (sRd (yS Y) rr.toNat)) bb pp (t : Int)))), some (.int (zi ((rC (sRd (yS Y) rr.toNat)) (zCs (t : Int) bb pp + ss)))), o17, o18, o19, o20, o21] [] := by
        intro fo o17 o18 o19 o20 o21 hfo2
        have hfr : 0 ≤ fo ∧ fo ≤ 1 := by omega
        have hpos := fun (h : zlv (rC (sRd (yS Y) rr.toNat)) bb pp ss = t) => zxn_pos (c := (rC (sRd (yS Y) rr.toNat))) (b := bb) (p := pp) (o := (t : Int)) hs h
        have j258 : ∀ (F G : Int), F = (if fo = 1 then zxg (rMe (sRd (yS Y) rr.toNat)) ((rC (sRd (yS Y) rr.toNat)) (zCs (t : Int) bb pp + ss)) else zxf (rMe (sRd (yS Y) rr.toNat)) (zxn (rC (sRd (yS Y) rr.toNat)) bb pp (t : Int))) → G = zxd (rMe (sRd (yS Y) rr.toNat)) (zxs (rC (sRd (yS Y) rr.toNat)) bb pp (t : Int)) (zxn (rC (sRd (yS Y) rr.toNat)) bb pp (t : Int)) → (zxn (rC (sRd (yS Y) rr.toNat)) bb pp (t : Int)) ≠ 0 → zAW p l e { frames := 6, cells := 2, slots := 45, locals := 230 } s m args below meth c γ 22 Q (va_up M q (some (zaZ γ 27 f))) 1 27 258 [some (.ref (U 0)), some (.int (zi rr)), some (.int (zi bb)), some (.int (zi pp)), some (.int (zi ss)), some (.ref q), some (.long (zl (T * F))), none, some (.long (zl B)), none, some (.int (zi E)), some (.int (zi fo)), some (.int (zi (rMe (sRd (yS Y) rr.toNat)))), some (.int (zi (t : Int))), some (.int (zi (zxs (rC (sRd (yS Y) rr.toNat)) bb pp (t : Int)))), some (.int (zi (zxn (rC (sRd (yS Y) rr.toNat)) bb pp (t : Int)))), some (.int (zi ((rC (sRd (yS Y) rr.toNat)) (zCs (t : Int) bb pp + ss)))), o17, o18, o19, o20, o21] [.long (zl G), .long (zl B)] := by
          intro F G hF hG hD0
          have hz1 := hz
          unfold zch at hz1
          rw [if_neg hD0] at hz1
          refine z_lmulZ C dL_isFraction_258 ?_
          refine z_lstore C dL_isFraction_259 (by decide) ?_
          refine z_iload C dL_isFraction_261 rfl ?_
          refine z_if_neZ (tgt := 269) C dL_isFraction_263 (by decide) (by omega) (fun h263 => ?_) (fun h263 => ?_)
          · have e1 : fo = 1 := by omega
            rw [if_pos (show zlv (rC (sRd (yS Y) rr.toNat)) bb pp ss = t by omega)] at hz1
            rw [if_pos e1] at hF
            exact j269 _ _ E fo _ _ _ _ _ _ _ _ (fun f o17 hf2 => by
              rw [e1]
              exact j44f q hq f _ _ E _ _ _ _ _ _ _ _ _ (by omega) (by rw [← hz1, hF]) (by rw [← hz1, hG]) (by rw [← hz1]) (by omega))
          · refine z_iincZ C dL_isFraction_266 rfl (by decide) ?_
            have e1 : fo = 0 := by omega
            rw [if_neg (show ¬ zlv (rC (sRd (yS Y) rr.toNat)) bb pp ss = t by omega)] at hz1
            rw [if_neg (by omega)] at hF
            have r1 := zbd_mul hT (f := F) (by rw [hF]; exact hfac hD0)
            have r2 := zbd_mul hB (f := G) (by rw [hG]; exact zxd_rng hcR ho.1 hD0)
            exact j269 _ _ (E + 1) fo _ _ _ _ _ _ _ _ (fun f o17 hf2 => by
              rw [e1]
              exact ih (kk + 1) f _ _ (E + 1) _ _ _ _ _ _ _ _ (by omega) r1 r2 (by omega) (by omega) hf2 (by rw [hF, hG]; exact hz1))
        have j220 : ∀ (F : Int), F = (if fo = 1 then zxg (rMe (sRd (yS Y) rr.toNat)) ((rC (sRd (yS Y) rr.toNat)) (zCs (t : Int) bb pp + ss)) else zxf (rMe (sRd (yS Y) rr.toNat)) (zxn (rC (sRd (yS Y) rr.toNat)) bb pp (t : Int))) → (zxn (rC (sRd (yS Y) rr.toNat)) bb pp (t : Int)) ≠ 0 → zAW p l e { frames := 6, cells := 2, slots := 45, locals := 230 } s m args below meth c γ 22 Q (va_up M q (some (zaZ γ 27 f))) 1 27 220 [some (.ref (U 0)), some (.int (zi rr)), some (.int (zi bb)), some (.int (zi pp)), some (.int (zi ss)), some (.ref q), some (.long (zl T)), none, some (.long (zl B)), none, some (.int (zi E)), some (.int (zi fo)), some (.int (zi (rMe (sRd (yS Y) rr.toNat)))), some (.int (zi (t : Int))), some (.int (zi (zxs (rC (sRd (yS Y) rr.toNat)) bb pp (t : Int)))), some (.int (zi (zxn (rC (sRd (yS Y) rr.toNat)) bb pp (t : Int)))), some (.int (zi ((rC (sRd (yS Y) rr.toNat)) (zCs (t : Int) bb pp + ss)))), o17, o18, o19, o20, o21] [.long (zl F), .long (zl T)] := by
          intro F hF hD0
          refine z_lmulZ C dL_isFraction_220 ?_
          refine z_lstore C dL_isFraction_221 (by decide) ?_
          refine z_lload C dL_isFraction_223 rfl ?_
          refine z_iload C dL_isFraction_225 rfl ?_
          refine z_if_neZ (tgt := 238) C dL_isFraction_227 (by decide) (by omega) (fun h227 => ?_) (fun h227 => ?_)
          · refine z_iload C dL_isFraction_238 rfl ?_
            refine z_iconst C dL_isFraction_240 ?_
            refine z_icmp_neZ (tgt := 253) C dL_isFraction_241 (by decide) (by omega) (by omega) (fun h241 => ?_) (fun h241 => ?_)
            · refine z_iconst C dL_isFraction_253 ?_
              refine z_iload C dL_isFraction_254 rfl ?_
              refine z_imulZ C dL_isFraction_256 ?_
              refine z_i2lZ C dL_isFraction_257 (by unfold zR; omega) ?_
              exact j258 F _ hF (by unfold zxd; rw [if_neg (by omega), if_neg (by omega)]) hD0
            · refine z_iload C dL_isFraction_244 rfl ?_
              refine z_iload C dL_isFraction_246 rfl ?_
              refine z_iaddZ C dL_isFraction_248 ?_
              refine z_i2lZ C dL_isFraction_249 (by unfold zR; omega) ?_
              refine z_goto (tgt := 258) C dL_isFraction_250 (by decide) ?_
              exact j258 F _ hF (by unfold zxd; rw [if_neg (by omega), if_pos (by omega)]) hD0
          · refine z_iload C dL_isFraction_230 rfl ?_
            refine z_iconst C dL_isFraction_232 ?_
            refine z_iaddZ C dL_isFraction_233 ?_
            refine z_i2lZ C dL_isFraction_234 (by unfold zR; omega) ?_
            refine z_goto (tgt := 258) C dL_isFraction_235 (by decide) ?_
            exact j258 F _ hF (by unfold zxd; rw [if_pos (by omega)]) hD0
        refine z_iload C dL_isFraction_152 rfl ?_
        refine z_if_leZ (tgt := 269) C dL_isFraction_154 (by decide) (by omega) (fun h154 => ?_) (fun h154 => ?_)
        · have e1 : fo = 0 := by
            rcases hfo2 with ⟨-, w⟩ | ⟨w, -⟩
            · have := hpos w
              omega
            · exact w
          have hz1 := hz
          unfold zch at hz1
          rw [if_pos (show (zxn (rC (sRd (yS Y) rr.toNat)) bb pp (t : Int)) = 0 by omega)] at hz1
          exact j269 T B E fo _ _ _ _ _ _ _ _ (fun f o17 hf2 => by
            rw [e1]
            exact ih (kk + 1) f T B E _ _ _ _ _ _ _ _ (by omega) (zbd_up hT) (zbd_up hB) (by omega) (by omega) hf2 hz1)
        · refine z_lload C dL_isFraction_157 rfl ?_
          refine z_iload C dL_isFraction_159 rfl ?_
          refine z_if_neZ (tgt := 179) C dL_isFraction_161 (by decide) (by omega) (fun h161 => ?_) (fun h161 => ?_)
          · refine z_iload C dL_isFraction_179 rfl ?_
            refine z_iconst C dL_isFraction_181 ?_
            refine z_icmp_neZ (tgt := 202) C dL_isFraction_182 (by decide) (by omega) (by omega) (fun h182 => ?_) (fun h182 => ?_)
            · refine z_iload C dL_isFraction_202 rfl ?_
              refine z_if_eqZ (tgt := 217) C dL_isFraction_204 (by decide) (by omega) (fun h204 => ?_) (fun h204 => ?_)
              · refine z_iload C dL_isFraction_217 rfl ?_
                refine z_i2lZ C dL_isFraction_219 (by unfold zR; omega) ?_
                have e1 : fo = 0 := by omega
                exact j220 _ (by rw [if_neg (by omega)]; unfold zxf; rw [if_neg (by omega)]) (by omega)
              · refine z_iconst C dL_isFraction_207 ?_
                refine z_iload C dL_isFraction_208 rfl ?_
                refine z_imulZ C dL_isFraction_210 ?_
                refine z_iconst C dL_isFraction_211 ?_
                refine z_isubZ C dL_isFraction_212 ?_
                refine z_i2lZ C dL_isFraction_213 (by unfold zR; omega) ?_
                refine z_goto (tgt := 220) C dL_isFraction_214 (by decide) ?_
                have e1 : fo = 1 := by omega
                exact j220 _ (by rw [if_pos e1]; unfold zxg; rw [if_pos (by omega)]) (by omega)
            · refine z_iload C dL_isFraction_185 rfl ?_
              refine z_if_eqZ (tgt := 196) C dL_isFraction_187 (by decide) (by omega) (fun h187 => ?_) (fun h187 => ?_)
              · refine z_iload C dL_isFraction_196 rfl ?_
                refine z_i2lZ C dL_isFraction_198 (by unfold zR; omega) ?_
                refine z_goto (tgt := 220) C dL_isFraction_199 (by decide) ?_
                have e1 : fo = 0 := by omega
                exact j220 _ (by rw [if_neg (by omega)]; unfold zxf; rw [if_neg (by omega)]) (by omega)
              · refine z_iload C dL_isFraction_190 rfl ?_
                refine z_i2lZ C dL_isFraction_192 (by unfold zR; omega) ?_
                refine z_goto (tgt := 220) C dL_isFraction_193 (by decide) ?_
                have e1 : fo = 1 := by omega
                exact j220 _ (by rw [if_pos e1]; unfold zxg; rw [if_neg (by omega)]) (by omega)
          · refine z_iload C dL_isFraction_164 rfl ?_
            refine z_if_eqZ (tgt := 175) C dL_isFraction_166 (by decide) (by omega) (fun h166 => ?_) (fun h166 => ?_)
            · refine z_lconstZ (x := 1) C dL_isFraction_175 rfl ?_
              refine z_goto (tgt := 220) C dL_isFraction_176 (by decide) ?_
              have e1 : fo = 0 := by omega
              exact j220 _ (by rw [if_neg (by omega)]; unfold zxf; rw [if_pos (by omega)]) (by omega)
            · refine z_iload C dL_isFraction_169 rfl ?_
              refine z_i2lZ C dL_isFraction_171 (by unfold zR; omega) ?_
              refine z_goto (tgt := 220) C dL_isFraction_172 (by decide) ?_
              have e1 : fo = 1 := by omega
              exact j220 _ (by rw [if_pos e1]; unfold zxg; rw [if_neg (by omega)]) (by omega)
      -- the sums
      have j63 : ∀ (tt y : Nat) (o17 : Option Value), y + tt = 27 → zAW p l e { frames := 6, cells := 2, slots := 45, locals := 230 } s m args below meth c γ 22 Q (va_up M q (some (zaZ γ 27 f))) 1 27 63 [some (.ref (U 0)), some (.int (zi rr)), some (.int (zi bb)), some (.int (zi pp)), some (.int (zi ss)), some (.ref q), some (.long (zl T)), none, some (.long (zl B)), none, some (.int (zi E)), some (.int (zi 0)), some (.int (zi (rMe (sRd (yS Y) rr.toNat)))), some (.int (zi (t : Int))), some (.int (zi (zsum (zvF (rC (sRd (yS Y) rr.toNat)) bb pp (t : Int)) 0 y))), some (.int (zi (zsum (zvG (rC (sRd (yS Y) rr.toNat)) bb pp (t : Int)) 0 y))), some (.int (zi (y : Int))), o17, o18, o19, o20, o21] [] := by
        intro tt
        induction tt with
        | zero =>
          intro y o17 hy
          rw [show y = 27 by omega, show zsum (zvF (rC (sRd (yS Y) rr.toNat)) bb pp (t : Int)) 0 27 = (zxs (rC (sRd (yS Y) rr.toNat)) bb pp (t : Int)) from rfl, show zsum (zvG (rC (sRd (yS Y) rr.toNat)) bb pp (t : Int)) 0 27 = (zxn (rC (sRd (yS Y) rr.toNat)) bb pp (t : Int)) from rfl]
          have hg9 := hge ss
          have hn9 := hne ss
          refine z_iload C dL_isFraction_63 rfl ?_
          refine z_bipush C dL_isFraction_65 (by decide) ?_
          refine z_icmp_geZ (tgt := 115) C dL_isFraction_67 (by decide) (by omega) (by omega) (fun h67 => ?_) (fun h67 => ?_)
          · refine z_aload C dL_isFraction_115 rfl ?_
            refine z_iload C dL_isFraction_117 rfl ?_
            refine z_aldZ C dL_isFraction_119 (hM _) (by omega) (by omega) ?_
            rw [hf ss.toNat (by omega), show ((ss.toNat : Nat) : Int) = ss by omega, if_neg (by omega)]
            refine z_if_eqZ (tgt := 127) C dL_isFraction_120 (by decide) (by omega) (fun h120 => ?_) (fun h120 => ?_)
            · refine z_aload_n C dL_isFraction_127 rfl ?_
              refine z_iload_n C dL_isFraction_128 rfl ?_
              refine z_iload C dL_isFraction_129 rfl ?_
              refine z_iload_n C dL_isFraction_131 rfl ?_
              refine z_iload_n C dL_isFraction_132 rfl ?_
              refine z_iload C dL_isFraction_133 rfl ?_
              refine z_callS C dL_isFraction_135 lk_L_171 mw_L_count mst_L_count (kco q hq _ (t : Int) ss ho hs) rfl (by first | decide | exact Nat.le_of_ble_eq_true rfl) ⟨by decide, by decide, by decide, by decide⟩ (fun _ _ h => False.elim h) (fun v M' hp => ?_)
              obtain ⟨rfl, rfl⟩ := hp
              refine z_istore C dL_isFraction_138 (by decide) ?_
              refine z_iload C dL_isFraction_140 rfl ?_
              refine z_if_leZ (tgt := 149) C dL_isFraction_142 (by decide) (by omega) (fun h142 => ?_) (fun h142 => ?_)
              · refine z_iconst C dL_isFraction_149 ?_
                refine z_istore C dL_isFraction_150 (by decide) ?_
                exact j152 0 _ _ _ _ _ (.inr ⟨rfl, by have := hn9 (by omega); omega⟩)
              · refine z_iconst C dL_isFraction_145 ?_
                refine z_goto (tgt := 150) C dL_isFraction_146 (by decide) ?_
                refine z_istore C dL_isFraction_150 (by decide) ?_
                exact j152 1 _ _ _ _ _ (.inl ⟨rfl, by have := hg9 (by omega); omega⟩)
            · exact absurd rfl h120
          · exact absurd h67 (by omega)
        | succ tt ih2 =>
          intro y o17 hy
          have hcy := hcR (zCs (t : Int) bb pp + (y : Int))
          have hgy := hge (y : Int)
          have hny := hne (y : Int)
          have a1 := zsum_nn (f := zvG (rC (sRd (yS Y) rr.toNat)) bb pp (t : Int)) (lo := 0) (t := y) (fun i _ => (zvG_rng _ _ _ _ _).1)
          have a2 := zsum_le (f := zvG (rC (sRd (yS Y) rr.toNat)) bb pp (t : Int)) (lo := 0) (b := 1) (t := y) (fun i _ => (zvG_rng _ _ _ _ _).2)
          have a3 := zsum_nn (f := zvF (rC (sRd (yS Y) rr.toNat)) bb pp (t : Int)) (lo := 0) (t := y) (fun i _ => (zvF_rng hcR _ _ _ _).1)
          have a4 := zsum_le (f := zvF (rC (sRd (yS Y) rr.toNat)) bb pp (t : Int)) (lo := 0) (b := 999) (t := y) (fun i _ => (zvF_rng hcR _ _ _ _).2)
          have e1 : zsum (zvG (rC (sRd (yS Y) rr.toNat)) bb pp (t : Int)) 0 (y + 1) = zsum (zvG (rC (sRd (yS Y) rr.toNat)) bb pp (t : Int)) 0 y + zvG (rC (sRd (yS Y) rr.toNat)) bb pp (t : Int) (y : Int) := by
            show zsum (zvG (rC (sRd (yS Y) rr.toNat)) bb pp (t : Int)) 0 y + zvG (rC (sRd (yS Y) rr.toNat)) bb pp (t : Int) (0 + (y : Int)) = _
            rw [Int.zero_add]
          have e2 : zsum (zvF (rC (sRd (yS Y) rr.toNat)) bb pp (t : Int)) 0 (y + 1) = zsum (zvF (rC (sRd (yS Y) rr.toNat)) bb pp (t : Int)) 0 y + zvF (rC (sRd (yS Y) rr.toNat)) bb pp (t : Int) (y : Int) := by
            show zsum (zvF (rC (sRd (yS Y) rr.toNat)) bb pp (t : Int)) 0 y + zvF (rC (sRd (yS Y) rr.toNat)) bb pp (t : Int) (0 + (y : Int)) = _
            rw [Int.zero_add]
          have hno : zlv (rC (sRd (yS Y) rr.toNat)) bb pp (y : Int) ≠ t → zAW p l e { frames := 6, cells := 2, slots := 45, locals := 230 } s m args below meth c γ 22 Q (va_up M q (some (zaZ γ 27 f))) 1 27 109 [some (.ref (U 0)), some (.int (zi rr)), some (.int (zi bb)), some (.int (zi pp)), some (.int (zi ss)), some (.ref q), some (.long (zl T)), none, some (.long (zl B)), none, some (.int (zi E)), some (.int (zi 0)), some (.int (zi (rMe (sRd (yS Y) rr.toNat)))), some (.int (zi (t : Int))), some (.int (zi (zsum (zvF (rC (sRd (yS Y) rr.toNat)) bb pp (t : Int)) 0 y))), some (.int (zi (zsum (zvG (rC (sRd (yS Y) rr.toNat)) bb pp (t : Int)) 0 y))), some (.int (zi (y : Int))), some (.int (zi ((rC (sRd (yS Y) rr.toNat)) (zCs (t : Int) bb pp + (y : Int))))), o18, o19, o20, o21] [] := by
            intro hnl
            have q9 := ih2 (y + 1) (some (.int (zi ((rC (sRd (yS Y) rr.toNat)) (zCs (t : Int) bb pp + (y : Int)))))) (by omega)
            rw [e1, e2, show zvG (rC (sRd (yS Y) rr.toNat)) bb pp (t : Int) (y : Int) = 0 from if_neg hnl, show zvF (rC (sRd (yS Y) rr.toNat)) bb pp (t : Int) (y : Int) = 0 from if_neg hnl, Int.add_zero, Int.add_zero] at q9
            refine z_iincZ C dL_isFraction_109 rfl (by decide) ?_
            refine z_goto (tgt := 63) C dL_isFraction_112 (by decide) ?_
            exact q9
          refine z_iload C dL_isFraction_63 rfl ?_
          refine z_bipush C dL_isFraction_65 (by decide) ?_
          refine z_icmp_geZ (tgt := 115) C dL_isFraction_67 (by decide) (by omega) (by omega) (fun h67 => ?_) (fun h67 => ?_)
          · exact absurd h67 (by omega)
          · refine z_aload_n C dL_isFraction_70 rfl ?_
            refine z_iload_n C dL_isFraction_71 rfl ?_
            refine z_iload C dL_isFraction_72 rfl ?_
            refine z_iload_n C dL_isFraction_74 rfl ?_
            refine z_iload_n C dL_isFraction_75 rfl ?_
            refine z_iload C dL_isFraction_76 rfl ?_
            refine z_callS C dL_isFraction_78 lk_L_171 mw_L_count mst_L_count (kco q hq _ (t : Int) (y : Int) ho (by omega)) rfl (by first | decide | exact Nat.le_of_ble_eq_true rfl) ⟨by decide, by decide, by decide, by decide⟩ (fun _ _ h => False.elim h) (fun v M' hp => ?_)
            obtain ⟨rfl, rfl⟩ := hp
            refine z_istore C dL_isFraction_81 (by decide) ?_
            refine z_iload C dL_isFraction_83 rfl ?_
            refine z_if_eqZ (tgt := 109) C dL_isFraction_85 (by decide) (by omega) (fun h85 => ?_) (fun h85 => ?_)
            · exact hno (hny (by omega))
            · refine z_aload C dL_isFraction_88 rfl ?_
              refine z_iload C dL_isFraction_90 rfl ?_
              refine z_aldZ C dL_isFraction_92 (hM _) (by omega) (by omega) ?_
              rw [Int.toNat_natCast, hf y (by omega)]
              obtain ⟨g, hg⟩ : ∃ g : Int, g = if (t : Int) < zlv (rC (sRd (yS Y) rr.toNat)) bb pp (y : Int) then 1 else 0 := ⟨_, rfl⟩
              rw [← hg]
              have hgr : (g = 1 ∧ (t : Int) < zlv (rC (sRd (yS Y) rr.toNat)) bb pp (y : Int)) ∨ (g = 0 ∧ ¬ (t : Int) < zlv (rC (sRd (yS Y) rr.toNat)) bb pp (y : Int)) := by
                rw [hg]
                split
                · exact .inl ⟨rfl, by assumption⟩
                · exact .inr ⟨rfl, by assumption⟩
              refine z_if_eqZ (tgt := 99) C dL_isFraction_93 (by decide) (by omega) (fun h93 => ?_) (fun h93 => ?_)
              · refine z_iload C dL_isFraction_99 rfl ?_
                refine z_iload C dL_isFraction_101 rfl ?_
                refine z_iaddZ C dL_isFraction_103 ?_
                refine z_istore C dL_isFraction_104 (by decide) ?_
                refine z_iincZ C dL_isFraction_106 rfl (by decide) ?_
                have hll : zlv (rC (sRd (yS Y) rr.toNat)) bb pp (y : Int) = t := by have := hgy (by omega); omega
                have q9 := ih2 (y + 1) (some (.int (zi ((rC (sRd (yS Y) rr.toNat)) (zCs (t : Int) bb pp + (y : Int)))))) (by omega)
                rw [e1, e2, show zvG (rC (sRd (yS Y) rr.toNat)) bb pp (t : Int) (y : Int) = 1 from if_pos hll, show zvF (rC (sRd (yS Y) rr.toNat)) bb pp (t : Int) (y : Int) = ((rC (sRd (yS Y) rr.toNat)) (zCs (t : Int) bb pp + (y : Int))) from if_pos hll] at q9
                refine z_iincZ C dL_isFraction_109 rfl (by decide) ?_
                refine z_goto (tgt := 63) C dL_isFraction_112 (by decide) ?_
                exact q9
              · refine z_goto (tgt := 109) C dL_isFraction_96 (by decide) ?_
                exact hno (by omega)
      refine z_iload C dL_isFraction_44 rfl ?_
      refine z_if_ltZ (tgt := 311) C dL_isFraction_46 (by decide) (by omega) (fun h46 => ?_) (fun h46 => ?_)
      · exact absurd h46 (by omega)
      · refine z_iload C dL_isFraction_49 rfl ?_
        refine z_if_neZ (tgt := 311) C dL_isFraction_51 (by decide) (by omega) (fun h51 => ?_) (fun h51 => ?_)
        · exact absurd rfl h51
        · refine z_iconst C dL_isFraction_54 ?_
          refine z_istore C dL_isFraction_55 (by decide) ?_
          refine z_iconst C dL_isFraction_57 ?_
          refine z_istore C dL_isFraction_58 (by decide) ?_
          refine z_iconst C dL_isFraction_60 ?_
          refine z_istore C dL_isFraction_61 (by decide) ?_
          exact j63 27 0 o17 rfl
  have hz0 : ∀ t : Nat, (t : Int) = zFo bb pp + 1 → ∀ j : Nat, j < 27 → (fun _ => 0 : Nat → Int32) j = zi (if (t : Int) - 1 < zlv (rC (sRd (yS Y) rr.toNat)) bb pp (j : Int) then 1 else 0) := fun t ht j _ => by
    have := zlv_rng (rC (sRd (yS Y) rr.toNat)) bb pp (j : Int)
    rw [if_neg (by omega)]
    rfl
  have hz1 : ∀ t : Nat, (t : Int) = zFo bb pp + 1 → zch (rC (sRd (yS Y) rr.toNat)) bb pp ss (rMe (sRd (yS Y) rr.toNat)) t 1 1 0 = (zcf (rC (sRd (yS Y) rr.toNat)) bb pp ss (rMe (sRd (yS Y) rr.toNat))) := fun t ht => by
    unfold zcf
    rw [show (zFo bb pp + 1).toNat = t by omega]
  have hcv2 := hcv
  unfold zCv zSy at hcv2
  have hf3 : (pp < 0 → zFo bb pp = 0) ∧ (0 ≤ pp → bb < 0 → zFo bb pp = 1) ∧ (0 ≤ bb → zFo bb pp = 2) := by
    unfold zFo
    refine ⟨fun h => if_pos (by omega), fun h h2 => ?_, fun h => ?_⟩
    · rw [if_neg (by omega), if_pos (by omega)]
    · rw [if_neg (by omega), if_neg (by omega)]
  refine z_bipush C dL_isFraction_0 (by decide) ?_
  refine z_newZ C dL_isFraction_2 t2_192 (by omega) ⟨by decide, by decide⟩ (fun q hq => ?_)
  refine z_astore C dL_isFraction_4 (by decide) ?_
  refine z_lconstZ (x := 1) C dL_isFraction_6 rfl ?_
  refine z_lstore C dL_isFraction_7 (by decide) ?_
  refine z_lconstZ (x := 1) C dL_isFraction_9 rfl ?_
  refine z_lstore C dL_isFraction_10 (by decide) ?_
  refine z_iconst C dL_isFraction_12 ?_
  refine z_istore C dL_isFraction_13 (by decide) ?_
  refine z_iconst C dL_isFraction_15 ?_
  refine z_istore C dL_isFraction_16 (by decide) ?_
  refine z_aload_n C dL_isFraction_18 rfl ?_
  refine z_iload_n C dL_isFraction_19 rfl ?_
  refine z_callV C dL_isFraction_20 lk_L_194 mw_X8_escapeMethod mi_X8_escapeMethod ms_X8_escapeMethod rfl (hMq q hq _) (k_I_escapeMethod (hcq q hq _) hk hrr) rfl (by first | decide | exact Nat.le_of_ble_eq_true rfl) ⟨by decide, by decide, by decide, by decide⟩ (fun _ _ h => False.elim h) (fun v M' hp => ?_)
  obtain ⟨rfl, rfl⟩ := hp
  refine z_istore C dL_isFraction_23 (by decide) ?_
  refine z_iload_n C dL_isFraction_25 rfl ?_
  refine z_if_ltZ (tgt := 33) C dL_isFraction_26 (by decide) (by omega) (fun h26 => ?_) (fun h26 => ?_)
  · refine z_iload_n C dL_isFraction_33 rfl ?_
    refine z_if_ltZ (tgt := 41) C dL_isFraction_34 (by decide) (by omega) (fun h34 => ?_) (fun h34 => ?_)
    · refine z_iconst C dL_isFraction_41 ?_
      refine z_istore C dL_isFraction_42 (by decide) ?_
      have e9 := hf3.1 (by omega)
      have q9 := j44 q hq 1 0 (fun _ => 0) 1 1 0 none none none none none none none none (by omega) (by decide) (by decide) (by decide) (by omega) (hz0 1 (by omega)) (hz1 1 (by omega))
      exact q9
    · refine z_iconst C dL_isFraction_37 ?_
      refine z_goto (tgt := 42) C dL_isFraction_38 (by decide) ?_
      refine z_istore C dL_isFraction_42 (by decide) ?_
      have e9 := hf3.2.1 (by omega) (by omega)
      have q9 := j44 q hq 2 0 (fun _ => 0) 1 1 0 none none none none none none none none (by omega) (by decide) (by decide) (by decide) (by omega) (hz0 2 (by omega)) (hz1 2 (by omega))
      exact q9
  · refine z_iconst C dL_isFraction_29 ?_
    refine z_goto (tgt := 42) C dL_isFraction_30 (by decide) ?_
    refine z_istore C dL_isFraction_42 (by decide) ?_
    have e9 := hf3.2.2 (by omega)
    have q9 := j44 q hq 3 0 (fun _ => 0) 1 1 0 none none none none none none none none (by omega) (by decide) (by decide) (by decide) (by omega) (hz0 3 (by omega)) (hz1 3 (by omega))
    exact q9

