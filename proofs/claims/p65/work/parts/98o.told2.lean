/-! the law's word on an act -/
set_option maxHeartbeats 4000000 in
set_option maxRecDepth 100000 in
theorem k_L_isTold {l : Launch} {γ : zG} {M : zM} {U : Nat → Nat} {Y : zSys} {r d y b x : Int} (hc : hFc γ M U Y) (hk : yOk Y) (hI : zIv r d y b (yS Y)) (hr : 1 ≤ r ∧ r ≤ 3) (hd : 1 ≤ d ∧ d ≤ 3) (hy : y ≤ 1000) (hb : 0 ≤ b ∧ b ≤ 400000) (hx : 0 ≤ x ∧ x ≤ 2147483647) :
    zCon l γ yL_isTold cL_isTold 22 (some .boolean) [.ref (U 0), .int (zi x)] M 9 230 6 144 (fun v' M' => v' = some (.int (zi 1)) ∧ ∃ Y', hFc γ M' U Y' ∧ yOk Y' ∧ zIv r d (y + 1) (b + b + 1) (yS Y')) (fun _ _ => False) := by
  have hrn : sRn (yS Y) = r := hI.1.1
  have hdn : sDn (yS Y) = d := hI.1.2.1
  have h1 := zaR_rng hr.1 x
  have h2 := zaO_rng hr.1 x
  have h3 := zaD_rng hd.1 x
  have g1 : 0 ≤ zaR r x ∧ zaR r x < sRn (yS Y) := by omega
  have g2 : 0 ≤ zaO r x ∧ zaO r x < sRn (yS Y) := by omega
  have g3 : 0 ≤ zaD d x ∧ zaD d x < sDn (yS Y) := by omega
  have hXl := hI.2.1 (zaD d x).toNat (by omega)
  have hcR := (hk.1.2.2 (zaR r x).toNat (by omega)).1.2.2.1
  have hcO := (hk.1.2.2 (zaO r x).toNat (by omega)).1.2.2.1
  have hT0 := hI.tr (i := (zaR r x).toNat) hd.2 (by omega) (by omega)
  have hT1 := (hI.2.2 (zaR r x).toNat (by omega)).1 (zaD d x).toNat
  have hfr := zf_rng r x
  refine zEnter [some (.ref (U 0)), some (.int (zi x)), none, none, none, none, none, none, none, none, none, none, none, none, none, none, none, none, none, none, none, none] (by decide +kernel) rfl rfl (Nat.le_of_ble_eq_true rfl) ?_
  intro p e s m args below meth c Q C hin hQ
  have jE : ∀ (M3 : zM) (Y' : zSys) (o14 o15 o16 o17 o18 o19 o20 o21 : Option Value), hFc γ M3 U Y' → yOk Y' → zIv r d (y + 1) (b + b + 1) (yS Y') → zActs r d x (yS Y) (yS Y') → zAW p l e { frames := 9, cells := 6, slots := 144, locals := 230 } s m args below meth c γ 22 Q M3 6 144 367 [some (.ref (U 0)), some (.int (zi x)), some (.int (zi (x / 8))), some (.int (zi r)), some (.int (zi (zaR r x))), some (.int (zi (zaO r x))), some (.int (zi (zaD d x))), some (.int (zi (zf7 x))), some (.int (zi (zf8 x))), some (.int (zi (zf9 x))), some (.int (zi (zf10 r x))), some (.int (zi (zf11 r x))), some (.int (zi (rTr (sRd (yS Y) (zaR r x).toNat)))), some (.int (zi (rTm (sRd (yS Y) (zaR r x).toNat) (zaD d x).toNat))), o14, o15, o16, o17, o18, o19, o20, o21] [] := by
    intro M3 Y' o14 o15 o16 o17 o18 o19 o20 o21 hc3 hk3 hI3 hA
    obtain ⟨eD, -, e11, e8, e0⟩ := hA.told hI hr.1 hd.1 hk.1
    obtain ⟨fs0, hM0⟩ := hc3.ok0
    have hrn3 : sRn (yS Y') = r := hI3.1.1
    have hdn3 : sDn (yS Y') = d := hI3.1.2.1
    have g13 : 0 ≤ zaR r x ∧ zaR r x < sRn (yS Y') := by omega
    have g33 : 0 ≤ zaD d x ∧ zaD d x < sDn (yS Y') := by omega
    have hT3 := hI3.tr (i := (zaR r x).toNat) hd.2 (by omega) (by omega)
    have hT4 := (hI3.2.2 (zaR r x).toNat (by omega)).1 (zaD d x).toNat
    have kdl := k_I_documentLength (l := l) (M := M3) hc3 hk3 g33
    rw [eD] at kdl
    have hsi := zsi_rng (rC (sRd (yS Y') (zaR r x).toNat))
    refine z_iload C dL_isTold_367 rfl ?_
    refine z_if_eqZ (tgt := 411) C dL_isTold_369 (by decide) (by omega) (fun h369 => ?_) (fun h369 => ?_)
    · refine z_iload C dL_isTold_411 rfl ?_
      refine z_if_eqZ (tgt := 451) C dL_isTold_413 (by decide) (by omega) (fun h413 => ?_) (fun h413 => ?_)
      · refine z_aload_n C dL_isTold_451 rfl ?_
        refine z_iload C dL_isTold_452 rfl ?_
        refine z_callV C dL_isTold_454 lk_L_145 mw_X8_trainedSymbols mi_X8_trainedSymbols ms_X8_trainedSymbols rfl hM0 (k_I_trainedSymbols hc3 hk3 g13) rfl (by first | decide | exact Nat.le_of_ble_eq_true rfl) ⟨by decide, by decide, by decide, by decide⟩ (fun _ _ h => False.elim h) (fun v M' hp => ?_)
        obtain ⟨rfl, rfl⟩ := hp
        refine z_iload C dL_isTold_457 rfl ?_
        refine z_icmp_neZ (tgt := 466) C dL_isTold_459 (by decide) (by omega) (by omega) (fun h459 => ?_) (fun h459 => ?_)
        · exact absurd (e0 (by omega) (by omega)) h459
        · refine z_iconst C dL_isTold_462 ?_
          refine z_goto (tgt := 467) C dL_isTold_463 (by decide) ?_
          refine z_iret C hQ dL_isTold_467 rfl (by decide) (by decide) ?_
          exact ⟨rfl, Y', hc3, hk3, hI3⟩
      · refine z_aload_n C dL_isTold_416 rfl ?_
        refine z_iload C dL_isTold_417 rfl ?_
        refine z_callV C dL_isTold_419 lk_L_145 mw_X8_trainedSymbols mi_X8_trainedSymbols ms_X8_trainedSymbols rfl hM0 (k_I_trainedSymbols hc3 hk3 g13) rfl (by first | decide | exact Nat.le_of_ble_eq_true rfl) ⟨by decide, by decide, by decide, by decide⟩ (fun _ _ h => False.elim h) (fun v M' hp => ?_)
        obtain ⟨rfl, rfl⟩ := hp
        refine z_if_neZ (tgt := 449) C dL_isTold_422 (by decide) (by omega) (fun h422 => ?_) (fun h422 => ?_)
        · exact absurd (e8 (by omega)).1 h422
        · refine z_aload_n C dL_isTold_425 rfl ?_
          refine z_iload C dL_isTold_426 rfl ?_
          refine z_iload C dL_isTold_428 rfl ?_
          refine z_callV C dL_isTold_430 lk_L_148 mw_X8_timesTrained mi_X8_timesTrained ms_X8_timesTrained rfl hM0 (k_I_timesTrained hc3 hk3 g13 g33) rfl (by first | decide | exact Nat.le_of_ble_eq_true rfl) ⟨by decide, by decide, by decide, by decide⟩ (fun _ _ h => False.elim h) (fun v M' hp => ?_)
          obtain ⟨rfl, rfl⟩ := hp
          refine z_if_neZ (tgt := 449) C dL_isTold_433 (by decide) (by omega) (fun h433 => ?_) (fun h433 => ?_)
          · exact absurd (e8 (by omega)).2.1 h433
          · refine z_aload_n C dL_isTold_436 rfl ?_
            refine z_iload C dL_isTold_437 rfl ?_
            refine z_callV C dL_isTold_439 lk_L_168 mw_X8_positiveCounts mi_X8_positiveCounts ms_X8_positiveCounts rfl hM0 (k_I_positiveCounts hc3 hk3 g13) rfl (by first | decide | exact Nat.le_of_ble_eq_true rfl) ⟨by decide, by decide, by decide, by decide⟩ (fun _ _ h => False.elim h) (fun v M' hp => ?_)
            obtain ⟨rfl, rfl⟩ := hp
            refine z_if_neZ (tgt := 449) C dL_isTold_442 (by decide) (by omega) (fun h442 => ?_) (fun h442 => ?_)
            · exact absurd (by rw [(e8 (by omega)).2.2]; exact zsum_zero fun i _ => if_pos rfl) h442
            · refine z_iconst C dL_isTold_445 ?_
              refine z_goto (tgt := 450) C dL_isTold_446 (by decide) ?_
              refine z_iret C hQ dL_isTold_450 rfl (by decide) (by decide) ?_
              exact ⟨rfl, Y', hc3, hk3, hI3⟩
    · refine z_aload_n C dL_isTold_372 rfl ?_
      refine z_iload C dL_isTold_373 rfl ?_
      refine z_callV C dL_isTold_375 lk_L_145 mw_X8_trainedSymbols mi_X8_trainedSymbols ms_X8_trainedSymbols rfl hM0 (k_I_trainedSymbols hc3 hk3 g13) rfl (by first | decide | exact Nat.le_of_ble_eq_true rfl) ⟨by decide, by decide, by decide, by decide⟩ (fun _ _ h => False.elim h) (fun v M' hp => ?_)
      obtain ⟨rfl, rfl⟩ := hp
      refine z_iload C dL_isTold_378 rfl ?_
      refine z_aload_n C dL_isTold_380 rfl ?_
      refine z_iload C dL_isTold_381 rfl ?_
      refine z_callV C dL_isTold_383 lk_L_128 mw_X8_documentLength mi_X8_documentLength ms_X8_documentLength rfl hM0 kdl rfl (by first | decide | exact Nat.le_of_ble_eq_true rfl) ⟨by decide, by decide, by decide, by decide⟩ (fun _ _ h => False.elim h) (fun v M' hp => ?_)
      obtain ⟨rfl, rfl⟩ := hp
      refine z_iaddZ C dL_isTold_386 ?_
      refine z_icmp_neZ (tgt := 409) C dL_isTold_387 (by decide) (by omega) (by omega) (fun h387 => ?_) (fun h387 => ?_)
      · exact absurd (e11 (by omega)).1 h387
      · refine z_aload_n C dL_isTold_390 rfl ?_
        refine z_iload C dL_isTold_391 rfl ?_
        refine z_iload C dL_isTold_393 rfl ?_
        refine z_callV C dL_isTold_395 lk_L_148 mw_X8_timesTrained mi_X8_timesTrained ms_X8_timesTrained rfl hM0 (k_I_timesTrained hc3 hk3 g13 g33) rfl (by first | decide | exact Nat.le_of_ble_eq_true rfl) ⟨by decide, by decide, by decide, by decide⟩ (fun _ _ h => False.elim h) (fun v M' hp => ?_)
        obtain ⟨rfl, rfl⟩ := hp
        refine z_iload C dL_isTold_398 rfl ?_
        refine z_iconst C dL_isTold_400 ?_
        refine z_iaddZ C dL_isTold_401 ?_
        refine z_icmp_neZ (tgt := 409) C dL_isTold_402 (by decide) (by omega) (by omega) (fun h402 => ?_) (fun h402 => ?_)
        · exact absurd (e11 (by omega)).2 h402
        · refine z_iconst C dL_isTold_405 ?_
          refine z_goto (tgt := 410) C dL_isTold_406 (by decide) ?_
          refine z_iret C hQ dL_isTold_410 rfl (by decide) (by decide) ?_
          exact ⟨rfl, Y', hc3, hk3, hI3⟩
  have jL : ∀ (M3 : zM) (Y' : zSys) (q14 q15 q17 : Nat) (f14 f15 f17 : Nat → Int) (T : Int), hFc γ M3 U Y' → yOk Y' → zIv r d (y + 1) (b + b + 1) (yS Y') → zActs r d x (yS Y) (yS Y') → T = (if zf10 r x = 0 then zaR r x else zaO r x) → M3 q14 = some (zar γ (3 * dLe (sDc (yS Y) (zaD d x).toNat)).toNat f14) → M3 q15 = some (zar γ (3 * dLe (sDc (yS Y) (zaD d x).toNat)).toNat f15) → M3 q17 = some (zar γ (3 * dLe (sDc (yS Y) (zaD d x).toNat)).toNat f17) → (∀ j : Nat, j < 3 * dLe (sDc (yS Y) (zaD d x).toNat) → f14 j = zcn (rC (sRd (yS Y) (zaR r x).toNat)) (sDc (yS Y) (zaD d x).toNat) j) → (∀ j : Nat, j < 3 * dLe (sDc (yS Y) (zaD d x).toNat) → f15 j = zcn (rC (sRd (yS Y) (zaO r x).toNat)) (sDc (yS Y) (zaD d x).toNat) j) → (∀ j : Nat, j < 3 * dLe (sDc (yS Y) (zaD d x).toNat) → f17 j = zcn (rC (sRd (yS Y') T.toNat)) (sDc (yS Y) (zaD d x).toNat) j) → ∀ (t i : Nat) (o19 o20 o21 : Option Value), (i : Int) + t = dLe (sDc (yS Y) (zaD d x).toNat) → zAW p l e { frames := 9, cells := 6, slots := 144, locals := 230 } s m args below meth c γ 22 Q M3 6 144 220 [some (.ref (U 0)), some (.int (zi x)), some (.int (zi (x / 8))), some (.int (zi r)), some (.int (zi (zaR r x))), some (.int (zi (zaO r x))), some (.int (zi (zaD d x))), some (.int (zi (zf7 x))), some (.int (zi (zf8 x))), some (.int (zi (zf9 x))), some (.int (zi (zf10 r x))), some (.int (zi (zf11 r x))), some (.int (zi (rTr (sRd (yS Y) (zaR r x).toNat)))), some (.int (zi (rTm (sRd (yS Y) (zaR r x).toNat) (zaD d x).toNat))), some (.ref q14), some (.ref q15), some (.int (zi T)), some (.ref q17), some (.int (zi (i : Int))), o19, o20, o21] [] := by
    intro M3 Y' q14 q15 q17 f14 f15 f17 T hc3 hk3 hI3 hA hT hM14 hM15 hM17 hf14 hf15 hf17 t
    obtain ⟨eD, hkey, -, -, -⟩ := hA.told hI hr.1 hd.1 hk.1
    rw [← hT] at hkey
    obtain ⟨fs0, hM0⟩ := hc3.ok0
    have hrn3 : sRn (yS Y') = r := hI3.1.1
    have hdn3 : sDn (yS Y') = d := hI3.1.2.1
    have g33 : 0 ≤ zaD d x ∧ zaD d x < sDn (yS Y') := by omega
    have kdl := k_I_documentLength (l := l) (M := M3) hc3 hk3 g33
    have kti := fun (i o : Nat) => k_L_times (l := l) (M := M3) (i := i) (o := o) hc3 hk3 g33
    rw [eD] at kdl
    simp only [eD] at kti
    induction t with
    | zero =>
      intro i o19 o20 o21 ht
      refine z_iload C dL_isTold_220 rfl ?_
      refine z_aload_n C dL_isTold_222 rfl ?_
      refine z_iload C dL_isTold_223 rfl ?_
      refine z_callV C dL_isTold_225 lk_L_128 mw_X8_documentLength mi_X8_documentLength ms_X8_documentLength rfl hM0 kdl rfl (by first | decide | exact Nat.le_of_ble_eq_true rfl) ⟨by decide, by decide, by decide, by decide⟩ (fun _ _ h => False.elim h) (fun v M' hp => ?_)
      obtain ⟨rfl, rfl⟩ := hp
      refine z_icmp_geZ (tgt := 367) C dL_isTold_228 (by decide) (by omega) (by omega) (fun h228 => ?_) (fun h228 => ?_)
      · exact jE M' Y' _ _ _ _ _ _ _ _ hc3 hk3 hI3 hA
      · exact absurd h228 (by omega)
    | succ t ih =>
      intro i o19 o20 o21 ht
      have inner : ∀ (tt o : Nat) (o20 o21 : Option Value), o + tt = 3 → zAW p l e { frames := 9, cells := 6, slots := 144, locals := 230 } s m args below meth c γ 22 Q M3 6 144 234 [some (.ref (U 0)), some (.int (zi x)), some (.int (zi (x / 8))), some (.int (zi r)), some (.int (zi (zaR r x))), some (.int (zi (zaO r x))), some (.int (zi (zaD d x))), some (.int (zi (zf7 x))), some (.int (zi (zf8 x))), some (.int (zi (zf9 x))), some (.int (zi (zf10 r x))), some (.int (zi (zf11 r x))), some (.int (zi (rTr (sRd (yS Y) (zaR r x).toNat)))), some (.int (zi (rTm (sRd (yS Y) (zaR r x).toNat) (zaD d x).toNat))), some (.ref q14), some (.ref q15), some (.int (zi T)), some (.ref q17), some (.int (zi (i : Int))), some (.int (zi (o : Int))), o20, o21] [] := by
        intro tt
        induction tt with
        | zero =>
          intro o o20 o21 ho
          refine z_iload C dL_isTold_234 rfl ?_
          refine z_iconst C dL_isTold_236 ?_
          refine z_icmp_geZ (tgt := 361) C dL_isTold_237 (by decide) (by omega) (by omega) (fun h237 => ?_) (fun h237 => ?_)
          · refine z_iincZ C dL_isTold_361 rfl (by decide) ?_
            refine z_goto (tgt := 220) C dL_isTold_364 (by decide) ?_
            have q9 := ih (i + 1) (some (.int (zi (o : Int)))) o20 o21 (by omega)
            exact q9
          · exact absurd h237 (by omega)
        | succ tt ih2 =>
          intro o o20 o21 ho
          have ha := zcn_rng hcR (sDc (yS Y) (zaD d x).toNat) (3 * i + o)
          have hb2 := zcn_rng hcO (sDc (yS Y) (zaD d x).toNat) (3 * i + o)
          have hzt := zto_rng (sDc (yS Y) (zaD d x).toNat) i (o + 1) (dLe (sDc (yS Y) (zaD d x).toNat)).toNat
          have e14 := hf14 (3 * i + o) (by omega)
          have e15 := hf15 (3 * i + o) (by omega)
          have e17 := (hf17 (3 * i + o) (by omega)).trans (hkey i o (by omega) (by omega))
          have j330 : ∀ (w : Int), w = ztd r x (sDc (yS Y) (zaD d x).toNat) (zcn (rC (sRd (yS Y) (zaR r x).toNat)) (sDc (yS Y) (zaD d x).toNat) (3 * i + o)) (zcn (rC (sRd (yS Y) (zaO r x).toNat)) (sDc (yS Y) (zaD d x).toNat) (3 * i + o)) i o → 0 ≤ w ∧ w ≤ 5000 → zAW p l e { frames := 9, cells := 6, slots := 144, locals := 230 } s m args below meth c γ 22 Q M3 6 144 330 [some (.ref (U 0)), some (.int (zi x)), some (.int (zi (x / 8))), some (.int (zi r)), some (.int (zi (zaR r x))), some (.int (zi (zaO r x))), some (.int (zi (zaD d x))), some (.int (zi (zf7 x))), some (.int (zi (zf8 x))), some (.int (zi (zf9 x))), some (.int (zi (zf10 r x))), some (.int (zi (zf11 r x))), some (.int (zi (rTr (sRd (yS Y) (zaR r x).toNat)))), some (.int (zi (rTm (sRd (yS Y) (zaR r x).toNat) (zaD d x).toNat))), some (.ref q14), some (.ref q15), some (.int (zi T)), some (.ref q17), some (.int (zi (i : Int))), some (.int (zi (o : Int))), some (.int (zi (zcn (rC (sRd (yS Y) (zaR r x).toNat)) (sDc (yS Y) (zaD d x).toNat) (3 * i + o)))), o21] [.int (zi w)] := by
            intro w hw hwr
            rw [← hw] at e17
            refine z_istore C dL_isTold_330 (by decide) ?_
            refine z_aload C dL_isTold_332 rfl ?_
            refine z_iconst C dL_isTold_334 ?_
            refine z_iload C dL_isTold_335 rfl ?_
            refine z_imulZ C dL_isTold_337 ?_
            refine z_iload C dL_isTold_338 rfl ?_
            refine z_iaddZ C dL_isTold_340 ?_
            refine z_aldW C dL_isTold_341 hM17 (by omega) (by omega) ?_
            rw [show (3 * (i : Int) + (o : Int)).toNat = 3 * i + o by omega, e17]
            refine z_sipush C dL_isTold_342 (by decide) ?_
            refine z_iload C dL_isTold_345 rfl ?_
            refine z_min C dL_isTold_347 lk_L_163 mmin_st ma_in mmin_co (by omega) (by omega) ⟨by decide, (by first | decide | exact Nat.le_of_ble_eq_true rfl), by decide, by decide⟩ ?_
            refine z_icmp_eqZ (tgt := 355) C dL_isTold_350 (by decide) (by omega) (by omega) (fun h350 => ?_) (fun h350 => ?_)
            · refine z_iincZ C dL_isTold_355 rfl (by decide) ?_
              refine z_goto (tgt := 234) C dL_isTold_358 (by decide) ?_
              have q9 := ih2 (o + 1) (some (.int (zi (zcn (rC (sRd (yS Y) (zaR r x).toNat)) (sDc (yS Y) (zaD d x).toNat) (3 * i + o))))) (some (.int (zi w))) (by omega)
              exact q9
            · exact absurd rfl h350
          refine z_iload C dL_isTold_234 rfl ?_
          refine z_iconst C dL_isTold_236 ?_
          refine z_icmp_geZ (tgt := 361) C dL_isTold_237 (by decide) (by omega) (by omega) (fun h237 => ?_) (fun h237 => ?_)
          · exact absurd h237 (by omega)
          · refine z_aload C dL_isTold_240 rfl ?_
            refine z_iconst C dL_isTold_242 ?_
            refine z_iload C dL_isTold_243 rfl ?_
            refine z_imulZ C dL_isTold_245 ?_
            refine z_iload C dL_isTold_246 rfl ?_
            refine z_iaddZ C dL_isTold_248 ?_
            refine z_aldW C dL_isTold_249 hM14 (by omega) (by omega) ?_
            rw [show (3 * (i : Int) + (o : Int)).toNat = 3 * i + o by omega, e14]
            refine z_istore C dL_isTold_250 (by decide) ?_
            refine z_iload C dL_isTold_252 rfl ?_
            refine z_if_eqZ (tgt := 262) C dL_isTold_254 (by decide) (by omega) (fun h254 => ?_) (fun h254 => ?_)
            · refine z_iload C dL_isTold_262 rfl ?_
              refine z_if_eqZ (tgt := 274) C dL_isTold_264 (by decide) (by omega) (fun h264 => ?_) (fun h264 => ?_)
              · refine z_iload C dL_isTold_274 rfl ?_
                refine z_if_eqZ (tgt := 283) C dL_isTold_276 (by decide) (by omega) (fun h276 => ?_) (fun h276 => ?_)
                · refine z_iload C dL_isTold_283 rfl ?_
                  refine z_if_eqZ (tgt := 304) C dL_isTold_285 (by decide) (by omega) (fun h285 => ?_) (fun h285 => ?_)
                  · refine z_iload C dL_isTold_304 rfl ?_
                    refine z_iload C dL_isTold_306 rfl ?_
                    refine z_icmp_geZ (tgt := 315) C dL_isTold_308 (by decide) (by omega) (by omega) (fun h308 => ?_) (fun h308 => ?_)
                    · refine z_iload C dL_isTold_315 rfl ?_
                      refine z_aload_n C dL_isTold_317 rfl ?_
                      refine z_iload C dL_isTold_318 rfl ?_
                      refine z_iload C dL_isTold_320 rfl ?_
                      refine z_iload C dL_isTold_322 rfl ?_
                      refine z_iconst C dL_isTold_324 ?_
                      refine z_iaddZ C dL_isTold_325 ?_
                      rw [show (o : Int) + 1 = ((o + 1 : Nat) : Int) by omega]
                      refine z_callS C dL_isTold_326 lk_L_159 mw_L_times mst_L_times (kti i (o + 1) hXl (by omega) (by omega)) rfl (by first | decide | exact Nat.le_of_ble_eq_true rfl) ⟨by decide, by decide, by decide, by decide⟩ (fun _ _ h => False.elim h) (fun v M' hp => ?_)
                      obtain ⟨rfl, rfl⟩ := hp
                      refine z_iaddZ C dL_isTold_329 ?_
                      exact j330 _ (by unfold ztd; rw [h254, h264, h276, h285, if_neg (by decide), if_neg (by decide), if_neg (by decide), if_neg (by decide), if_neg (by omega)]) (by omega)
                    · refine z_iconst C dL_isTold_311 ?_
                      refine z_goto (tgt := 330) C dL_isTold_312 (by decide) ?_
                      exact j330 _ (by unfold ztd; rw [h254, h264, h276, h285, if_neg (by decide), if_neg (by decide), if_neg (by decide), if_neg (by decide), if_pos (by omega)]) (by omega)
                  · refine z_iload C dL_isTold_288 rfl ?_
                    refine z_aload C dL_isTold_290 rfl ?_
                    refine z_iconst C dL_isTold_292 ?_
                    refine z_iload C dL_isTold_293 rfl ?_
                    refine z_imulZ C dL_isTold_295 ?_
                    refine z_iload C dL_isTold_296 rfl ?_
                    refine z_iaddZ C dL_isTold_298 ?_
                    refine z_aldW C dL_isTold_299 hM15 (by omega) (by omega) ?_
                    rw [show (3 * (i : Int) + (o : Int)).toNat = 3 * i + o by omega, e15]
                    refine z_iaddZ C dL_isTold_300 ?_
                    refine z_goto (tgt := 330) C dL_isTold_301 (by decide) ?_
                    have e10 : zf10 r x = 1 := by omega
                    exact j330 _ (by unfold ztd; rw [h254, h264, h276, e10, if_neg (by decide), if_neg (by decide), if_neg (by decide), if_pos rfl]) (by omega)
                · refine z_iconst C dL_isTold_279 ?_
                  refine z_goto (tgt := 330) C dL_isTold_280 (by decide) ?_
                  have e8 : zf8 x = 1 := by omega
                  exact j330 _ (by unfold ztd; rw [h254, h264, e8, if_neg (by decide), if_neg (by decide), if_pos rfl]) (by omega)
              · refine z_iload C dL_isTold_267 rfl ?_
                refine z_iconst C dL_isTold_269 ?_
                refine z_idivZ C dL_isTold_270 (by omega) (by omega) ?_
                refine z_goto (tgt := 330) C dL_isTold_271 (by decide) ?_
                have e7 : zf7 x = 1 := by omega
                exact j330 _ (by unfold ztd; rw [h254, e7, if_neg (by decide), if_pos rfl]) (by omega)
            · refine z_iload C dL_isTold_257 rfl ?_
              refine z_goto (tgt := 330) C dL_isTold_259 (by decide) ?_
              have e9 : zf9 x = 1 := by omega
              exact j330 _ (by unfold ztd; rw [e9, if_pos rfl]) (by omega)
      refine z_iload C dL_isTold_220 rfl ?_
      refine z_aload_n C dL_isTold_222 rfl ?_
      refine z_iload C dL_isTold_223 rfl ?_
      refine z_callV C dL_isTold_225 lk_L_128 mw_X8_documentLength mi_X8_documentLength ms_X8_documentLength rfl hM0 kdl rfl (by first | decide | exact Nat.le_of_ble_eq_true rfl) ⟨by decide, by decide, by decide, by decide⟩ (fun _ _ h => False.elim h) (fun v M' hp => ?_)
      obtain ⟨rfl, rfl⟩ := hp
      refine z_icmp_geZ (tgt := 367) C dL_isTold_228 (by decide) (by omega) (by omega) (fun h228 => ?_) (fun h228 => ?_)
      · exact absurd h228 (by omega)
      · refine z_iconst C dL_isTold_231 ?_
        refine z_istore C dL_isTold_232 (by decide) ?_
        exact inner 3 0 o20 o21 rfl
  have j205 : ∀ (M2 : zM) (Y' : zSys) (q14 q15 : Nat) (f14 f15 : Nat → Int) (T : Int), hFc γ M2 U Y' → yOk Y' → zIv r d (y + 1) (b + b + 1) (yS Y') → zActs r d x (yS Y) (yS Y') → T = (if zf10 r x = 0 then zaR r x else zaO r x) → M2 q14 = some (zar γ (3 * dLe (sDc (yS Y) (zaD d x).toNat)).toNat f14) → M2 q15 = some (zar γ (3 * dLe (sDc (yS Y) (zaD d x).toNat)).toNat f15) → (∀ j : Nat, j < 3 * dLe (sDc (yS Y) (zaD d x).toNat) → f14 j = zcn (rC (sRd (yS Y) (zaR r x).toNat)) (sDc (yS Y) (zaD d x).toNat) j) → (∀ j : Nat, j < 3 * dLe (sDc (yS Y) (zaD d x).toNat) → f15 j = zcn (rC (sRd (yS Y) (zaO r x).toNat)) (sDc (yS Y) (zaD d x).toNat) j) → zAW p l e { frames := 9, cells := 6, slots := 144, locals := 230 } s m args below meth c γ 22 Q M2 5 102 205 [some (.ref (U 0)), some (.int (zi x)), some (.int (zi (x / 8))), some (.int (zi r)), some (.int (zi (zaR r x))), some (.int (zi (zaO r x))), some (.int (zi (zaD d x))), some (.int (zi (zf7 x))), some (.int (zi (zf8 x))), some (.int (zi (zf9 x))), some (.int (zi (zf10 r x))), some (.int (zi (zf11 r x))), some (.int (zi (rTr (sRd (yS Y) (zaR r x).toNat)))), some (.int (zi (rTm (sRd (yS Y) (zaR r x).toNat) (zaD d x).toNat))), some (.ref q14), some (.ref q15), none, none, none, none, none, none] [.int (zi T)] := by
    intro M2 Y' q14 q15 f14 f15 T hc3 hk3 hI3 hA hT hM14 hM15 hf14 hf15
    have eD := (hA.told hI hr.1 hd.1 hk.1).1
    have hTr : 0 ≤ T ∧ T < r := by
      rw [hT]
      split <;> omega
    have hrn3 : sRn (yS Y') = r := hI3.1.1
    have hdn3 : sDn (yS Y') = d := hI3.1.2.1
    have kco := k_L_counts (l := l) (M := M2) (rr := T) (dd := zaD d x) hc3 hk3 (by omega) (by omega) (by rw [eD]; exact hXl)
    rw [eD] at kco
    refine z_istore C dL_isTold_205 (by decide) ?_
    refine z_aload_n C dL_isTold_207 rfl ?_
    refine z_iload C dL_isTold_208 rfl ?_
    refine z_iload C dL_isTold_210 rfl ?_
    refine z_callS C dL_isTold_212 lk_L_151 mw_L_counts mst_L_counts kco rfl (by first | decide | exact Nat.le_of_ble_eq_true rfl) ⟨by decide, by decide, by decide, by decide⟩ (fun _ _ h => False.elim h) (fun v M' hp => ?_)
    obtain ⟨q17, f17, hq17, rfl, rfl, hf17⟩ := hp
    refine z_astore C dL_isTold_215 (by decide) ?_
    refine z_iconst C dL_isTold_217 ?_
    refine z_istore C dL_isTold_218 (by decide) ?_
    have n1 : q14 ≠ q17 := fun w => by rw [w, hq17] at hM14; cases hM14
    have n2 : q15 ≠ q17 := fun w => by rw [w, hq17] at hM15; cases hM15
    exact jL _ Y' q14 q15 q17 f14 f15 f17 T (hc3.up (hc3.no hq17)) hk3 hI3 hA hT ((va_up_ne _ _ n1).trans hM14) ((va_up_ne _ _ n2).trans hM15) (va_up_self _ _ _) hf14 hf15 hf17 (dLe (sDc (yS Y) (zaD d x).toNat)).toNat 0 none none none (by omega)
  obtain ⟨fs0, hM0⟩ := hc.ok0
  have j145 : zAW p l e { frames := 9, cells := 6, slots := 144, locals := 230 } s m args below meth c γ 22 Q M 0 0 145 [some (.ref (U 0)), some (.int (zi x)), some (.int (zi (x / 8))), some (.int (zi r)), some (.int (zi (zaR r x))), some (.int (zi (zaO r x))), some (.int (zi (zaD d x))), some (.int (zi (zf7 x))), some (.int (zi (zf8 x))), some (.int (zi (zf9 x))), some (.int (zi (zf10 r x))), some (.int (zi (zf11 r x))), none, none, none, none, none, none, none, none, none, none] [] := by
    refine z_aload_n C dL_isTold_145 rfl ?_
    refine z_iload C dL_isTold_146 rfl ?_
    refine z_callV C dL_isTold_148 lk_L_145 mw_X8_trainedSymbols mi_X8_trainedSymbols ms_X8_trainedSymbols rfl hM0 (k_I_trainedSymbols hc hk g1) rfl (by first | decide | exact Nat.le_of_ble_eq_true rfl) ⟨by decide, by decide, by decide, by decide⟩ (fun _ _ h => False.elim h) (fun v M' hp => ?_)
    obtain ⟨rfl, rfl⟩ := hp
    refine z_istore C dL_isTold_151 (by decide) ?_
    refine z_aload_n C dL_isTold_153 rfl ?_
    refine z_iload C dL_isTold_154 rfl ?_
    refine z_iload C dL_isTold_156 rfl ?_
    refine z_callV C dL_isTold_158 lk_L_148 mw_X8_timesTrained mi_X8_timesTrained ms_X8_timesTrained rfl hM0 (k_I_timesTrained hc hk g1 g3) rfl (by first | decide | exact Nat.le_of_ble_eq_true rfl) ⟨by decide, by decide, by decide, by decide⟩ (fun _ _ h => False.elim h) (fun v M' hp => ?_)
    obtain ⟨rfl, rfl⟩ := hp
    refine z_istore C dL_isTold_161 (by decide) ?_
    refine z_aload_n C dL_isTold_163 rfl ?_
    refine z_iload C dL_isTold_164 rfl ?_
    refine z_iload C dL_isTold_166 rfl ?_
    refine z_callS C dL_isTold_168 lk_L_151 mw_L_counts mst_L_counts (k_L_counts hc hk g1 g3 hXl) rfl (by first | decide | exact Nat.le_of_ble_eq_true rfl) ⟨by decide, by decide, by decide, by decide⟩ (fun _ _ h => False.elim h) (fun v M' hp => ?_)
    obtain ⟨q14, f14, hq14, rfl, rfl, hf14⟩ := hp
    have hc1 := hc.up (x := some (zar γ (3 * dLe (sDc (yS Y) (zaD d x).toNat)).toNat f14)) (hc.no hq14)
    refine z_astore C dL_isTold_171 (by decide) ?_
    refine z_aload_n C dL_isTold_173 rfl ?_
    refine z_iload C dL_isTold_174 rfl ?_
    refine z_iload C dL_isTold_176 rfl ?_
    refine z_callS C dL_isTold_178 lk_L_151 mw_L_counts mst_L_counts (k_L_counts hc1 hk g2 g3 hXl) rfl (by first | decide | exact Nat.le_of_ble_eq_true rfl) ⟨by decide, by decide, by decide, by decide⟩ (fun _ _ h => False.elim h) (fun v M' hp => ?_)
    obtain ⟨q15, f15, hq15, rfl, rfl, hf15⟩ := hp
    have hc2 := hc1.up (x := some (zar γ (3 * dLe (sDc (yS Y) (zaD d x).toNat)).toNat f15)) (hc1.no hq15)
    have nn : q14 ≠ q15 := fun w => by rw [← w, va_up_self] at hq15; cases hq15
    have u14 := zFU_no (hc.no hq14)
    have u15 := zFU_no (hc1.no hq15)
    refine z_astore C dL_isTold_181 (by decide) ?_
    refine z_aload_n C dL_isTold_183 rfl ?_
    refine z_iload_n C dL_isTold_184 rfl ?_
    refine z_callS C dL_isTold_185 lk_L_155 mw_L_acts mst_L_acts (k_L_acts hc2 hk hI hr hd hy hx) rfl (by first | decide | exact Nat.le_of_ble_eq_true rfl) ⟨by decide, by decide, by decide, by decide⟩ (fun _ _ h => False.elim h) (fun v M' hp => ?_)
    obtain ⟨Y', z, ⟨f185, hc3⟩, hk3, hA, rfl, hz0, hz1⟩ := hp
    have hI3 := hA.iv hI hr.1 hd.1 hb.1
    have m14 := (f185 q14 u14).trans ((va_up_ne _ _ nn).trans (va_up_self _ _ _))
    have m15 := (f185 q15 u15).trans (va_up_self _ _ _)
    refine z_if_geZ (tgt := 193) C dL_isTold_188 (by decide) (by omega) (fun h188 => ?_) (fun h188 => ?_)
    · refine z_iload C dL_isTold_193 rfl ?_
      refine z_if_eqZ (tgt := 203) C dL_isTold_195 (by decide) (by omega) (fun h195 => ?_) (fun h195 => ?_)
      · refine z_iload C dL_isTold_203 rfl ?_
        exact j205 _ Y' q14 q15 f14 f15 _ hc3 hk3 hI3 hA (if_pos h195).symm m14 m15 hf14 hf15
      · refine z_iload C dL_isTold_198 rfl ?_
        refine z_goto (tgt := 205) C dL_isTold_200 (by decide) ?_
        exact j205 _ Y' q14 q15 f14 f15 _ hc3 hk3 hI3 hA (if_neg h195).symm m14 m15 hf14 hf15
    · exact absurd hz0 (by omega)
  have j143 : ∀ v : Int, v = zf11 r x → zAW p l e { frames := 9, cells := 6, slots := 144, locals := 230 } s m args below meth c γ 22 Q M 0 0 143 [some (.ref (U 0)), some (.int (zi x)), some (.int (zi (x / 8))), some (.int (zi r)), some (.int (zi (zaR r x))), some (.int (zi (zaO r x))), some (.int (zi (zaD d x))), some (.int (zi (zf7 x))), some (.int (zi (zf8 x))), some (.int (zi (zf9 x))), some (.int (zi (zf10 r x))), none, none, none, none, none, none, none, none, none, none, none] [.int (zi v)] := by
    intro v hv
    rw [hv]
    refine z_istore C dL_isTold_143 (by decide) ?_
    exact j145
  have j118 : zAW p l e { frames := 9, cells := 6, slots := 144, locals := 230 } s m args below meth c γ 22 Q M 0 0 118 [some (.ref (U 0)), some (.int (zi x)), some (.int (zi (x / 8))), some (.int (zi r)), some (.int (zi (zaR r x))), some (.int (zi (zaO r x))), some (.int (zi (zaD d x))), some (.int (zi (zf7 x))), some (.int (zi (zf8 x))), some (.int (zi (zf9 x))), some (.int (zi (zf10 r x))), none, none, none, none, none, none, none, none, none, none, none] [] := by
    refine z_iload C dL_isTold_118 rfl ?_
    refine z_if_neZ (tgt := 142) C dL_isTold_120 (by decide) (by omega) (fun h120 => ?_) (fun h120 => ?_)
    · refine z_iconst C dL_isTold_142 ?_
      exact j143 _ (by unfold zf11; rw [if_neg (by omega)])
    · refine z_iload C dL_isTold_123 rfl ?_
      refine z_if_neZ (tgt := 142) C dL_isTold_125 (by decide) (by omega) (fun h125 => ?_) (fun h125 => ?_)
      · refine z_iconst C dL_isTold_142 ?_
        exact j143 _ (by unfold zf11; rw [if_neg (by omega)])
      · refine z_iload C dL_isTold_128 rfl ?_
        refine z_if_neZ (tgt := 142) C dL_isTold_130 (by decide) (by omega) (fun h130 => ?_) (fun h130 => ?_)
        · refine z_iconst C dL_isTold_142 ?_
          exact j143 _ (by unfold zf11; rw [if_neg (by omega)])
        · refine z_iload C dL_isTold_133 rfl ?_
          refine z_if_neZ (tgt := 142) C dL_isTold_135 (by decide) (by omega) (fun h135 => ?_) (fun h135 => ?_)
          · refine z_iconst C dL_isTold_142 ?_
            exact j143 _ (by unfold zf11; rw [if_neg (by omega)])
          · refine z_iconst C dL_isTold_138 ?_
            refine z_goto (tgt := 143) C dL_isTold_139 (by decide) ?_
            exact j143 _ (by unfold zf11; rw [if_pos (by omega)])
  have j116 : ∀ v : Int, v = zf10 r x → zAW p l e { frames := 9, cells := 6, slots := 144, locals := 230 } s m args below meth c γ 22 Q M 0 0 116 [some (.ref (U 0)), some (.int (zi x)), some (.int (zi (x / 8))), some (.int (zi r)), some (.int (zi (zaR r x))), some (.int (zi (zaO r x))), some (.int (zi (zaD d x))), some (.int (zi (zf7 x))), some (.int (zi (zf8 x))), some (.int (zi (zf9 x))), none, none, none, none, none, none, none, none, none, none, none, none] [.int (zi v)] := by
    intro v hv
    rw [hv]
    refine z_istore C dL_isTold_116 (by decide) ?_
    exact j118
  have j96 : zAW p l e { frames := 9, cells := 6, slots := 144, locals := 230 } s m args below meth c γ 22 Q M 0 0 96 [some (.ref (U 0)), some (.int (zi x)), some (.int (zi (x / 8))), some (.int (zi r)), some (.int (zi (zaR r x))), some (.int (zi (zaO r x))), some (.int (zi (zaD d x))), some (.int (zi (zf7 x))), some (.int (zi (zf8 x))), some (.int (zi (zf9 x))), none, none, none, none, none, none, none, none, none, none, none, none] [] := by
    refine z_iload_n C dL_isTold_96 rfl ?_
    refine z_bipush C dL_isTold_97 (by decide) ?_
    refine z_iremZ C dL_isTold_99 (by omega) (by omega) ?_
    refine z_iconst C dL_isTold_100 ?_
    refine z_icmp_neZ (tgt := 115) C dL_isTold_101 (by decide) (by omega) (by omega) (fun h101 => ?_) (fun h101 => ?_)
    · refine z_iconst C dL_isTold_115 ?_
      exact j116 _ (by unfold zf10; rw [if_neg (by omega)])
    · refine z_iload C dL_isTold_104 rfl ?_
      refine z_iload C dL_isTold_106 rfl ?_
      refine z_icmp_eqZ (tgt := 115) C dL_isTold_108 (by decide) (by omega) (by omega) (fun h108 => ?_) (fun h108 => ?_)
      · refine z_iconst C dL_isTold_115 ?_
        exact j116 _ (by unfold zf10; rw [if_neg (by omega)])
      · refine z_iconst C dL_isTold_111 ?_
        refine z_goto (tgt := 116) C dL_isTold_112 (by decide) ?_
        exact j116 _ (by unfold zf10; rw [if_pos (by omega)])
  have j94 : ∀ v : Int, v = zf9 x → zAW p l e { frames := 9, cells := 6, slots := 144, locals := 230 } s m args below meth c γ 22 Q M 0 0 94 [some (.ref (U 0)), some (.int (zi x)), some (.int (zi (x / 8))), some (.int (zi r)), some (.int (zi (zaR r x))), some (.int (zi (zaO r x))), some (.int (zi (zaD d x))), some (.int (zi (zf7 x))), some (.int (zi (zf8 x))), none, none, none, none, none, none, none, none, none, none, none, none, none] [.int (zi v)] := by
    intro v hv
    rw [hv]
    refine z_istore C dL_isTold_94 (by decide) ?_
    exact j96
  have j81 : zAW p l e { frames := 9, cells := 6, slots := 144, locals := 230 } s m args below meth c γ 22 Q M 0 0 81 [some (.ref (U 0)), some (.int (zi x)), some (.int (zi (x / 8))), some (.int (zi r)), some (.int (zi (zaR r x))), some (.int (zi (zaO r x))), some (.int (zi (zaD d x))), some (.int (zi (zf7 x))), some (.int (zi (zf8 x))), none, none, none, none, none, none, none, none, none, none, none, none, none] [] := by
    refine z_iload_n C dL_isTold_81 rfl ?_
    refine z_bipush C dL_isTold_82 (by decide) ?_
    refine z_iremZ C dL_isTold_84 (by omega) (by omega) ?_
    refine z_iconst C dL_isTold_85 ?_
    refine z_icmp_neZ (tgt := 93) C dL_isTold_86 (by decide) (by omega) (by omega) (fun h86 => ?_) (fun h86 => ?_)
    · refine z_iconst C dL_isTold_93 ?_
      exact j94 _ (by unfold zf9; rw [if_neg (by omega)])
    · refine z_iconst C dL_isTold_89 ?_
      refine z_goto (tgt := 94) C dL_isTold_90 (by decide) ?_
      exact j94 _ (by unfold zf9; rw [if_pos (by omega)])
  have j79 : ∀ v : Int, v = zf8 x → zAW p l e { frames := 9, cells := 6, slots := 144, locals := 230 } s m args below meth c γ 22 Q M 0 0 79 [some (.ref (U 0)), some (.int (zi x)), some (.int (zi (x / 8))), some (.int (zi r)), some (.int (zi (zaR r x))), some (.int (zi (zaO r x))), some (.int (zi (zaD d x))), some (.int (zi (zf7 x))), none, none, none, none, none, none, none, none, none, none, none, none, none, none] [.int (zi v)] := by
    intro v hv
    rw [hv]
    refine z_istore C dL_isTold_79 (by decide) ?_
    exact j81
  have j57 : zAW p l e { frames := 9, cells := 6, slots := 144, locals := 230 } s m args below meth c γ 22 Q M 0 0 57 [some (.ref (U 0)), some (.int (zi x)), some (.int (zi (x / 8))), some (.int (zi r)), some (.int (zi (zaR r x))), some (.int (zi (zaO r x))), some (.int (zi (zaD d x))), some (.int (zi (zf7 x))), none, none, none, none, none, none, none, none, none, none, none, none, none, none] [] := by
    refine z_iload_n C dL_isTold_57 rfl ?_
    refine z_bipush C dL_isTold_58 (by decide) ?_
    refine z_iremZ C dL_isTold_60 (by omega) (by omega) ?_
    refine z_iconst C dL_isTold_61 ?_
    refine z_icmp_neZ (tgt := 78) C dL_isTold_62 (by decide) (by omega) (by omega) (fun h62 => ?_) (fun h62 => ?_)
    · refine z_iconst C dL_isTold_78 ?_
      exact j79 _ (by unfold zf8; rw [if_neg (by omega)])
    · refine z_iload_n C dL_isTold_65 rfl ?_
      refine z_bipush C dL_isTold_66 (by decide) ?_
      refine z_idivZ C dL_isTold_68 (by omega) (by omega) ?_
      refine z_iconst C dL_isTold_69 ?_
      refine z_iremZ C dL_isTold_70 (by omega) (by omega) ?_
      refine z_if_neZ (tgt := 78) C dL_isTold_71 (by decide) (by omega) (fun h71 => ?_) (fun h71 => ?_)
      · refine z_iconst C dL_isTold_78 ?_
        exact j79 _ (by unfold zf8; rw [if_neg (by omega)])
      · refine z_iconst C dL_isTold_74 ?_
        refine z_goto (tgt := 79) C dL_isTold_75 (by decide) ?_
        exact j79 _ (by unfold zf8; rw [if_pos (by omega)])
  have j55 : ∀ v : Int, v = zf7 x → zAW p l e { frames := 9, cells := 6, slots := 144, locals := 230 } s m args below meth c γ 22 Q M 0 0 55 [some (.ref (U 0)), some (.int (zi x)), some (.int (zi (x / 8))), some (.int (zi r)), some (.int (zi (zaR r x))), some (.int (zi (zaO r x))), some (.int (zi (zaD d x))), none, none, none, none, none, none, none, none, none, none, none, none, none, none, none] [.int (zi v)] := by
    intro v hv
    rw [hv]
    refine z_istore C dL_isTold_55 (by decide) ?_
    exact j57
  refine z_iload_n C dL_isTold_0 rfl ?_
  refine z_bipush C dL_isTold_1 (by decide) ?_
  refine z_idivZ C dL_isTold_3 (by omega) (by omega) ?_
  refine z_istore_n C dL_isTold_4 (by decide) ?_
  refine z_aload_n C dL_isTold_5 rfl ?_
  refine z_callV C dL_isTold_6 lk_L_78 mw_X8_readerCount mi_X8_readerCount ms_X8_readerCount rfl hM0 (k_I_readerCount hc hk) rfl (by first | decide | exact Nat.le_of_ble_eq_true rfl) ⟨by decide, by decide, by decide, by decide⟩ (fun _ _ h => False.elim h) (fun v M' hp => ?_)
  obtain ⟨rfl, rfl⟩ := hp
  rw [hrn]
  refine z_istore_n C dL_isTold_9 (by decide) ?_
  refine z_iload_n C dL_isTold_10 rfl ?_
  refine z_iload_n C dL_isTold_11 rfl ?_
  refine z_iremZ C dL_isTold_12 (by omega) (by omega) ?_
  rw [show x / 8 % r = zaR r x from rfl]
  refine z_istore C dL_isTold_13 (by decide) ?_
  refine z_iload C dL_isTold_15 rfl ?_
  refine z_iconst C dL_isTold_17 ?_
  refine z_iaddZ C dL_isTold_18 ?_
  refine z_iload_n C dL_isTold_19 rfl ?_
  refine z_iremZ C dL_isTold_20 (by omega) (by omega) ?_
  rw [show (zaR r x + 1) % r = zaO r x from rfl]
  refine z_istore C dL_isTold_21 (by decide) ?_
  refine z_iload_n C dL_isTold_23 rfl ?_
  refine z_bipush C dL_isTold_24 (by decide) ?_
  refine z_idivZ C dL_isTold_26 (by omega) (by omega) ?_
  refine z_aload_n C dL_isTold_27 rfl ?_
  refine z_callV C dL_isTold_28 lk_L_81 mw_X8_documentCount mi_X8_documentCount ms_X8_documentCount rfl hM0 (k_I_documentCount hc hk) rfl (by first | decide | exact Nat.le_of_ble_eq_true rfl) ⟨by decide, by decide, by decide, by decide⟩ (fun _ _ h => False.elim h) (fun v M' hp => ?_)
  obtain ⟨rfl, rfl⟩ := hp
  rw [hdn]
  refine z_iremZ C dL_isTold_31 (by omega) (by omega) ?_
  rw [show x / 8 / 8 % d = zaD d x from rfl]
  refine z_istore C dL_isTold_32 (by decide) ?_
  refine z_iload_n C dL_isTold_34 rfl ?_
  refine z_bipush C dL_isTold_35 (by decide) ?_
  refine z_iremZ C dL_isTold_37 (by omega) (by omega) ?_
  refine z_if_neZ (tgt := 54) C dL_isTold_38 (by decide) (by omega) (fun h38 => ?_) (fun h38 => ?_)
  · refine z_iconst C dL_isTold_54 ?_
    exact j55 _ (by unfold zf7; rw [if_neg (by omega)])
  · refine z_iload_n C dL_isTold_41 rfl ?_
    refine z_bipush C dL_isTold_42 (by decide) ?_
    refine z_idivZ C dL_isTold_44 (by omega) (by omega) ?_
    refine z_iconst C dL_isTold_45 ?_
    refine z_iremZ C dL_isTold_46 (by omega) (by omega) ?_
    refine z_if_neZ (tgt := 54) C dL_isTold_47 (by decide) (by omega) (fun h47 => ?_) (fun h47 => ?_)
    · refine z_iconst C dL_isTold_54 ?_
      exact j55 _ (by unfold zf7; rw [if_neg (by omega)])
    · refine z_iconst C dL_isTold_50 ?_
      refine z_goto (tgt := 55) C dL_isTold_51 (by decide) ?_
      exact j55 _ (by unfold zf7; rw [if_pos (by omega)])

