/-! the law's word on the guesses -/
set_option maxHeartbeats 4000000 in
set_option maxRecDepth 100000 in
theorem k_L_isRanked {l : Launch} {γ : zG} {M : zM} {U : Nat → Nat} {Y : zSys} {x : Int} (hc : hFc γ M U Y) (hk : yOk Y) (hr : 1 ≤ sRn (yS Y)) (hx : 0 ≤ x ∧ x ≤ 2147483647) :
    zCon l γ yL_isRanked cL_isRanked 15 (some .boolean) [.ref (U 0), .int (zi x)] M 7 280 5 117 (fun v' M' => v' = some (.int (zi 1)) ∧ hFc γ M' U Y) (fun _ _ => False) := by
  have hkn := hk.1.1
  obtain ⟨fs0, hM0⟩ := hc.ok0
  refine zEnter [some (.ref (U 0)), some (.int (zi x)), none, none, none, none, none, none, none, none, none, none, none, none, none] (by decide +kernel) rfl rfl (Nat.le_of_ble_eq_true rfl) ?_
  intro p e s m args below meth c Q C hin hQ
  have j107 : ∀ (rr bb pp : Int), 0 ≤ rr ∧ rr < sRn (yS Y) → zCv bb pp → zAW p l e { frames := 7, cells := 5, slots := 117, locals := 280 } s m args below meth c γ 15 Q M 0 0 107 [some (.ref (U 0)), some (.int (zi x)), some (.int (zi rr)), some (.int (zi pp)), some (.int (zi bb)), some (.int (zi (zFo bb pp))), none, none, none, none, none, none, none, none, none] [] := by
    intro rr bb pp hrr hcv
    have hcR := (hk.1.2.2 rr.toNat (by omega)).1.2.2.1
    have hfo := zFo_rng bb pp
    have hbb := hcv.zb
    have hpp := hcv.zp
    unfold zR at hbb hpp
    have hTT0 := zsum_nn (f := (rC (sRd (yS Y) rr.toNat))) (lo := (zCs (zFo bb pp) bb pp)) (t := 27) (fun i _ => (hcR _).1)
    have hTT1 := zsum_le (f := (rC (sRd (yS Y) rr.toNat))) (lo := (zCs (zFo bb pp) bb pp)) (b := 999) (t := 27) (fun i _ => (hcR _).2)
    have hKK0 := zsum_nn (f := zind (rC (sRd (yS Y) rr.toNat))) (lo := (zCs (zFo bb pp) bb pp)) (t := 27) (fun i _ => (zind_rng _ _).1)
    have hKK1 := zsum_le (f := zind (rC (sRd (yS Y) rr.toNat))) (lo := (zCs (zFo bb pp) bb pp)) (b := 1) (t := 27) (fun i _ => (zind_rng _ _).2)
    have j420 : ∀ (M1 : zM) (o6 o7 o8 o9 o10 o11 o12 o13 o14 : Option Value), hFc γ M1 U Y → zAW p l e { frames := 7, cells := 5, slots := 117, locals := 280 } s m args below meth c γ 15 Q M1 1 27 420 [some (.ref (U 0)), some (.int (zi x)), some (.int (zi rr)), some (.int (zi pp)), some (.int (zi bb)), some (.int (zi (zFo bb pp))), o6, o7, o8, o9, o10, o11, o12, o13, o14] [] := by
      intro M1 o6 o7 o8 o9 o10 o11 o12 o13 o14 hc1
      have s1 : zSy (x / 256 % 5) := by unfold zSy; omega
      have s2 : zSy (x / 2048 % 27) := by unfold zSy; omega
      refine z_aload_n C dL_isRanked_420 rfl ?_
      refine z_iload_n C dL_isRanked_421 rfl ?_
      refine z_iload C dL_isRanked_422 rfl ?_
      refine z_iload_n C dL_isRanked_424 rfl ?_
      refine z_iload_n C dL_isRanked_425 rfl ?_
      refine z_sipush C dL_isRanked_426 (by decide) ?_
      refine z_idivZ C dL_isRanked_429 (by omega) (by omega) ?_
      refine z_iconst C dL_isRanked_430 ?_
      refine z_iremZ C dL_isRanked_431 (by omega) (by omega) ?_
      refine z_callS C dL_isRanked_432 lk_L_190 mw_L_isFraction mst_L_isFraction (k_L_isFraction hc1 hk hrr hcv s1) rfl (by first | decide | exact Nat.le_of_ble_eq_true rfl) ⟨by decide, by decide, by decide, by decide⟩ (fun _ _ h => False.elim h) (fun v M' hp => ?_)
      obtain ⟨rfl, hc2⟩ := hp
      refine z_if_eqZ (tgt := 461) C dL_isRanked_435 (by decide) (by omega) (fun h435 => ?_) (fun h435 => ?_)
      · exact absurd h435 (by decide)
      · refine z_aload_n C dL_isRanked_438 rfl ?_
        refine z_iload_n C dL_isRanked_439 rfl ?_
        refine z_iload C dL_isRanked_440 rfl ?_
        refine z_iload_n C dL_isRanked_442 rfl ?_
        refine z_iload_n C dL_isRanked_443 rfl ?_
        refine z_sipush C dL_isRanked_444 (by decide) ?_
        refine z_idivZ C dL_isRanked_447 (by omega) (by omega) ?_
        refine z_bipush C dL_isRanked_448 (by decide) ?_
        refine z_iremZ C dL_isRanked_450 (by omega) (by omega) ?_
        refine z_callS C dL_isRanked_451 lk_L_190 mw_L_isFraction mst_L_isFraction (k_L_isFraction hc2 hk hrr hcv s2) rfl (by first | decide | exact Nat.le_of_ble_eq_true rfl) ⟨by decide, by decide, by decide, by decide⟩ (fun _ _ h => False.elim h) (fun v M' hp => ?_)
        obtain ⟨rfl, hc3⟩ := hp
        refine z_if_eqZ (tgt := 461) C dL_isRanked_454 (by decide) (by omega) (fun h454 => ?_) (fun h454 => ?_)
        · exact absurd h454 (by decide)
        · refine z_iconst C dL_isRanked_457 ?_
          refine z_goto (tgt := 462) C dL_isRanked_458 (by decide) ?_
          refine z_iret C hQ dL_isRanked_462 rfl (by decide) (by decide) ?_
          exact ⟨rfl, hc3⟩
    have j392 : ∀ (M1 : zM) (o6 o7 o10 o11 o12 o13 o14 : Option Value), hFc γ M1 U Y → zAW p l e { frames := 7, cells := 5, slots := 117, locals := 280 } s m args below meth c γ 15 Q M1 1 27 392 [some (.ref (U 0)), some (.int (zi x)), some (.int (zi rr)), some (.int (zi pp)), some (.int (zi bb)), some (.int (zi (zFo bb pp))), o6, o7, some (.int (zi (zsum (rC (sRd (yS Y) rr.toNat)) (zCs (zFo bb pp) bb pp) 27))), some (.int (zi (zsum (zind (rC (sRd (yS Y) rr.toNat))) (zCs (zFo bb pp) bb pp) 27))), o10, o11, o12, o13, o14] [] := by
      intro M1 o6 o7 o10 o11 o12 o13 o14 hc1
      obtain ⟨fs1, hM1⟩ := hc1.ok0
      refine z_aload_n C dL_isRanked_392 rfl ?_
      refine z_iload_n C dL_isRanked_393 rfl ?_
      refine z_iload C dL_isRanked_394 rfl ?_
      refine z_iload_n C dL_isRanked_396 rfl ?_
      refine z_callV C dL_isRanked_397 lk_L_184 mw_X8_contextTotal mi_X8_contextTotal ms_X8_contextTotal rfl hM1 (k_I_contextTotal hc1 hk hrr hcv) rfl (by first | decide | exact Nat.le_of_ble_eq_true rfl) ⟨by decide, by decide, by decide, by decide⟩ (fun _ _ h => False.elim h) (fun v M' hp => ?_)
      obtain ⟨rfl, rfl⟩ := hp
      refine z_iload C dL_isRanked_400 rfl ?_
      refine z_icmp_neZ (tgt := 418) C dL_isRanked_402 (by decide) (by omega) (by omega) (fun h402 => ?_) (fun h402 => ?_)
      · exact absurd rfl h402
      · refine z_aload_n C dL_isRanked_405 rfl ?_
        refine z_iload_n C dL_isRanked_406 rfl ?_
        refine z_iload C dL_isRanked_407 rfl ?_
        refine z_iload_n C dL_isRanked_409 rfl ?_
        refine z_callV C dL_isRanked_410 lk_L_187 mw_X8_contextSymbols mi_X8_contextSymbols ms_X8_contextSymbols rfl hM1 (k_I_contextSymbols hc1 hk hrr hcv) rfl (by first | decide | exact Nat.le_of_ble_eq_true rfl) ⟨by decide, by decide, by decide, by decide⟩ (fun _ _ h => False.elim h) (fun v M' hp => ?_)
        obtain ⟨rfl, rfl⟩ := hp
        refine z_iload C dL_isRanked_413 rfl ?_
        refine z_icmp_eqZ (tgt := 420) C dL_isRanked_415 (by decide) (by omega) (by omega) (fun h415 => ?_) (fun h415 => ?_)
        · exact j420 _ _ _ _ _ _ _ _ _ _ hc1
        · exact absurd rfl h415
    have j319 : ∀ (q : Nat), (∀ i, i < 532 → U i ≠ q) → ∀ (sn : Int → Int) (f : Nat → Int32), (∀ j : Nat, j < 27 → f j = zi (sn j)) → (∀ y, sn y = 0 ∨ sn y = 1) → zSo (rC (sRd (yS Y) rr.toNat)) bb pp sn (-1) → ∀ (t y : Nat) (M1 : zM) (rk : Int) (o11 o12 o13 o14 : Option Value), y + t = 27 → hFc γ M1 U Y → M1 q = some (zaZ γ 27 f) → zSn (rC (sRd (yS Y) rr.toNat)) bb pp (zsl sn y) rk → zAW p l e { frames := 7, cells := 5, slots := 117, locals := 280 } s m args below meth c γ 15 Q M1 1 27 319 [some (.ref (U 0)), some (.int (zi x)), some (.int (zi rr)), some (.int (zi pp)), some (.int (zi bb)), some (.int (zi (zFo bb pp))), some (.ref q), some (.int (zi rk)), some (.int (zi (zsum (rC (sRd (yS Y) rr.toNat)) (zCs (zFo bb pp) bb pp) 27))), some (.int (zi (zsum (zind (rC (sRd (yS Y) rr.toNat))) (zCs (zFo bb pp) bb pp) 27))), some (.int (zi (y : Int))), o11, o12, o13, o14] [] := by
      intro q hqU sn f hf h01 hSo t
      induction t with
      | zero =>
        intro y M1 rk o11 o12 o13 o14 hy hc1 hMq hN
        refine z_iload C dL_isRanked_319 rfl ?_
        refine z_bipush C dL_isRanked_321 (by decide) ?_
        refine z_icmp_geZ (tgt := 392) C dL_isRanked_323 (by decide) (by omega) (by omega) (fun h323 => ?_) (fun h323 => ?_)
        · exact j392 _ _ _ _ _ _ _ _ hc1
        · exact absurd h323 (by omega)
      | succ t ih =>
        intro y M1 rk o11 o12 o13 o14 hy hc1 hMq hN
        have h0 := h01 (y : Int)
        have hrk := hN.rng
        obtain ⟨fs1, hM1⟩ := hc1.ok0
        refine z_iload C dL_isRanked_319 rfl ?_
        refine z_bipush C dL_isRanked_321 (by decide) ?_
        refine z_icmp_geZ (tgt := 392) C dL_isRanked_323 (by decide) (by omega) (by omega) (fun h323 => ?_) (fun h323 => ?_)
        · exact absurd h323 (by omega)
        · refine z_aload C dL_isRanked_326 rfl ?_
          refine z_iload C dL_isRanked_328 rfl ?_
          refine z_aldZ C dL_isRanked_330 hMq (by omega) (by omega) ?_
          rw [Int.toNat_natCast, hf y (by omega)]
          refine z_if_eqZ (tgt := 337) C dL_isRanked_331 (by decide) (by omega) (fun h331 => ?_) (fun h331 => ?_)
          · obtain ⟨g1, g2, g3, g4⟩ := zsl.lst (i := (y : Int)) hSo hN (by omega) (by omega)
            have g5 := zgs_rk (c := (rC (sRd (yS Y) rr.toNat))) (b := bb) (p := pp) (s := (y : Int)) (by omega)
            rw [g1] at g5
            refine z_aload_n C dL_isRanked_337 rfl ?_
            refine z_iload_n C dL_isRanked_338 rfl ?_
            refine z_iload C dL_isRanked_339 rfl ?_
            refine z_iload_n C dL_isRanked_341 rfl ?_
            refine z_iload C dL_isRanked_342 rfl ?_
            refine z_callV C dL_isRanked_344 lk_L_175 mw_X8_symbolAtRank mi_X8_symbolAtRank ms_X8_symbolAtRank rfl hM1 (k_I_symbolAtRank hc1 hk hrr hcv (by omega)) rfl (by first | decide | exact Nat.le_of_ble_eq_true rfl) ⟨by decide, by decide, by decide, by decide⟩ (fun _ _ h => False.elim h) (fun v M' hp => ?_)
            obtain ⟨hO2, -, hv⟩ := hp
            obtain rfl : v = some (.int (zi (y : Int))) := by rw [← g5]; exact hv
            obtain ⟨fs2, hM2⟩ := hO2.2.ok0
            refine z_iload C dL_isRanked_347 rfl ?_
            refine z_icmp_neZ (tgt := 381) C dL_isRanked_349 (by decide) (by omega) (by omega) (fun h349 => ?_) (fun h349 => ?_)
            · exact absurd rfl h349
            · refine z_aload_n C dL_isRanked_352 rfl ?_
              refine z_iload_n C dL_isRanked_353 rfl ?_
              refine z_iload C dL_isRanked_354 rfl ?_
              refine z_iload_n C dL_isRanked_356 rfl ?_
              refine z_iload C dL_isRanked_357 rfl ?_
              refine z_callV C dL_isRanked_359 lk_L_178 mw_X8_rank mi_X8_rank ms_X8_rank rfl hM2 (k_I_rank hO2.2 hk hrr hcv (ss := (y : Int)) (by unfold zSy; omega)) rfl (by first | decide | exact Nat.le_of_ble_eq_true rfl) ⟨by decide, by decide, by decide, by decide⟩ (fun _ _ h => False.elim h) (fun v M' hp => ?_)
              obtain ⟨hO3, -, hv⟩ := hp
              obtain rfl : v = some (.int (zi rk)) := by rw [← g1]; exact hv
              have hO4 := hO2.tr hO3
              obtain ⟨fs3, hM3⟩ := hO4.2.ok0
              refine z_iload C dL_isRanked_362 rfl ?_
              refine z_icmp_neZ (tgt := 381) C dL_isRanked_364 (by decide) (by omega) (by omega) (fun h364 => ?_) (fun h364 => ?_)
              · exact absurd rfl h364
              · refine z_aload_n C dL_isRanked_367 rfl ?_
                refine z_iload_n C dL_isRanked_368 rfl ?_
                refine z_iload C dL_isRanked_369 rfl ?_
                refine z_iload_n C dL_isRanked_371 rfl ?_
                refine z_iload C dL_isRanked_372 rfl ?_
                refine z_callV C dL_isRanked_374 lk_L_181 mw_X8_foundOrder mi_X8_foundOrder ms_X8_foundOrder rfl hM3 (k_I_foundOrder hO4.2 hk hrr hcv (ss := (y : Int)) (by unfold zSy; omega)) rfl (by first | decide | exact Nat.le_of_ble_eq_true rfl) ⟨by decide, by decide, by decide, by decide⟩ (fun _ _ h => False.elim h) (fun v M' hp => ?_)
                obtain ⟨rfl, rfl⟩ := hp
                rw [g2]
                refine z_iconst C dL_isRanked_377 ?_
                refine z_icmp_eqZ (tgt := 383) C dL_isRanked_378 (by decide) (by omega) (by omega) (fun h378 => ?_) (fun h378 => ?_)
                · refine z_iincZ C dL_isRanked_383 rfl (by decide) ?_
                  refine z_iincZ C dL_isRanked_386 rfl (by decide) ?_
                  refine z_goto (tgt := 319) C dL_isRanked_389 (by decide) ?_
                  exact ih (y + 1) _ (rk + 1) _ _ _ _ (by omega) hO4.2 ((hO4.1 q (zFU_no hqU)).trans hMq) g4
                · exact absurd rfl h378
          · refine z_goto (tgt := 386) C dL_isRanked_334 (by decide) ?_
            refine z_iincZ C dL_isRanked_386 rfl (by decide) ?_
            refine z_goto (tgt := 319) C dL_isRanked_389 (by decide) ?_
            exact ih (y + 1) _ rk _ _ _ _ (by omega) hc1 hMq (by rw [show ((y + 1 : Nat) : Int) = (y : Int) + 1 by omega, zsl.nx (by omega)]; exact hN)
    have j126 : ∀ (q : Nat), (∀ i, i < 532 → U i ≠ q) → ∀ (t : Nat) (M1 : zM) (sn : Int → Int) (f : Nat → Int32) (rk t8 t9 : Int) (o11 o12 o13 o14 : Option Value), (t : Int) ≤ zFo bb pp + 1 → hFc γ M1 U Y → M1 q = some (zaZ γ 27 f) → (∀ j : Nat, j < 27 → f j = zi (sn j)) → zSn (rC (sRd (yS Y) rr.toNat)) bb pp sn rk → zSo (rC (sRd (yS Y) rr.toNat)) bb pp sn ((t : Int) - 1) → (((t : Int) - 1 = zFo bb pp ∧ t8 = 0 ∧ t9 = 0) ∨ ((t : Int) - 1 < zFo bb pp ∧ t8 = (zsum (rC (sRd (yS Y) rr.toNat)) (zCs (zFo bb pp) bb pp) 27) ∧ t9 = (zsum (zind (rC (sRd (yS Y) rr.toNat))) (zCs (zFo bb pp) bb pp) 27))) → zAW p l e { frames := 7, cells := 5, slots := 117, locals := 280 } s m args below meth c γ 15 Q M1 1 27 126 [some (.ref (U 0)), some (.int (zi x)), some (.int (zi rr)), some (.int (zi pp)), some (.int (zi bb)), some (.int (zi (zFo bb pp))), some (.ref q), some (.int (zi rk)), some (.int (zi t8)), some (.int (zi t9)), some (.int (zi ((t : Int) - 1))), o11, o12, o13, o14] [] := by
      intro q hqU t
      induction t with
      | zero =>
        intro M1 sn f rk t8 t9 o11 o12 o13 o14 ht hc1 hMq hf hN hSo h89
        rw [show ((0 : Nat) : Int) - 1 = -1 by omega] at hSo h89 ⊢
        have e8 : t8 = (zsum (rC (sRd (yS Y) rr.toNat)) (zCs (zFo bb pp) bb pp) 27) := by omega
        have e9 : t9 = (zsum (zind (rC (sRd (yS Y) rr.toNat))) (zCs (zFo bb pp) bb pp) 27) := by omega
        rw [e8, e9]
        refine z_iload C dL_isRanked_126 rfl ?_
        refine z_if_ltZ (tgt := 316) C dL_isRanked_128 (by decide) (by omega) (fun h128 => ?_) (fun h128 => ?_)
        · refine z_iconst C dL_isRanked_316 ?_
          refine z_istore C dL_isRanked_317 (by decide) ?_
          exact j319 q hqU sn f hf hN.1 hSo 27 0 M1 rk _ _ _ _ rfl hc1 hMq (hN.cg (fun y => by
            unfold zsl
            split
            · exact .inr rfl
            · exact hN.1 y) (fun y hy => if_neg (by omega)))
        · exact absurd h128 (by omega)
      | succ t ih =>
        intro M1 sn f rk t8 t9 o11 o12 o13 o14 ht hc1 hMq hf hN hSo h89
        rw [show ((t + 1 : Nat) : Int) - 1 = (t : Int) by omega] at hSo h89 ⊢
        have ho : 0 ≤ (t : Int) ∧ (t : Int) ≤ zFo bb pp := by omega
        have j134 : ∀ (tt turn : Nat) (M1 : zM) (sn : Int → Int) (f : Nat → Int32) (rk t8 t9 : Int) (o12 o13 o14 : Option Value), turn + tt = 27 → 1 + (turn : Int) ≤ rk → hFc γ M1 U Y → M1 q = some (zaZ γ 27 f) → (∀ j : Nat, j < 27 → f j = zi (sn j)) → zSn (rC (sRd (yS Y) rr.toNat)) bb pp sn rk → zSo (rC (sRd (yS Y) rr.toNat)) bb pp sn (t : Int) → ((((t : Int) = zFo bb pp ∧ (turn : Int) = 0) ∧ t8 = 0 ∧ t9 = 0) ∨ (¬ ((t : Int) = zFo bb pp ∧ (turn : Int) = 0) ∧ t8 = (zsum (rC (sRd (yS Y) rr.toNat)) (zCs (zFo bb pp) bb pp) 27) ∧ t9 = (zsum (zind (rC (sRd (yS Y) rr.toNat))) (zCs (zFo bb pp) bb pp) 27))) → zAW p l e { frames := 7, cells := 5, slots := 117, locals := 280 } s m args below meth c γ 15 Q M1 1 27 134 [some (.ref (U 0)), some (.int (zi x)), some (.int (zi rr)), some (.int (zi pp)), some (.int (zi bb)), some (.int (zi (zFo bb pp))), some (.ref q), some (.int (zi rk)), some (.int (zi t8)), some (.int (zi t9)), some (.int (zi (t : Int))), some (.int (zi (turn : Int))), o12, o13, o14] [] := by
          intro tt
          induction tt with
          | zero =>
            intro turn M1 sn f rk t8 t9 o12 o13 o14 hturn hrk1 hc1 hMq hf hN hSo h89
            have hd := hSo.all hN (by omega)
            refine z_iload C dL_isRanked_134 rfl ?_
            refine z_bipush C dL_isRanked_136 (by decide) ?_
            refine z_icmp_geZ (tgt := 310) C dL_isRanked_138 (by decide) (by omega) (by omega) (fun h138 => ?_) (fun h138 => ?_)
            · refine z_iincZ C dL_isRanked_310 rfl (by decide) ?_
              refine z_goto (tgt := 126) C dL_isRanked_313 (by decide) ?_
              rw [show (t : Int) + -1 = (t : Int) - 1 by omega]
              exact ih M1 sn f rk t8 t9 _ _ _ _ (by omega) hc1 hMq hf hN hd (by omega)
            · exact absurd h138 (by omega)
          | succ tt ih2 =>
            intro turn M1 sn f rk t8 t9 o12 o13 o14 hturn hrk1 hc1 hMq hf hN hSo h89
            obtain ⟨fs1, hM1⟩ := hc1.ok0
            have hrk := hN.rng
            have h01 := hN.1
            have hge := fun (y : Int) (h : (rC (sRd (yS Y) rr.toNat)) (zCs (t : Int) bb pp + y) ≠ 0) => zlv_ge (c := (rC (sRd (yS Y) rr.toNat))) (b := bb) (p := pp) (s := y) ho h
            have kco := fun (y : Int) (hy : zSy y) => k_L_count (l := l) (M := M1) (oo := (t : Int)) (ss := y) hc1 hk hrr hcv ho hy
            have j147 : ∀ (uu y : Nat) (best t8 t9 : Int) (o14 : Option Value), y + uu = 27 → zBs (rC (sRd (yS Y) rr.toNat)) bb pp sn (t : Int) (y : Int) best → ((((t : Int) = zFo bb pp ∧ (turn : Int) = 0) ∧ t8 = zsum (rC (sRd (yS Y) rr.toNat)) (zCs (zFo bb pp) bb pp) y ∧ t9 = zsum (zind (rC (sRd (yS Y) rr.toNat))) (zCs (zFo bb pp) bb pp) y) ∨ (¬ ((t : Int) = zFo bb pp ∧ (turn : Int) = 0) ∧ t8 = (zsum (rC (sRd (yS Y) rr.toNat)) (zCs (zFo bb pp) bb pp) 27) ∧ t9 = (zsum (zind (rC (sRd (yS Y) rr.toNat))) (zCs (zFo bb pp) bb pp) 27))) → zAW p l e { frames := 7, cells := 5, slots := 117, locals := 280 } s m args below meth c γ 15 Q M1 1 27 147 [some (.ref (U 0)), some (.int (zi x)), some (.int (zi rr)), some (.int (zi pp)), some (.int (zi bb)), some (.int (zi (zFo bb pp))), some (.ref q), some (.int (zi rk)), some (.int (zi t8)), some (.int (zi t9)), some (.int (zi (t : Int))), some (.int (zi (turn : Int))), some (.int (zi best)), some (.int (zi (y : Int))), o14] [] := by
              intro uu
              induction uu with
              | zero =>
                intro y best t8 t9 o14 hy hB h89
                have hy27 : y = 27 := by omega
                subst hy27
                have h89a : t8 = (zsum (rC (sRd (yS Y) rr.toNat)) (zCs (zFo bb pp) bb pp) 27) := by omega
                have h89b : t9 = (zsum (zind (rC (sRd (yS Y) rr.toNat))) (zCs (zFo bb pp) bb pp) 27) := by omega
                have hbr := hB.rng (by omega)
                refine z_iload C dL_isRanked_147 rfl ?_
                refine z_bipush C dL_isRanked_149 (by decide) ?_
                refine z_icmp_geZ (tgt := 240) C dL_isRanked_151 (by decide) (by omega) (by omega) (fun h151 => ?_) (fun h151 => ?_)
                · refine z_iload C dL_isRanked_240 rfl ?_
                  refine z_if_geZ (tgt := 248) C dL_isRanked_242 (by decide) (by omega) (fun h242 => ?_) (fun h242 => ?_)
                  · obtain ⟨⟨g1, g2, g3, g4⟩, g5, g6⟩ := hB.pk (by omega) hcR hSo hN ho
                    have g7 := zgs_rk (c := (rC (sRd (yS Y) rr.toNat))) (b := bb) (p := pp) (s := best) (by omega)
                    rw [g3] at g7
                    refine z_aload C dL_isRanked_248 rfl ?_
                    refine z_iload C dL_isRanked_250 rfl ?_
                    refine z_iconst C dL_isRanked_252 ?_
                    refine z_astZ C dL_isRanked_253 hMq (by omega) (by omega) ?_
                    have hc2 := hc1.up (x := some (zaZ γ 27 (va_up f best.toNat (vp_nar .boolean (zi 1))))) hqU
                    obtain ⟨fs2, hM2⟩ := hc2.ok0
                    refine z_aload_n C dL_isRanked_254 rfl ?_
                    refine z_iload_n C dL_isRanked_255 rfl ?_
                    refine z_iload C dL_isRanked_256 rfl ?_
                    refine z_iload_n C dL_isRanked_258 rfl ?_
                    refine z_iload C dL_isRanked_259 rfl ?_
                    refine z_callV C dL_isRanked_261 lk_L_175 mw_X8_symbolAtRank mi_X8_symbolAtRank ms_X8_symbolAtRank rfl hM2 (k_I_symbolAtRank hc2 hk hrr hcv (by omega)) rfl (by first | decide | exact Nat.le_of_ble_eq_true rfl) ⟨by decide, by decide, by decide, by decide⟩ (fun _ _ h => False.elim h) (fun v M' hp => ?_)
                    obtain ⟨hO2, -, hv⟩ := hp
                    obtain rfl : v = some (.int (zi best)) := by rw [← g7]; exact hv
                    obtain ⟨fs3, hM3⟩ := hO2.2.ok0
                    refine z_iload C dL_isRanked_264 rfl ?_
                    refine z_icmp_neZ (tgt := 299) C dL_isRanked_266 (by decide) (by omega) (by omega) (fun h266 => ?_) (fun h266 => ?_)
                    · exact absurd rfl h266
                    · refine z_aload_n C dL_isRanked_269 rfl ?_
                      refine z_iload_n C dL_isRanked_270 rfl ?_
                      refine z_iload C dL_isRanked_271 rfl ?_
                      refine z_iload_n C dL_isRanked_273 rfl ?_
                      refine z_iload C dL_isRanked_274 rfl ?_
                      refine z_callV C dL_isRanked_276 lk_L_178 mw_X8_rank mi_X8_rank ms_X8_rank rfl hM3 (k_I_rank hO2.2 hk hrr hcv (ss := best) (by unfold zSy; omega)) rfl (by first | decide | exact Nat.le_of_ble_eq_true rfl) ⟨by decide, by decide, by decide, by decide⟩ (fun _ _ h => False.elim h) (fun v M' hp => ?_)
                      obtain ⟨hO3, -, hv⟩ := hp
                      obtain rfl : v = some (.int (zi rk)) := by rw [← g3]; exact hv
                      have hO4 := hO2.tr hO3
                      obtain ⟨fs4, hM4⟩ := hO4.2.ok0
                      refine z_iload C dL_isRanked_279 rfl ?_
                      refine z_icmp_neZ (tgt := 299) C dL_isRanked_281 (by decide) (by omega) (by omega) (fun h281 => ?_) (fun h281 => ?_)
                      · exact absurd rfl h281
                      · refine z_aload_n C dL_isRanked_284 rfl ?_
                        refine z_iload_n C dL_isRanked_285 rfl ?_
                        refine z_iload C dL_isRanked_286 rfl ?_
                        refine z_iload_n C dL_isRanked_288 rfl ?_
                        refine z_iload C dL_isRanked_289 rfl ?_
                        refine z_callV C dL_isRanked_291 lk_L_181 mw_X8_foundOrder mi_X8_foundOrder ms_X8_foundOrder rfl hM4 (k_I_foundOrder hO4.2 hk hrr hcv (ss := best) (by unfold zSy; omega)) rfl (by first | decide | exact Nat.le_of_ble_eq_true rfl) ⟨by decide, by decide, by decide, by decide⟩ (fun _ _ h => False.elim h) (fun v M' hp => ?_)
                        obtain ⟨rfl, rfl⟩ := hp
                        rw [g2]
                        refine z_iload C dL_isRanked_294 rfl ?_
                        refine z_icmp_eqZ (tgt := 301) C dL_isRanked_296 (by decide) (by omega) (by omega) (fun h296 => ?_) (fun h296 => ?_)
                        · refine z_iincZ C dL_isRanked_301 rfl (by decide) ?_
                          refine z_iincZ C dL_isRanked_304 rfl (by decide) ?_
                          refine z_goto (tgt := 134) C dL_isRanked_307 (by decide) ?_
                          have q9 := ih2 (turn + 1) _ (zsu sn best) (va_up f best.toNat (vp_nar .boolean (zi 1))) (rk + 1) t8 t9 (some (.int (zi best))) (some (.int (zi ((27 : Nat) : Int)))) o14 (by omega) (by omega) hO4.2 ((hO4.1 q (zFU_no hqU)).trans (va_up_self _ _ _)) (fun j hj => by
                            unfold zsu
                            by_cases e : j = best.toNat
                            · rw [e, va_up_self, if_pos (by omega)]
                              rfl
                            · rw [va_up_ne _ _ e, if_neg (by omega)]
                              exact hf j hj) g5 g6 (.inr ⟨by omega, h89a, h89b⟩)
                          exact q9
                        · exact absurd rfl h296
                  · refine z_goto (tgt := 310) C dL_isRanked_245 (by decide) ?_
                    refine z_iincZ C dL_isRanked_310 rfl (by decide) ?_
                    refine z_goto (tgt := 126) C dL_isRanked_313 (by decide) ?_
                    have hd := hB.dn (by omega) hcR hSo hN.1 ho
                    rw [show (t : Int) + -1 = (t : Int) - 1 by omega]
                    exact ih M1 sn f rk t8 t9 _ _ _ _ (by omega) hc1 hMq hf hN hd (by omega)
                · exact absurd h151 (by omega)
              | succ uu ih3 =>
                intro y best t8 t9 o14 hy hB h89
                have hbr := hB.rng (by omega)
                have hcy := hcR (zCs (t : Int) bb pp + (y : Int))
                have hcb := hcR (zCs (t : Int) bb pp + best)
                have h0y := h01 (y : Int)
                have s1 := zsum_nn (f := (rC (sRd (yS Y) rr.toNat))) (lo := (zCs (zFo bb pp) bb pp)) (t := y) (fun i _ => (hcR _).1)
                have s2 := zsum_le (f := (rC (sRd (yS Y) rr.toNat))) (lo := (zCs (zFo bb pp) bb pp)) (b := 999) (t := y) (fun i _ => (hcR _).2)
                have s3 := zsum_nn (f := zind (rC (sRd (yS Y) rr.toNat))) (lo := (zCs (zFo bb pp) bb pp)) (t := y) (fun i _ => (zind_rng _ _).1)
                have s4 := zsum_le (f := zind (rC (sRd (yS Y) rr.toNat))) (lo := (zCs (zFo bb pp) bb pp)) (b := 1) (t := y) (fun i _ => (zind_rng _ _).2)
                have j195 : ∀ (t8 t9 : Int), ((((t : Int) = zFo bb pp ∧ (turn : Int) = 0) ∧ t8 = zsum (rC (sRd (yS Y) rr.toNat)) (zCs (zFo bb pp) bb pp) (y + 1) ∧ t9 = zsum (zind (rC (sRd (yS Y) rr.toNat))) (zCs (zFo bb pp) bb pp) (y + 1)) ∨ (¬ ((t : Int) = zFo bb pp ∧ (turn : Int) = 0) ∧ t8 = (zsum (rC (sRd (yS Y) rr.toNat)) (zCs (zFo bb pp) bb pp) 27) ∧ t9 = (zsum (zind (rC (sRd (yS Y) rr.toNat))) (zCs (zFo bb pp) bb pp) 27))) → zAW p l e { frames := 7, cells := 5, slots := 117, locals := 280 } s m args below meth c γ 15 Q M1 1 27 195 [some (.ref (U 0)), some (.int (zi x)), some (.int (zi rr)), some (.int (zi pp)), some (.int (zi bb)), some (.int (zi (zFo bb pp))), some (.ref q), some (.int (zi rk)), some (.int (zi t8)), some (.int (zi t9)), some (.int (zi (t : Int))), some (.int (zi (turn : Int))), some (.int (zi best)), some (.int (zi (y : Int))), some (.int (zi ((rC (sRd (yS Y) rr.toNat)) (zCs (t : Int) bb pp + (y : Int)))))] [] := by
                  intro t8 t9 h89
                  refine z_iload C dL_isRanked_195 rfl ?_
                  refine z_if_leZ (tgt := 234) C dL_isRanked_197 (by decide) (by omega) (fun h197 => ?_) (fun h197 => ?_)
                  · refine z_iincZ C dL_isRanked_234 rfl (by decide) ?_
                    refine z_goto (tgt := 147) C dL_isRanked_237 (by decide) ?_
                    exact ih3 (y + 1) best t8 t9 _ (by omega) (hB.no (fun w => by have := w.2; omega)) h89
                  · refine z_aload C dL_isRanked_200 rfl ?_
                    refine z_iload C dL_isRanked_202 rfl ?_
                    refine z_aldZ C dL_isRanked_204 hMq (by omega) (by omega) ?_
                    rw [Int.toNat_natCast, hf y (by omega)]
                    refine z_if_neZ (tgt := 234) C dL_isRanked_205 (by decide) (by omega) (fun h205 => ?_) (fun h205 => ?_)
                    · refine z_iincZ C dL_isRanked_234 rfl (by decide) ?_
                      refine z_goto (tgt := 147) C dL_isRanked_237 (by decide) ?_
                      exact ih3 (y + 1) best t8 t9 _ (by omega) (hB.no (fun w => by have := w.1; omega)) h89
                    · refine z_iload C dL_isRanked_208 rfl ?_
                      refine z_if_ltZ (tgt := 230) C dL_isRanked_210 (by decide) (by omega) (fun h210 => ?_) (fun h210 => ?_)
                      · refine z_iload C dL_isRanked_230 rfl ?_
                        refine z_istore C dL_isRanked_232 (by decide) ?_
                        refine z_iincZ C dL_isRanked_234 rfl (by decide) ?_
                        refine z_goto (tgt := 147) C dL_isRanked_237 (by decide) ?_
                        exact ih3 (y + 1) (y : Int) t8 t9 _ (by omega) (hB.up (by omega) ⟨by omega, by omega⟩ (.inl (by omega))) h89
                      · refine z_iload C dL_isRanked_213 rfl ?_
                        refine z_aload_n C dL_isRanked_215 rfl ?_
                        refine z_iload_n C dL_isRanked_216 rfl ?_
                        refine z_iload C dL_isRanked_217 rfl ?_
                        refine z_iload C dL_isRanked_219 rfl ?_
                        refine z_iload_n C dL_isRanked_221 rfl ?_
                        refine z_iload C dL_isRanked_222 rfl ?_
                        refine z_callS C dL_isRanked_224 lk_L_171 mw_L_count mst_L_count (kco best (by unfold zSy; omega)) rfl (by first | decide | exact Nat.le_of_ble_eq_true rfl) ⟨by decide, by decide, by decide, by decide⟩ (fun _ _ h => False.elim h) (fun v M' hp => ?_)
                        obtain ⟨rfl, rfl⟩ := hp
                        refine z_icmp_leZ (tgt := 234) C dL_isRanked_227 (by decide) (by omega) (by omega) (fun h227 => ?_) (fun h227 => ?_)
                        · refine z_iincZ C dL_isRanked_234 rfl (by decide) ?_
                          refine z_goto (tgt := 147) C dL_isRanked_237 (by decide) ?_
                          exact ih3 (y + 1) best t8 t9 _ (by omega) (hB.le (by omega) (by omega)) h89
                        · refine z_iload C dL_isRanked_230 rfl ?_
                          refine z_istore C dL_isRanked_232 (by decide) ?_
                          refine z_iincZ C dL_isRanked_234 rfl (by decide) ?_
                          refine z_goto (tgt := 147) C dL_isRanked_237 (by decide) ?_
                          exact ih3 (y + 1) (y : Int) t8 t9 _ (by omega) (hB.up (by omega) ⟨by omega, by omega⟩ (.inr (by omega))) h89
                have e1 : zsum (rC (sRd (yS Y) rr.toNat)) (zCs (zFo bb pp) bb pp) (y + 1) = zsum (rC (sRd (yS Y) rr.toNat)) (zCs (zFo bb pp) bb pp) y + (rC (sRd (yS Y) rr.toNat)) ((zCs (zFo bb pp) bb pp) + (y : Int)) := rfl
                have e2 : zsum (zind (rC (sRd (yS Y) rr.toNat))) (zCs (zFo bb pp) bb pp) (y + 1) = zsum (zind (rC (sRd (yS Y) rr.toNat))) (zCs (zFo bb pp) bb pp) y + zind (rC (sRd (yS Y) rr.toNat)) ((zCs (zFo bb pp) bb pp) + (y : Int)) := rfl
                refine z_iload C dL_isRanked_147 rfl ?_
                refine z_bipush C dL_isRanked_149 (by decide) ?_
                refine z_icmp_geZ (tgt := 240) C dL_isRanked_151 (by decide) (by omega) (by omega) (fun h151 => ?_) (fun h151 => ?_)
                · exact absurd h151 (by omega)
                · refine z_aload_n C dL_isRanked_154 rfl ?_
                  refine z_iload_n C dL_isRanked_155 rfl ?_
                  refine z_iload C dL_isRanked_156 rfl ?_
                  refine z_iload C dL_isRanked_158 rfl ?_
                  refine z_iload_n C dL_isRanked_160 rfl ?_
                  refine z_iload C dL_isRanked_161 rfl ?_
                  refine z_callS C dL_isRanked_163 lk_L_171 mw_L_count mst_L_count (kco (y : Int) (by unfold zSy; omega)) rfl (by first | decide | exact Nat.le_of_ble_eq_true rfl) ⟨by decide, by decide, by decide, by decide⟩ (fun _ _ h => False.elim h) (fun v M' hp => ?_)
                  obtain ⟨rfl, rfl⟩ := hp
                  refine z_istore C dL_isRanked_166 (by decide) ?_
                  refine z_iload C dL_isRanked_168 rfl ?_
                  refine z_if_neZ (tgt := 195) C dL_isRanked_170 (by decide) (by omega) (fun h170 => ?_) (fun h170 => ?_)
                  · exact j195 t8 t9 (by omega)
                  · refine z_iload C dL_isRanked_173 rfl ?_
                    refine z_iload C dL_isRanked_175 rfl ?_
                    refine z_icmp_neZ (tgt := 195) C dL_isRanked_177 (by decide) (by omega) (by omega) (fun h177 => ?_) (fun h177 => ?_)
                    · exact j195 t8 t9 (by omega)
                    · refine z_iload C dL_isRanked_180 rfl ?_
                      refine z_iload C dL_isRanked_182 rfl ?_
                      refine z_iaddZ C dL_isRanked_184 ?_
                      refine z_istore C dL_isRanked_185 (by decide) ?_
                      refine z_iload C dL_isRanked_187 rfl ?_
                      refine z_if_leZ (tgt := 195) C dL_isRanked_189 (by decide) (by omega) (fun h189 => ?_) (fun h189 => ?_)
                      · have e3 : zind (rC (sRd (yS Y) rr.toNat)) ((zCs (zFo bb pp) bb pp) + (y : Int)) = 0 := if_pos (by rw [← h177]; omega)
                        have e4 : ((rC (sRd (yS Y) rr.toNat)) (zCs (t : Int) bb pp + (y : Int))) = (rC (sRd (yS Y) rr.toNat)) ((zCs (zFo bb pp) bb pp) + (y : Int)) := by rw [h177]
                        exact j195 _ t9 (.inl ⟨⟨h177, by omega⟩, by rw [e1, ← e4]; omega, by rw [e2, e3]; omega⟩)
                      · refine z_iincZ C dL_isRanked_192 rfl (by decide) ?_
                        have e3 : zind (rC (sRd (yS Y) rr.toNat)) ((zCs (zFo bb pp) bb pp) + (y : Int)) = 1 := if_neg (by rw [← h177]; omega)
                        have e4 : ((rC (sRd (yS Y) rr.toNat)) (zCs (t : Int) bb pp + (y : Int))) = (rC (sRd (yS Y) rr.toNat)) ((zCs (zFo bb pp) bb pp) + (y : Int)) := by rw [h177]
                        exact j195 _ _ (.inl ⟨⟨h177, by omega⟩, by rw [e1, ← e4]; omega, by rw [e2, e3]; omega⟩)
            refine z_iload C dL_isRanked_134 rfl ?_
            refine z_bipush C dL_isRanked_136 (by decide) ?_
            refine z_icmp_geZ (tgt := 310) C dL_isRanked_138 (by decide) (by omega) (by omega) (fun h138 => ?_) (fun h138 => ?_)
            · exact absurd h138 (by omega)
            · refine z_iconst C dL_isRanked_141 ?_
              refine z_istore C dL_isRanked_142 (by decide) ?_
              refine z_iconst C dL_isRanked_144 ?_
              refine z_istore C dL_isRanked_145 (by decide) ?_
              exact j147 27 0 (-1) t8 t9 o14 rfl (zBs.nil _ _ _ _ _) (by
                have z1 : zsum (rC (sRd (yS Y) rr.toNat)) (zCs (zFo bb pp) bb pp) 0 = 0 := rfl
                have z2 : zsum (zind (rC (sRd (yS Y) rr.toNat))) (zCs (zFo bb pp) bb pp) 0 = 0 := rfl
                rw [z1, z2]
                exact h89)
        refine z_iload C dL_isRanked_126 rfl ?_
        refine z_if_ltZ (tgt := 316) C dL_isRanked_128 (by decide) (by omega) (fun h128 => ?_) (fun h128 => ?_)
        · exact absurd h128 (by omega)
        · refine z_iconst C dL_isRanked_131 ?_
          refine z_istore C dL_isRanked_132 (by decide) ?_
          exact j134 27 0 M1 sn f rk t8 t9 _ _ _ rfl (by have := hN.rng; omega) hc1 hMq hf hN hSo (by omega)
    refine z_bipush C dL_isRanked_107 (by decide) ?_
    refine z_newZ C dL_isRanked_109 t2_192 (by omega) ⟨by decide, by decide⟩ (fun q hq => ?_)
    refine z_astore C dL_isRanked_111 (by decide) ?_
    refine z_iconst C dL_isRanked_113 ?_
    refine z_istore C dL_isRanked_114 (by decide) ?_
    refine z_iconst C dL_isRanked_116 ?_
    refine z_istore C dL_isRanked_117 (by decide) ?_
    refine z_iconst C dL_isRanked_119 ?_
    refine z_istore C dL_isRanked_120 (by decide) ?_
    refine z_iload C dL_isRanked_122 rfl ?_
    refine z_istore C dL_isRanked_124 (by decide) ?_
    have q9 := j126 q (hc.no hq) (zFo bb pp + 1).toNat _ (fun _ => 0) (fun _ => 0) 1 0 0 none none none none (by omega) (hc.up (hc.no hq)) (va_up_self _ _ _) (fun _ _ => rfl) (zSn.nil _ _ _) (by
      rw [show (((zFo bb pp + 1).toNat : Nat) : Int) - 1 = zFo bb pp by omega]
      exact zSo.nil _ _ _) (.inl ⟨by omega, rfl, rfl⟩)
    rw [show (((zFo bb pp + 1).toNat : Nat) : Int) - 1 = zFo bb pp by omega] at q9
    exact q9
  have j87 : ∀ (rr bb pp : Int), 0 ≤ rr ∧ rr < sRn (yS Y) → zCv bb pp → zAW p l e { frames := 7, cells := 5, slots := 117, locals := 280 } s m args below meth c γ 15 Q M 0 0 87 [some (.ref (U 0)), some (.int (zi x)), some (.int (zi rr)), some (.int (zi pp)), some (.int (zi bb)), none, none, none, none, none, none, none, none, none, none] [] := by
    intro rr bb pp hrr hcv
    have hcv2 := hcv
    unfold zCv zSy at hcv2
    have hf3 : (pp < 0 → zFo bb pp = 0) ∧ (0 ≤ pp → bb < 0 → zFo bb pp = 1) ∧ (0 ≤ bb → zFo bb pp = 2) := by
      unfold zFo
      refine ⟨fun h => if_pos (by omega), fun h h2 => ?_, fun h => ?_⟩
      · rw [if_neg (by omega), if_pos (by omega)]
      · rw [if_neg (by omega), if_neg (by omega)]
    have q9 := j107 rr bb pp hrr hcv
    refine z_iload C dL_isRanked_87 rfl ?_
    refine z_if_ltZ (tgt := 96) C dL_isRanked_89 (by decide) (by omega) (fun h89 => ?_) (fun h89 => ?_)
    · refine z_iload_n C dL_isRanked_96 rfl ?_
      refine z_if_ltZ (tgt := 104) C dL_isRanked_97 (by decide) (by omega) (fun h97 => ?_) (fun h97 => ?_)
      · refine z_iconst C dL_isRanked_104 ?_
        refine z_istore C dL_isRanked_105 (by decide) ?_
        rw [hf3.1 (by omega)] at q9
        exact q9
      · refine z_iconst C dL_isRanked_100 ?_
        refine z_goto (tgt := 105) C dL_isRanked_101 (by decide) ?_
        refine z_istore C dL_isRanked_105 (by decide) ?_
        rw [hf3.2.1 (by omega) (by omega)] at q9
        exact q9
    · refine z_iconst C dL_isRanked_92 ?_
      refine z_goto (tgt := 105) C dL_isRanked_93 (by decide) ?_
      refine z_istore C dL_isRanked_105 (by decide) ?_
      rw [hf3.2.2 (by omega)] at q9
      exact q9
  have hrx : 0 ≤ x % sRn (yS Y) ∧ x % sRn (yS Y) < sRn (yS Y) := ⟨Int.emod_nonneg _ (by omega), Int.emod_lt_of_pos _ (by omega)⟩
  refine z_iload_n C dL_isRanked_0 rfl ?_
  refine z_aload_n C dL_isRanked_1 rfl ?_
  refine z_callV C dL_isRanked_2 lk_L_78 mw_X8_readerCount mi_X8_readerCount ms_X8_readerCount rfl hM0 (k_I_readerCount hc hk) rfl (by first | decide | exact Nat.le_of_ble_eq_true rfl) ⟨by decide, by decide, by decide, by decide⟩ (fun _ _ h => False.elim h) (fun v M' hp => ?_)
  obtain ⟨rfl, rfl⟩ := hp
  refine z_iremZ C dL_isRanked_5 (by omega) (by omega) ?_
  refine z_istore_n C dL_isRanked_6 (by decide) ?_
  refine z_iload_n C dL_isRanked_7 rfl ?_
  refine z_iconst C dL_isRanked_8 ?_
  refine z_idivZ C dL_isRanked_9 (by omega) (by omega) ?_
  refine z_bipush C dL_isRanked_10 (by decide) ?_
  refine z_iremZ C dL_isRanked_12 (by omega) (by omega) ?_
  refine z_iconst C dL_isRanked_13 ?_
  refine z_icmp_neZ (tgt := 21) C dL_isRanked_14 (by decide) (by omega) (by omega) (fun h14 => ?_) (fun h14 => ?_)
  · refine z_iload_n C dL_isRanked_21 rfl ?_
    refine z_iconst C dL_isRanked_22 ?_
    refine z_idivZ C dL_isRanked_23 (by omega) (by omega) ?_
    refine z_bipush C dL_isRanked_24 (by decide) ?_
    refine z_iremZ C dL_isRanked_26 (by omega) (by omega) ?_
    refine z_iconst C dL_isRanked_27 ?_
    refine z_icmp_neZ (tgt := 36) C dL_isRanked_28 (by decide) (by omega) (by omega) (fun h28 => ?_) (fun h28 => ?_)
    · refine z_iload_n C dL_isRanked_36 rfl ?_
      refine z_iconst C dL_isRanked_37 ?_
      refine z_idivZ C dL_isRanked_38 (by omega) (by omega) ?_
      refine z_bipush C dL_isRanked_39 (by decide) ?_
      refine z_iremZ C dL_isRanked_41 (by omega) (by omega) ?_
      refine z_istore_n C dL_isRanked_42 (by decide) ?_
      refine z_iload_n C dL_isRanked_43 rfl ?_
      refine z_if_ltZ (tgt := 58) C dL_isRanked_44 (by decide) (by omega) (fun h44 => ?_) (fun h44 => ?_)
      · refine z_iconst C dL_isRanked_58 ?_
        refine z_goto (tgt := 85) C dL_isRanked_59 (by decide) ?_
        refine z_istore C dL_isRanked_85 (by decide) ?_
        exact j87 _ _ _ hrx (by unfold zCv zSy; omega)
      · refine z_iload_n C dL_isRanked_47 rfl ?_
        refine z_bipush C dL_isRanked_48 (by decide) ?_
        refine z_idivZ C dL_isRanked_50 (by omega) (by omega) ?_
        refine z_bipush C dL_isRanked_51 (by decide) ?_
        refine z_iremZ C dL_isRanked_53 (by omega) (by omega) ?_
        refine z_iconst C dL_isRanked_54 ?_
        refine z_icmp_neZ (tgt := 62) C dL_isRanked_55 (by decide) (by omega) (by omega) (fun h55 => ?_) (fun h55 => ?_)
        · refine z_iload_n C dL_isRanked_62 rfl ?_
          refine z_bipush C dL_isRanked_63 (by decide) ?_
          refine z_idivZ C dL_isRanked_65 (by omega) (by omega) ?_
          refine z_bipush C dL_isRanked_66 (by decide) ?_
          refine z_iremZ C dL_isRanked_68 (by omega) (by omega) ?_
          refine z_iconst C dL_isRanked_69 ?_
          refine z_icmp_neZ (tgt := 78) C dL_isRanked_70 (by decide) (by omega) (by omega) (fun h70 => ?_) (fun h70 => ?_)
          · refine z_iload_n C dL_isRanked_78 rfl ?_
            refine z_bipush C dL_isRanked_79 (by decide) ?_
            refine z_idivZ C dL_isRanked_81 (by omega) (by omega) ?_
            refine z_bipush C dL_isRanked_82 (by decide) ?_
            refine z_iremZ C dL_isRanked_84 (by omega) (by omega) ?_
            refine z_istore C dL_isRanked_85 (by decide) ?_
            exact j87 _ _ _ hrx (by unfold zCv zSy; omega)
          · refine z_bipush C dL_isRanked_73 (by decide) ?_
            refine z_goto (tgt := 85) C dL_isRanked_75 (by decide) ?_
            refine z_istore C dL_isRanked_85 (by decide) ?_
            exact j87 _ _ _ hrx (by unfold zCv zSy; omega)
        · refine z_iconst C dL_isRanked_58 ?_
          refine z_goto (tgt := 85) C dL_isRanked_59 (by decide) ?_
          refine z_istore C dL_isRanked_85 (by decide) ?_
          exact j87 _ _ _ hrx (by unfold zCv zSy; omega)
    · refine z_bipush C dL_isRanked_31 (by decide) ?_
      refine z_goto (tgt := 42) C dL_isRanked_33 (by decide) ?_
      refine z_istore_n C dL_isRanked_42 (by decide) ?_
      refine z_iload_n C dL_isRanked_43 rfl ?_
      refine z_if_ltZ (tgt := 58) C dL_isRanked_44 (by decide) (by omega) (fun h44 => ?_) (fun h44 => ?_)
      · refine z_iconst C dL_isRanked_58 ?_
        refine z_goto (tgt := 85) C dL_isRanked_59 (by decide) ?_
        refine z_istore C dL_isRanked_85 (by decide) ?_
        exact j87 _ _ _ hrx (by unfold zCv zSy; omega)
      · refine z_iload_n C dL_isRanked_47 rfl ?_
        refine z_bipush C dL_isRanked_48 (by decide) ?_
        refine z_idivZ C dL_isRanked_50 (by omega) (by omega) ?_
        refine z_bipush C dL_isRanked_51 (by decide) ?_
        refine z_iremZ C dL_isRanked_53 (by omega) (by omega) ?_
        refine z_iconst C dL_isRanked_54 ?_
        refine z_icmp_neZ (tgt := 62) C dL_isRanked_55 (by decide) (by omega) (by omega) (fun h55 => ?_) (fun h55 => ?_)
        · refine z_iload_n C dL_isRanked_62 rfl ?_
          refine z_bipush C dL_isRanked_63 (by decide) ?_
          refine z_idivZ C dL_isRanked_65 (by omega) (by omega) ?_
          refine z_bipush C dL_isRanked_66 (by decide) ?_
          refine z_iremZ C dL_isRanked_68 (by omega) (by omega) ?_
          refine z_iconst C dL_isRanked_69 ?_
          refine z_icmp_neZ (tgt := 78) C dL_isRanked_70 (by decide) (by omega) (by omega) (fun h70 => ?_) (fun h70 => ?_)
          · refine z_iload_n C dL_isRanked_78 rfl ?_
            refine z_bipush C dL_isRanked_79 (by decide) ?_
            refine z_idivZ C dL_isRanked_81 (by omega) (by omega) ?_
            refine z_bipush C dL_isRanked_82 (by decide) ?_
            refine z_iremZ C dL_isRanked_84 (by omega) (by omega) ?_
            refine z_istore C dL_isRanked_85 (by decide) ?_
            exact j87 _ _ _ hrx (by unfold zCv zSy; omega)
          · refine z_bipush C dL_isRanked_73 (by decide) ?_
            refine z_goto (tgt := 85) C dL_isRanked_75 (by decide) ?_
            refine z_istore C dL_isRanked_85 (by decide) ?_
            exact j87 _ _ _ hrx (by unfold zCv zSy; omega)
        · refine z_iconst C dL_isRanked_58 ?_
          refine z_goto (tgt := 85) C dL_isRanked_59 (by decide) ?_
          refine z_istore C dL_isRanked_85 (by decide) ?_
          exact j87 _ _ _ hrx (by unfold zCv zSy; omega)
  · refine z_iconst C dL_isRanked_17 ?_
    refine z_goto (tgt := 42) C dL_isRanked_18 (by decide) ?_
    refine z_istore_n C dL_isRanked_42 (by decide) ?_
    refine z_iload_n C dL_isRanked_43 rfl ?_
    refine z_if_ltZ (tgt := 58) C dL_isRanked_44 (by decide) (by omega) (fun h44 => ?_) (fun h44 => ?_)
    · refine z_iconst C dL_isRanked_58 ?_
      refine z_goto (tgt := 85) C dL_isRanked_59 (by decide) ?_
      refine z_istore C dL_isRanked_85 (by decide) ?_
      exact j87 _ _ _ hrx (by unfold zCv zSy; omega)
    · refine z_iload_n C dL_isRanked_47 rfl ?_
      refine z_bipush C dL_isRanked_48 (by decide) ?_
      refine z_idivZ C dL_isRanked_50 (by omega) (by omega) ?_
      refine z_bipush C dL_isRanked_51 (by decide) ?_
      refine z_iremZ C dL_isRanked_53 (by omega) (by omega) ?_
      refine z_iconst C dL_isRanked_54 ?_
      refine z_icmp_neZ (tgt := 62) C dL_isRanked_55 (by decide) (by omega) (by omega) (fun h55 => ?_) (fun h55 => ?_)
      · refine z_iload_n C dL_isRanked_62 rfl ?_
        refine z_bipush C dL_isRanked_63 (by decide) ?_
        refine z_idivZ C dL_isRanked_65 (by omega) (by omega) ?_
        refine z_bipush C dL_isRanked_66 (by decide) ?_
        refine z_iremZ C dL_isRanked_68 (by omega) (by omega) ?_
        refine z_iconst C dL_isRanked_69 ?_
        refine z_icmp_neZ (tgt := 78) C dL_isRanked_70 (by decide) (by omega) (by omega) (fun h70 => ?_) (fun h70 => ?_)
        · refine z_iload_n C dL_isRanked_78 rfl ?_
          refine z_bipush C dL_isRanked_79 (by decide) ?_
          refine z_idivZ C dL_isRanked_81 (by omega) (by omega) ?_
          refine z_bipush C dL_isRanked_82 (by decide) ?_
          refine z_iremZ C dL_isRanked_84 (by omega) (by omega) ?_
          refine z_istore C dL_isRanked_85 (by decide) ?_
          exact j87 _ _ _ hrx (by unfold zCv zSy; omega)
        · refine z_bipush C dL_isRanked_73 (by decide) ?_
          refine z_goto (tgt := 85) C dL_isRanked_75 (by decide) ?_
          refine z_istore C dL_isRanked_85 (by decide) ?_
          exact j87 _ _ _ hrx (by unfold zCv zSy; omega)
      · refine z_iconst C dL_isRanked_58 ?_
        refine z_goto (tgt := 85) C dL_isRanked_59 (by decide) ?_
        refine z_istore C dL_isRanked_85 (by decide) ?_
        exact j87 _ _ _ hrx (by unfold zCv zSy; omega)

