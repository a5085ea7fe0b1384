/-! the law's cases: appendInput, truncateInput, load, errorCode, errorPosition, year, readerCount -/
section CSb
variable {p : Program} {l : Launch} {e : Env} {s : State} {m : MethodId} {args : Array Value} {below : List Frame} {meth : Method} {c : Code} {γ : zG} {Q : State → Prop} {M : zM} {k n : Nat} {xt : List ExceptionTableEntry}
set_option maxHeartbeats 4000000 in
set_option maxRecDepth 100000 in
theorem cs_appendInput (C : zC p l s m args meth c γ cL_law 9 (some .boolean) RL xt) {b N : Nat} {ys : Nat → Int} (hXs : va_X b N (fun j => zi (ys j)) s s.heap) (hbs : b < γ.2.1.size) (hN : N ≤ 3072) (hys : ∀ j, zR (ys j)) {U A : Nat → Nat} {Y : zSys} {th : Int} {o d : Nat} (J : zJ3 γ M U A Y th o d) {i : Int} (hi : 0 ≤ i ∧ i + 6 ≤ N) (hkn : k + 4 ≤ 601024 ∧ n + 24 ≤ 7293034) (next : ∀ M' Y' th', zJ3 γ M' U A Y' th' o d → zAW p l e room_1 s m args below meth c γ 9 Q M' (k + 4) (n + 24) 4249 [some (.ref b), some (.ref (U 0)), some (.ref (A 0)), some (.ref o), some (.ref d), some (.int (zi i)), none, none, none] []) : zAW p l e room_1 s m args below meth c γ 9 Q M k n 308 [some (.ref b), some (.ref (U 0)), some (.ref (A 0)), some (.ref o), some (.ref d), some (.int (zi i)), none, none, none] [] := by
  obtain ⟨hc, hk, hm, hUA, ⟨f0, ho⟩, ⟨g0, hd⟩, hUo, hUd, hAo, hAd, hod⟩ := J
  obtain ⟨fs0, ob0⟩ := hc.ob
  refine z_aload_n C dL_law_308 rfl ?_
  refine z_aload_n C dL_law_309 rfl ?_
  refine z_iload C dL_law_310 rfl ?_
  refine z_iconst C dL_law_312 ?_
  refine z_iaddZ C dL_law_313 ?_
  refine z_xld C hXs hbs (by omega) (by omega) dL_law_314 ?_
  refine z_aload_n C dL_law_315 rfl ?_
  refine z_iload C dL_law_316 rfl ?_
  refine z_iconst C dL_law_318 ?_
  refine z_iaddZ C dL_law_319 ?_
  refine z_xld C hXs hbs (by omega) (by omega) dL_law_320 ?_
  refine z_aload_n C dL_law_321 rfl ?_
  refine z_iload C dL_law_322 rfl ?_
  refine z_iconst C dL_law_324 ?_
  refine z_iaddZ C dL_law_325 ?_
  refine z_xld C hXs hbs (by omega) (by omega) dL_law_326 ?_
  refine z_aload_n C dL_law_327 rfl ?_
  refine z_iload C dL_law_328 rfl ?_
  refine z_iconst C dL_law_330 ?_
  refine z_iaddZ C dL_law_331 ?_
  refine z_xld C hXs hbs (by omega) (by omega) dL_law_332 ?_
  refine z_aload_n C dL_law_333 rfl ?_
  refine z_iload C dL_law_334 rfl ?_
  refine z_iconst C dL_law_336 ?_
  refine z_iaddZ C dL_law_337 ?_
  refine z_xld C hXs hbs (by omega) (by omega) dL_law_338 ?_
  refine z_aload_n C dL_law_339 rfl ?_
  refine z_callSH C dL_law_340 lkw_appendInput mwh_L_appendInput mst_L_appendInput (w_appendInput hc hk ho hUo (hys _) (hys _) (hys _) (hys _) (hys _)) rfl (by first | decide | exact Nat.le_of_ble_eq_true rfl) ⟨by decide, by decide, by show _ ≤ 601024; omega, by show _ ≤ 7293034; omega⟩ (fun _ _ h => False.elim h) (fun v M' hp => ?_)
  obtain ⟨rfl, hr, f1, hc1, f2, hx1, hv⟩ := hp
  have hm1 := hm.frm (zUA_f f1 hUA hAo)
  obtain ⟨fs1, ob1⟩ := hm1.ob
  have ho1 := hx1
  have hd1 := f1.at (fun w => (List.mem_cons.mp w).elim (fun w => hod w.symm) (zU_no hUd)) hd
  refine z_istore C dL_law_343 (by decide) ?_
  refine z_aload_n C dL_law_345 rfl ?_
  refine z_aload_n C dL_law_346 rfl ?_
  refine z_iload C dL_law_347 rfl ?_
  refine z_iconst C dL_law_349 ?_
  refine z_iaddZ C dL_law_350 ?_
  refine z_xld C hXs hbs (by omega) (by omega) dL_law_351 ?_
  refine z_aload_n C dL_law_352 rfl ?_
  refine z_iload C dL_law_353 rfl ?_
  refine z_iconst C dL_law_355 ?_
  refine z_iaddZ C dL_law_356 ?_
  refine z_xld C hXs hbs (by omega) (by omega) dL_law_357 ?_
  refine z_aload_n C dL_law_358 rfl ?_
  refine z_iload C dL_law_359 rfl ?_
  refine z_iconst C dL_law_361 ?_
  refine z_iaddZ C dL_law_362 ?_
  refine z_xld C hXs hbs (by omega) (by omega) dL_law_363 ?_
  refine z_aload_n C dL_law_364 rfl ?_
  refine z_iload C dL_law_365 rfl ?_
  refine z_iconst C dL_law_367 ?_
  refine z_iaddZ C dL_law_368 ?_
  refine z_xld C hXs hbs (by omega) (by omega) dL_law_369 ?_
  refine z_aload_n C dL_law_370 rfl ?_
  refine z_iload C dL_law_371 rfl ?_
  refine z_iconst C dL_law_373 ?_
  refine z_iaddZ C dL_law_374 ?_
  refine z_xld C hXs hbs (by omega) (by omega) dL_law_375 ?_
  refine z_callV C dL_law_376 lk_L_201 mw_X9_appendInput mi_X9_appendInput ms_X9_appendInput rfl ob1 (m_appendInput hm1 hk (hys _) (hys _) (hys _) (hys _) (hys _)) rfl (by first | decide | exact Nat.le_of_ble_eq_true rfl) ⟨by decide, by decide, by show _ ≤ 601024; omega, by show _ ≤ 7293034; omega⟩ (fun _ _ h => False.elim h) (fun v M' hp => ?_)
  obtain ⟨b1, rfl, fA, hmt, hmf⟩ := hp
  have hm2 := zYs_mo hmt hmf
  have hbv := fun w => (hmt w).2
  have fB : zFr _ _ ((List.range 15).map A) := fA
  have ho2 := fB.at (mAll.no hAo) ho1
  have hd2 := fB.at (mAll.no hAd) hd1
  have J2 : zJ3 γ _ U A _ _ o d := ⟨hc1.frm fB (fun i hi => mAll.no (fun j hj w => hUA i j hi hj w.symm)), (zYs_ok (fun w => ok_appendInput hk _ _ _ _ _) hk), hm2, hUA, ⟨_, ho2⟩, ⟨_, hd2⟩, hUo, hUd, hAo, hAd, hod⟩
  obtain ⟨fs2, ob2⟩ := hm2.ob
  refine z_istore C dL_law_379 (by decide) ?_
  refine z_aload_n C dL_law_381 rfl ?_
  refine z_callV C dL_law_382 lk_L_202 mw_X9_thrown mi_X9_thrown ms_X9_thrown rfl ob2 (m_thrown hm2) rfl (by first | decide | exact Nat.le_of_ble_eq_true rfl) ⟨by decide, by decide, by show _ ≤ 601024; omega, by show _ ≤ 7293034; omega⟩ (fun _ _ h => False.elim h) (fun v M' hp => ?_)
  obtain ⟨rfl, rfl⟩ := hp
  refine z_iload C dL_law_385 rfl ?_
  refine z_icmp_eq (tgt := 392) C dL_law_387 (by decide) (fun h387 => ?_) (fun h387 => ?_)
  · refine z_iload C dL_law_392 rfl ?_
    refine z_if_ne (tgt := 409) C dL_law_394 (by decide) (fun h394 => ?_) (fun h394 => ?_)
    · refine z_goto (tgt := 4249) C dL_law_409 (by decide) ?_
      exact z_fg (by omega) (by omega) ⟨_, _, _, rfl⟩ (next _ _ _ J2)
    · have z0 := zq_0 hr h394
      refine z_aload_n C dL_law_397 rfl ?_
      refine z_iconst C dL_law_398 ?_
      refine z_aldJ (i := 0) C dL_law_399 ho2 ⟨by decide, by decide⟩ (by decide) ?_
      refine z_iload C dL_law_400 rfl ?_
      refine z_i2l C dL_law_402 ?_
      refine z_lcmp C dL_law_403 ?_
      refine z_if_eq (tgt := 409) C dL_law_404 (by decide) (fun h404 => ?_) (fun h404 => ?_)
      · refine z_goto (tgt := 4249) C dL_law_409 (by decide) ?_
        exact z_fg (by omega) (by omega) ⟨_, _, _, rfl⟩ (next _ _ _ J2)
      · exact absurd (by show lg_cmp (f2 0) (zi b1).toInt64 = 0; rw [hv z0, hbv z0]; exact lg_same _) h404
  · exact absurd rfl h387
set_option maxHeartbeats 4000000 in
set_option maxRecDepth 100000 in
theorem cs_truncateInput (C : zC p l s m args meth c γ cL_law 9 (some .boolean) RL xt) {b N : Nat} {ys : Nat → Int} (hXs : va_X b N (fun j => zi (ys j)) s s.heap) (hbs : b < γ.2.1.size) (hN : N ≤ 3072) (hys : ∀ j, zR (ys j)) {U A : Nat → Nat} {Y : zSys} {th : Int} {o d : Nat} (J : zJ3 γ M U A Y th o d) {i : Int} (hi : 0 ≤ i ∧ i + 6 ≤ N) (hkn : k + 4 ≤ 601024 ∧ n + 24 ≤ 7293034) (next : ∀ M' Y' th', zJ3 γ M' U A Y' th' o d → zAW p l e room_1 s m args below meth c γ 9 Q M' (k + 4) (n + 24) 4249 [some (.ref b), some (.ref (U 0)), some (.ref (A 0)), some (.ref o), some (.ref d), some (.int (zi i)), none, none, none] []) : zAW p l e room_1 s m args below meth c γ 9 Q M k n 412 [some (.ref b), some (.ref (U 0)), some (.ref (A 0)), some (.ref o), some (.ref d), some (.int (zi i)), none, none, none] [] := by
  obtain ⟨hc, hk, hm, hUA, ⟨f0, ho⟩, ⟨g0, hd⟩, hUo, hUd, hAo, hAd, hod⟩ := J
  obtain ⟨fs0, ob0⟩ := hc.ob
  refine z_aload_n C dL_law_412 rfl ?_
  refine z_aload_n C dL_law_413 rfl ?_
  refine z_iload C dL_law_414 rfl ?_
  refine z_iconst C dL_law_416 ?_
  refine z_iaddZ C dL_law_417 ?_
  refine z_xld C hXs hbs (by omega) (by omega) dL_law_418 ?_
  refine z_aload_n C dL_law_419 rfl ?_
  refine z_callSH C dL_law_420 lkw_truncateInput mwh_L_truncateInput mst_L_truncateInput (w_truncateInput hc hk ho hUo (hys _)) rfl (by first | decide | exact Nat.le_of_ble_eq_true rfl) ⟨by decide, by decide, by show _ ≤ 601024; omega, by show _ ≤ 7293034; omega⟩ (fun _ _ h => False.elim h) (fun v M' hp => ?_)
  obtain ⟨rfl, hr, f1, hc1, f2, hx1, hv⟩ := hp
  have hm1 := hm.frm (zUA_f f1 hUA hAo)
  obtain ⟨fs1, ob1⟩ := hm1.ob
  have ho1 := hx1
  have hd1 := f1.at (fun w => (List.mem_cons.mp w).elim (fun w => hod w.symm) (zU_no hUd)) hd
  refine z_istore C dL_law_423 (by decide) ?_
  refine z_aload_n C dL_law_425 rfl ?_
  refine z_aload_n C dL_law_426 rfl ?_
  refine z_iload C dL_law_427 rfl ?_
  refine z_iconst C dL_law_429 ?_
  refine z_iaddZ C dL_law_430 ?_
  refine z_xld C hXs hbs (by omega) (by omega) dL_law_431 ?_
  refine z_callV C dL_law_432 lk_L_208 mw_X9_truncateInput mi_X9_truncateInput ms_X9_truncateInput rfl ob1 (m_truncateInput hm1 hk (hys _)) rfl (by first | decide | exact Nat.le_of_ble_eq_true rfl) ⟨by decide, by decide, by show _ ≤ 601024; omega, by show _ ≤ 7293034; omega⟩ (fun _ _ h => False.elim h) (fun v M' hp => ?_)
  obtain ⟨b1, rfl, fA, hmt, hmf⟩ := hp
  have hm2 := zYs_mo hmt hmf
  have hbv := fun w => (hmt w).2
  have fB : zFr _ _ ((List.range 15).map A) := fA
  have ho2 := fB.at (mAll.no hAo) ho1
  have hd2 := fB.at (mAll.no hAd) hd1
  have J2 : zJ3 γ _ U A _ _ o d := ⟨hc1.frm fB (fun i hi => mAll.no (fun j hj w => hUA i j hi hj w.symm)), (zYs_ok (fun w => ok_truncateInput hk _) hk), hm2, hUA, ⟨_, ho2⟩, ⟨_, hd2⟩, hUo, hUd, hAo, hAd, hod⟩
  obtain ⟨fs2, ob2⟩ := hm2.ob
  refine z_istore C dL_law_435 (by decide) ?_
  refine z_aload_n C dL_law_437 rfl ?_
  refine z_callV C dL_law_438 lk_L_202 mw_X9_thrown mi_X9_thrown ms_X9_thrown rfl ob2 (m_thrown hm2) rfl (by first | decide | exact Nat.le_of_ble_eq_true rfl) ⟨by decide, by decide, by show _ ≤ 601024; omega, by show _ ≤ 7293034; omega⟩ (fun _ _ h => False.elim h) (fun v M' hp => ?_)
  obtain ⟨rfl, rfl⟩ := hp
  refine z_iload C dL_law_441 rfl ?_
  refine z_icmp_eq (tgt := 448) C dL_law_443 (by decide) (fun h443 => ?_) (fun h443 => ?_)
  · refine z_iload C dL_law_448 rfl ?_
    refine z_if_ne (tgt := 465) C dL_law_450 (by decide) (fun h450 => ?_) (fun h450 => ?_)
    · refine z_goto (tgt := 4249) C dL_law_465 (by decide) ?_
      exact z_fg (by omega) (by omega) ⟨_, _, _, rfl⟩ (next _ _ _ J2)
    · have z0 := zq_0 hr h450
      refine z_aload_n C dL_law_453 rfl ?_
      refine z_iconst C dL_law_454 ?_
      refine z_aldJ (i := 0) C dL_law_455 ho2 ⟨by decide, by decide⟩ (by decide) ?_
      refine z_iload C dL_law_456 rfl ?_
      refine z_i2l C dL_law_458 ?_
      refine z_lcmp C dL_law_459 ?_
      refine z_if_eq (tgt := 465) C dL_law_460 (by decide) (fun h460 => ?_) (fun h460 => ?_)
      · refine z_goto (tgt := 4249) C dL_law_465 (by decide) ?_
        exact z_fg (by omega) (by omega) ⟨_, _, _, rfl⟩ (next _ _ _ J2)
      · exact absurd (by show lg_cmp (f2 0) (zi b1).toInt64 = 0; rw [hv z0, hbv z0]; exact lg_same _) h460
  · exact absurd rfl h443
set_option maxHeartbeats 4000000 in
set_option maxRecDepth 100000 in
theorem cs_load (C : zC p l s m args meth c γ cL_law 9 (some .boolean) RL xt) {b N : Nat} {ys : Nat → Int} (hXs : va_X b N (fun j => zi (ys j)) s s.heap) (hbs : b < γ.2.1.size) (hN : N ≤ 3072) (hys : ∀ j, zR (ys j)) {U A : Nat → Nat} {Y : zSys} {th : Int} {o d : Nat} (J : zJ3 γ M U A Y th o d) {i : Int} (hi : 0 ≤ i ∧ i + 6 ≤ N) (hkn : k + 4 ≤ 601024 ∧ n + 24 ≤ 7293034) (next : ∀ M' Y' th', zJ3 γ M' U A Y' th' o d → zAW p l e room_1 s m args below meth c γ 9 Q M' (k + 4) (n + 24) 4249 [some (.ref b), some (.ref (U 0)), some (.ref (A 0)), some (.ref o), some (.ref d), some (.int (zi i)), none, none, none] []) : zAW p l e room_1 s m args below meth c γ 9 Q M k n 468 [some (.ref b), some (.ref (U 0)), some (.ref (A 0)), some (.ref o), some (.ref d), some (.int (zi i)), none, none, none] [] := by
  obtain ⟨hc, hk, hm, hUA, ⟨f0, ho⟩, ⟨g0, hd⟩, hUo, hUd, hAo, hAd, hod⟩ := J
  obtain ⟨fs0, ob0⟩ := hc.ob
  refine z_aload_n C dL_law_468 rfl ?_
  refine z_aload_n C dL_law_469 rfl ?_
  refine z_callSH C dL_law_470 lkw_load mwh_L_load mst_L_load (w_load hc hk ho hUo) rfl (by first | decide | exact Nat.le_of_ble_eq_true rfl) ⟨by decide, by decide, by show _ ≤ 601024; omega, by show _ ≤ 7293034; omega⟩ (fun _ _ h => False.elim h) (fun v M' hp => ?_)
  obtain ⟨rfl, hr, f1, hc1, f2, hx1, hv⟩ := hp
  have hm1 := hm.frm (zUA_f f1 hUA hAo)
  obtain ⟨fs1, ob1⟩ := hm1.ob
  have ho1 := hx1
  have hd1 := f1.at (fun w => (List.mem_cons.mp w).elim (fun w => hod w.symm) (zU_no hUd)) hd
  refine z_istore C dL_law_473 (by decide) ?_
  refine z_aload_n C dL_law_475 rfl ?_
  refine z_callV C dL_law_476 lk_L_212 mw_X9_load mi_X9_load ms_X9_load rfl ob1 (m_load hm1 hk) rfl (by first | decide | exact Nat.le_of_ble_eq_true rfl) ⟨by decide, by decide, by show _ ≤ 601024; omega, by show _ ≤ 7293034; omega⟩ (fun _ _ h => False.elim h) (fun v M' hp => ?_)
  obtain ⟨b1, rfl, fA, hm2, hbv⟩ := hp
  have fB : zFr _ _ ((List.range 15).map A) := fA
  have ho2 := fB.at (mAll.no hAo) ho1
  have hd2 := fB.at (mAll.no hAd) hd1
  have J2 : zJ3 γ _ U A _ _ o d := ⟨hc1.frm fB (fun i hi => mAll.no (fun j hj w => hUA i j hi hj w.symm)), (ok_load hc hk), hm2, hUA, ⟨_, ho2⟩, ⟨_, hd2⟩, hUo, hUd, hAo, hAd, hod⟩
  obtain ⟨fs2, ob2⟩ := hm2.ob
  refine z_istore C dL_law_479 (by decide) ?_
  refine z_aload_n C dL_law_481 rfl ?_
  refine z_callV C dL_law_482 lk_L_202 mw_X9_thrown mi_X9_thrown ms_X9_thrown rfl ob2 (m_thrown hm2) rfl (by first | decide | exact Nat.le_of_ble_eq_true rfl) ⟨by decide, by decide, by show _ ≤ 601024; omega, by show _ ≤ 7293034; omega⟩ (fun _ _ h => False.elim h) (fun v M' hp => ?_)
  obtain ⟨rfl, rfl⟩ := hp
  refine z_iload C dL_law_485 rfl ?_
  refine z_icmp_eq (tgt := 492) C dL_law_487 (by decide) (fun h487 => ?_) (fun h487 => ?_)
  · refine z_iload C dL_law_492 rfl ?_
    refine z_if_ne (tgt := 509) C dL_law_494 (by decide) (fun h494 => ?_) (fun h494 => ?_)
    · refine z_goto (tgt := 4249) C dL_law_509 (by decide) ?_
      exact z_fg (by omega) (by omega) ⟨_, _, _, rfl⟩ (next _ _ _ J2)
    · have z0 := zq_0 hr h494
      refine z_aload_n C dL_law_497 rfl ?_
      refine z_iconst C dL_law_498 ?_
      refine z_aldJ (i := 0) C dL_law_499 ho2 ⟨by decide, by decide⟩ (by decide) ?_
      refine z_iload C dL_law_500 rfl ?_
      refine z_i2l C dL_law_502 ?_
      refine z_lcmp C dL_law_503 ?_
      refine z_if_eq (tgt := 509) C dL_law_504 (by decide) (fun h504 => ?_) (fun h504 => ?_)
      · refine z_goto (tgt := 4249) C dL_law_509 (by decide) ?_
        exact z_fg (by omega) (by omega) ⟨_, _, _, rfl⟩ (next _ _ _ J2)
      · exact absurd (by show lg_cmp (f2 0) (zi b1).toInt64 = 0; rw [hv z0, hbv z0]; exact lg_same _) h504
  · exact absurd rfl h487
set_option maxHeartbeats 4000000 in
set_option maxRecDepth 100000 in
theorem cs_errorCode (C : zC p l s m args meth c γ cL_law 9 (some .boolean) RL xt) {b N : Nat} {ys : Nat → Int} (hXs : va_X b N (fun j => zi (ys j)) s s.heap) (hbs : b < γ.2.1.size) (hN : N ≤ 3072) (hys : ∀ j, zR (ys j)) {U A : Nat → Nat} {Y : zSys} {th : Int} {o d : Nat} (J : zJ3 γ M U A Y th o d) {i : Int} (hi : 0 ≤ i ∧ i + 6 ≤ N) (hkn : k + 4 ≤ 601024 ∧ n + 24 ≤ 7293034) (next : ∀ M' Y' th', zJ3 γ M' U A Y' th' o d → zAW p l e room_1 s m args below meth c γ 9 Q M' (k + 4) (n + 24) 4249 [some (.ref b), some (.ref (U 0)), some (.ref (A 0)), some (.ref o), some (.ref d), some (.int (zi i)), none, none, none] []) : zAW p l e room_1 s m args below meth c γ 9 Q M k n 512 [some (.ref b), some (.ref (U 0)), some (.ref (A 0)), some (.ref o), some (.ref d), some (.int (zi i)), none, none, none] [] := by
  obtain ⟨hc, hk, hm, hUA, ⟨f0, ho⟩, ⟨g0, hd⟩, hUo, hUd, hAo, hAd, hod⟩ := J
  obtain ⟨fs0, ob0⟩ := hc.ob
  refine z_aload_n C dL_law_512 rfl ?_
  refine z_callV C dL_law_513 lk_L_213 mw_X8_errorCode mi_X8_errorCode ms_X8_errorCode rfl ob0 (k_X8_errorCode hc hk) rfl (by first | decide | exact Nat.le_of_ble_eq_true rfl) ⟨by decide, by decide, by show _ ≤ 601024; omega, by show _ ≤ 7293034; omega⟩ (fun _ _ h => False.elim h) (fun v M' hp => ?_)
  obtain ⟨hok, h0, rfl⟩ := hp
  have hm1 := hm.frm (zUA_f (fun b hb => hok.1 b (fun w => hb (List.mem_cons_of_mem _ w))) hUA hAo)
  obtain ⟨fs1, ob1⟩ := hm1.ob
  have hc1 := hok.2
  have ho1 := hok.1.at (zU_no hUo) ho
  have hd1 := hok.1.at (zU_no hUd) hd
  refine z_aload_n C dL_law_516 rfl ?_
  refine z_callV C dL_law_517 lk_L_216 mw_X9_errorCode mi_X9_errorCode ms_X9_errorCode rfl ob1 (m_errorCode hm1 hk.1) rfl (by first | decide | exact Nat.le_of_ble_eq_true rfl) ⟨by decide, by decide, by show _ ≤ 601024; omega, by show _ ≤ 7293034; omega⟩ (fun _ _ h => False.elim h) (fun v M' hp => ?_)
  obtain ⟨b1, rfl, fA, hm2, hbv⟩ := hp
  have fB : zFr _ _ ((List.range 15).map A) := fA
  have J2 : zJ3 γ _ U A Y _ o d := ⟨hc1.frm fB (fun i hi => mAll.no (fun j hj w => hUA i j hi hj w.symm)), hk, hm2, hUA, ⟨_, fB.at (mAll.no hAo) ho1⟩, ⟨_, fB.at (mAll.no hAd) hd1⟩, hUo, hUd, hAo, hAd, hod⟩
  refine z_icmp_eq (tgt := 4249) C dL_law_520 (by decide) (fun h520 => ?_) (fun h520 => ?_)
  · exact z_fg (by omega) (by omega) ⟨_, _, _, rfl⟩ (next _ _ _ J2)
  · exact absurd (hbv rfl).symm h520
set_option maxHeartbeats 4000000 in
set_option maxRecDepth 100000 in
theorem cs_errorPosition (C : zC p l s m args meth c γ cL_law 9 (some .boolean) RL xt) {b N : Nat} {ys : Nat → Int} (hXs : va_X b N (fun j => zi (ys j)) s s.heap) (hbs : b < γ.2.1.size) (hN : N ≤ 3072) (hys : ∀ j, zR (ys j)) {U A : Nat → Nat} {Y : zSys} {th : Int} {o d : Nat} (J : zJ3 γ M U A Y th o d) {i : Int} (hi : 0 ≤ i ∧ i + 6 ≤ N) (hkn : k + 4 ≤ 601024 ∧ n + 24 ≤ 7293034) (next : ∀ M' Y' th', zJ3 γ M' U A Y' th' o d → zAW p l e room_1 s m args below meth c γ 9 Q M' (k + 4) (n + 24) 4249 [some (.ref b), some (.ref (U 0)), some (.ref (A 0)), some (.ref o), some (.ref d), some (.int (zi i)), none, none, none] []) : zAW p l e room_1 s m args below meth c γ 9 Q M k n 525 [some (.ref b), some (.ref (U 0)), some (.ref (A 0)), some (.ref o), some (.ref d), some (.int (zi i)), none, none, none] [] := by
  obtain ⟨hc, hk, hm, hUA, ⟨f0, ho⟩, ⟨g0, hd⟩, hUo, hUd, hAo, hAd, hod⟩ := J
  obtain ⟨fs0, ob0⟩ := hc.ob
  refine z_aload_n C dL_law_525 rfl ?_
  refine z_callV C dL_law_526 lk_L_217 mw_X8_errorPosition mi_X8_errorPosition ms_X8_errorPosition rfl ob0 (k_X8_errorPosition hc hk) rfl (by first | decide | exact Nat.le_of_ble_eq_true rfl) ⟨by decide, by decide, by show _ ≤ 601024; omega, by show _ ≤ 7293034; omega⟩ (fun _ _ h => False.elim h) (fun v M' hp => ?_)
  obtain ⟨hok, h0, rfl⟩ := hp
  have hm1 := hm.frm (zUA_f (fun b hb => hok.1 b (fun w => hb (List.mem_cons_of_mem _ w))) hUA hAo)
  obtain ⟨fs1, ob1⟩ := hm1.ob
  have hc1 := hok.2
  have ho1 := hok.1.at (zU_no hUo) ho
  have hd1 := hok.1.at (zU_no hUd) hd
  refine z_aload_n C dL_law_529 rfl ?_
  refine z_callV C dL_law_530 lk_L_220 mw_X9_errorPosition mi_X9_errorPosition ms_X9_errorPosition rfl ob1 (m_errorPosition hm1 hk.1) rfl (by first | decide | exact Nat.le_of_ble_eq_true rfl) ⟨by decide, by decide, by show _ ≤ 601024; omega, by show _ ≤ 7293034; omega⟩ (fun _ _ h => False.elim h) (fun v M' hp => ?_)
  obtain ⟨b1, rfl, fA, hm2, hbv⟩ := hp
  have fB : zFr _ _ ((List.range 15).map A) := fA
  have J2 : zJ3 γ _ U A Y _ o d := ⟨hc1.frm fB (fun i hi => mAll.no (fun j hj w => hUA i j hi hj w.symm)), hk, hm2, hUA, ⟨_, fB.at (mAll.no hAo) ho1⟩, ⟨_, fB.at (mAll.no hAd) hd1⟩, hUo, hUd, hAo, hAd, hod⟩
  refine z_icmp_eq (tgt := 4249) C dL_law_533 (by decide) (fun h533 => ?_) (fun h533 => ?_)
  · exact z_fg (by omega) (by omega) ⟨_, _, _, rfl⟩ (next _ _ _ J2)
  · exact absurd (hbv rfl).symm h533
set_option maxHeartbeats 4000000 in
set_option maxRecDepth 100000 in
theorem cs_year (C : zC p l s m args meth c γ cL_law 9 (some .boolean) RL xt) {b N : Nat} {ys : Nat → Int} (hXs : va_X b N (fun j => zi (ys j)) s s.heap) (hbs : b < γ.2.1.size) (hN : N ≤ 3072) (hys : ∀ j, zR (ys j)) {U A : Nat → Nat} {Y : zSys} {th : Int} {o d : Nat} (J : zJ3 γ M U A Y th o d) {i : Int} (hi : 0 ≤ i ∧ i + 6 ≤ N) (hkn : k + 4 ≤ 601024 ∧ n + 24 ≤ 7293034) (next : ∀ M' Y' th', zJ3 γ M' U A Y' th' o d → zAW p l e room_1 s m args below meth c γ 9 Q M' (k + 4) (n + 24) 4249 [some (.ref b), some (.ref (U 0)), some (.ref (A 0)), some (.ref o), some (.ref d), some (.int (zi i)), none, none, none] []) : zAW p l e room_1 s m args below meth c γ 9 Q M k n 538 [some (.ref b), some (.ref (U 0)), some (.ref (A 0)), some (.ref o), some (.ref d), some (.int (zi i)), none, none, none] [] := by
  obtain ⟨hc, hk, hm, hUA, ⟨f0, ho⟩, ⟨g0, hd⟩, hUo, hUd, hAo, hAd, hod⟩ := J
  obtain ⟨fs0, ob0⟩ := hc.ob
  refine z_aload_n C dL_law_538 rfl ?_
  refine z_callV C dL_law_539 lk_L_221 mw_X8_year mi_X8_year ms_X8_year rfl ob0 (k_X8_year hc hk) rfl (by first | decide | exact Nat.le_of_ble_eq_true rfl) ⟨by decide, by decide, by show _ ≤ 601024; omega, by show _ ≤ 7293034; omega⟩ (fun _ _ h => False.elim h) (fun v M' hp => ?_)
  obtain ⟨hok, h0, rfl⟩ := hp
  have hm1 := hm.frm (zUA_f (fun b hb => hok.1 b (fun w => hb (List.mem_cons_of_mem _ w))) hUA hAo)
  obtain ⟨fs1, ob1⟩ := hm1.ob
  have hc1 := hok.2
  have ho1 := hok.1.at (zU_no hUo) ho
  have hd1 := hok.1.at (zU_no hUd) hd
  refine z_aload_n C dL_law_542 rfl ?_
  refine z_callV C dL_law_543 lk_L_224 mw_X9_year mi_X9_year ms_X9_year rfl ob1 (m_year hm1 hk.1) rfl (by first | decide | exact Nat.le_of_ble_eq_true rfl) ⟨by decide, by decide, by show _ ≤ 601024; omega, by show _ ≤ 7293034; omega⟩ (fun _ _ h => False.elim h) (fun v M' hp => ?_)
  obtain ⟨b1, rfl, fA, hm2, hbv⟩ := hp
  have fB : zFr _ _ ((List.range 15).map A) := fA
  have J2 : zJ3 γ _ U A Y _ o d := ⟨hc1.frm fB (fun i hi => mAll.no (fun j hj w => hUA i j hi hj w.symm)), hk, hm2, hUA, ⟨_, fB.at (mAll.no hAo) ho1⟩, ⟨_, fB.at (mAll.no hAd) hd1⟩, hUo, hUd, hAo, hAd, hod⟩
  refine z_icmp_eq (tgt := 4249) C dL_law_546 (by decide) (fun h546 => ?_) (fun h546 => ?_)
  · exact z_fg (by omega) (by omega) ⟨_, _, _, rfl⟩ (next _ _ _ J2)
  · exact absurd (hbv rfl).symm h546
set_option maxHeartbeats 4000000 in
set_option maxRecDepth 100000 in
theorem cs_readerCount (C : zC p l s m args meth c γ cL_law 9 (some .boolean) RL xt) {b N : Nat} {ys : Nat → Int} (hXs : va_X b N (fun j => zi (ys j)) s s.heap) (hbs : b < γ.2.1.size) (hN : N ≤ 3072) (hys : ∀ j, zR (ys j)) {U A : Nat → Nat} {Y : zSys} {th : Int} {o d : Nat} (J : zJ3 γ M U A Y th o d) {i : Int} (hi : 0 ≤ i ∧ i + 6 ≤ N) (hkn : k + 4 ≤ 601024 ∧ n + 24 ≤ 7293034) (next : ∀ M' Y' th', zJ3 γ M' U A Y' th' o d → zAW p l e room_1 s m args below meth c γ 9 Q M' (k + 4) (n + 24) 4249 [some (.ref b), some (.ref (U 0)), some (.ref (A 0)), some (.ref o), some (.ref d), some (.int (zi i)), none, none, none] []) : zAW p l e room_1 s m args below meth c γ 9 Q M k n 551 [some (.ref b), some (.ref (U 0)), some (.ref (A 0)), some (.ref o), some (.ref d), some (.int (zi i)), none, none, none] [] := by
  obtain ⟨hc, hk, hm, hUA, ⟨f0, ho⟩, ⟨g0, hd⟩, hUo, hUd, hAo, hAd, hod⟩ := J
  obtain ⟨fs0, ob0⟩ := hc.ob
  refine z_aload_n C dL_law_551 rfl ?_
  refine z_callV C dL_law_552 lk_L_225 mw_X8_readerCount mi_X8_readerCount ms_X8_readerCount rfl ob0 (k_X8_readerCount hc hk) rfl (by first | decide | exact Nat.le_of_ble_eq_true rfl) ⟨by decide, by decide, by show _ ≤ 601024; omega, by show _ ≤ 7293034; omega⟩ (fun _ _ h => False.elim h) (fun v M' hp => ?_)
  obtain ⟨hok, h0, rfl⟩ := hp
  have hm1 := hm.frm (zUA_f (fun b hb => hok.1 b (fun w => hb (List.mem_cons_of_mem _ w))) hUA hAo)
  obtain ⟨fs1, ob1⟩ := hm1.ob
  have hc1 := hok.2
  have ho1 := hok.1.at (zU_no hUo) ho
  have hd1 := hok.1.at (zU_no hUd) hd
  refine z_aload_n C dL_law_555 rfl ?_
  refine z_callV C dL_law_556 lk_L_228 mw_X9_readerCount mi_X9_readerCount ms_X9_readerCount rfl ob1 (m_readerCount hm1 hk.1) rfl (by first | decide | exact Nat.le_of_ble_eq_true rfl) ⟨by decide, by decide, by show _ ≤ 601024; omega, by show _ ≤ 7293034; omega⟩ (fun _ _ h => False.elim h) (fun v M' hp => ?_)
  obtain ⟨b1, rfl, fA, hm2, hbv⟩ := hp
  have fB : zFr _ _ ((List.range 15).map A) := fA
  have J2 : zJ3 γ _ U A Y _ o d := ⟨hc1.frm fB (fun i hi => mAll.no (fun j hj w => hUA i j hi hj w.symm)), hk, hm2, hUA, ⟨_, fB.at (mAll.no hAo) ho1⟩, ⟨_, fB.at (mAll.no hAd) hd1⟩, hUo, hUd, hAo, hAd, hod⟩
  refine z_icmp_eq (tgt := 4249) C dL_law_559 (by decide) (fun h559 => ?_) (fun h559 => ?_)
  · exact z_fg (by omega) (by omega) ⟨_, _, _, rfl⟩ (next _ _ _ J2)
  · exact absurd (hbv rfl).symm h559
end CSb

