/-! the law's cases: trainedSymbols, trainingGap, symbolAtRank, rank, foundOrder, escapes, numerator -/
section CSe
variable {p : Program} {l : Launch} {e : Env} {s : State} {m : MethodId} {args : Array Value} {below : List Frame} {meth : Method} {c : Code} {γ : zG} {Q : State → Prop} {M : zM} {k n : Nat} {xt : List ExceptionTableEntry}
set_option maxHeartbeats 4000000 in
set_option maxRecDepth 100000 in
theorem cs_trainedSymbols (C : zC p l s m args meth c γ cL_law 9 (some .boolean) RL xt) {b N : Nat} {ys : Nat → Int} (hXs : va_X b N (fun j => zi (ys j)) s s.heap) (hbs : b < γ.2.1.size) (hN : N ≤ 3072) (hys : ∀ j, zR (ys j)) {U A : Nat → Nat} {Y : zSys} {th : Int} {o d : Nat} (J : zJ3 γ M U A Y th o d) {i : Int} (hi : 0 ≤ i ∧ i + 6 ≤ N) (hkn : k + 4 ≤ 601024 ∧ n + 24 ≤ 7293034) (next : ∀ M' Y' th', zJ3 γ M' U A Y' th' o d → zAW p l e room_1 s m args below meth c γ 9 Q M' (k + 4) (n + 24) 4249 [some (.ref b), some (.ref (U 0)), some (.ref (A 0)), some (.ref o), some (.ref d), some (.int (zi i)), none, none, none] []) : zAW p l e room_1 s m args below meth c γ 9 Q M k n 1461 [some (.ref b), some (.ref (U 0)), some (.ref (A 0)), some (.ref o), some (.ref d), some (.int (zi i)), none, none, none] [] := by
  obtain ⟨hc, hk, hm, hUA, ⟨f0, ho⟩, ⟨g0, hd⟩, hUo, hUd, hAo, hAd, hod⟩ := J
  obtain ⟨fs0, ob0⟩ := hc.ob
  refine z_aload_n C dL_law_1461 rfl ?_
  refine z_aload_n C dL_law_1462 rfl ?_
  refine z_iload C dL_law_1463 rfl ?_
  refine z_iconst C dL_law_1465 ?_
  refine z_iaddZ C dL_law_1466 ?_
  refine z_xld C hXs hbs (by omega) (by omega) dL_law_1467 ?_
  refine z_aload_n C dL_law_1468 rfl ?_
  refine z_callSH C dL_law_1469 lkw_trainedSymbols mwh_L_trainedSymbols mst_L_trainedSymbols (w_trainedSymbols hc hk ho hUo (hys _)) rfl (by first | decide | exact Nat.le_of_ble_eq_true rfl) ⟨by decide, by decide, by show _ ≤ 601024; omega, by show _ ≤ 7293034; omega⟩ (fun _ _ h => False.elim h) (fun v M' hp => ?_)
  obtain ⟨rfl, hr, f1, hc1, f2, hx1, hv⟩ := hp
  have hm1 := hm.frm (zUA_f f1 hUA hAo)
  obtain ⟨fs1, ob1⟩ := hm1.ob
  have ho1 := hx1
  have hd1 := f1.at (fun w => (List.mem_cons.mp w).elim (fun w => hod w.symm) (zU_no hUd)) hd
  refine z_istore C dL_law_1472 (by decide) ?_
  refine z_aload_n C dL_law_1474 rfl ?_
  refine z_aload_n C dL_law_1475 rfl ?_
  refine z_iload C dL_law_1476 rfl ?_
  refine z_iconst C dL_law_1478 ?_
  refine z_iaddZ C dL_law_1479 ?_
  refine z_xld C hXs hbs (by omega) (by omega) dL_law_1480 ?_
  refine z_callV C dL_law_1481 lk_L_277 mw_X9_trainedSymbols mi_X9_trainedSymbols ms_X9_trainedSymbols rfl ob1 (m_trainedSymbols hm1 hk.1 (hys _)) rfl (by first | decide | exact Nat.le_of_ble_eq_true rfl) ⟨by decide, by decide, by show _ ≤ 601024; omega, by show _ ≤ 7293034; omega⟩ (fun _ _ h => False.elim h) (fun v M' hp => ?_)
  obtain ⟨b1, rfl, fA, hm2, hbv⟩ := hp
  have fB : zFr _ _ ((List.range 15).map A) := fA
  have ho2 := fB.at (mAll.no hAo) ho1
  have hd2 := fB.at (mAll.no hAd) hd1
  have J2 : zJ3 γ _ U A _ _ o d := ⟨hc1.frm fB (fun i hi => mAll.no (fun j hj w => hUA i j hi hj w.symm)), hk, hm2, hUA, ⟨_, ho2⟩, ⟨_, hd2⟩, hUo, hUd, hAo, hAd, hod⟩
  obtain ⟨fs2, ob2⟩ := hm2.ob
  refine z_istore C dL_law_1484 (by decide) ?_
  refine z_aload_n C dL_law_1486 rfl ?_
  refine z_callV C dL_law_1487 lk_L_202 mw_X9_thrown mi_X9_thrown ms_X9_thrown rfl ob2 (m_thrown hm2) rfl (by first | decide | exact Nat.le_of_ble_eq_true rfl) ⟨by decide, by decide, by show _ ≤ 601024; omega, by show _ ≤ 7293034; omega⟩ (fun _ _ h => False.elim h) (fun v M' hp => ?_)
  obtain ⟨rfl, rfl⟩ := hp
  refine z_iload C dL_law_1490 rfl ?_
  refine z_icmp_eq (tgt := 1497) C dL_law_1492 (by decide) (fun h1492 => ?_) (fun h1492 => ?_)
  · refine z_iload C dL_law_1497 rfl ?_
    refine z_if_ne (tgt := 1514) C dL_law_1499 (by decide) (fun h1499 => ?_) (fun h1499 => ?_)
    · refine z_goto (tgt := 4249) C dL_law_1514 (by decide) ?_
      exact z_fg (by omega) (by omega) ⟨_, _, _, rfl⟩ (next _ _ _ J2)
    · have z0 := zq_0 hr h1499
      refine z_aload_n C dL_law_1502 rfl ?_
      refine z_iconst C dL_law_1503 ?_
      refine z_aldJ (i := 0) C dL_law_1504 ho2 ⟨by decide, by decide⟩ (by decide) ?_
      refine z_iload C dL_law_1505 rfl ?_
      refine z_i2l C dL_law_1507 ?_
      refine z_lcmp C dL_law_1508 ?_
      refine z_if_eq (tgt := 1514) C dL_law_1509 (by decide) (fun h1509 => ?_) (fun h1509 => ?_)
      · refine z_goto (tgt := 4249) C dL_law_1514 (by decide) ?_
        exact z_fg (by omega) (by omega) ⟨_, _, _, rfl⟩ (next _ _ _ J2)
      · exact absurd (by show lg_cmp (f2 0) (zi b1).toInt64 = 0; rw [hv z0, hbv z0]; exact lg_same _) h1509
  · exact absurd rfl h1492
set_option maxHeartbeats 4000000 in
set_option maxRecDepth 100000 in
theorem cs_trainingGap (C : zC p l s m args meth c γ cL_law 9 (some .boolean) RL xt) {b N : Nat} {ys : Nat → Int} (hXs : va_X b N (fun j => zi (ys j)) s s.heap) (hbs : b < γ.2.1.size) (hN : N ≤ 3072) (hys : ∀ j, zR (ys j)) {U A : Nat → Nat} {Y : zSys} {th : Int} {o d : Nat} (J : zJ3 γ M U A Y th o d) {i : Int} (hi : 0 ≤ i ∧ i + 6 ≤ N) (hkn : k + 4 ≤ 601024 ∧ n + 24 ≤ 7293034) (next : ∀ M' Y' th', zJ3 γ M' U A Y' th' o d → zAW p l e room_1 s m args below meth c γ 9 Q M' (k + 4) (n + 24) 4249 [some (.ref b), some (.ref (U 0)), some (.ref (A 0)), some (.ref o), some (.ref d), some (.int (zi i)), none, none, none] []) : zAW p l e room_1 s m args below meth c γ 9 Q M k n 1517 [some (.ref b), some (.ref (U 0)), some (.ref (A 0)), some (.ref o), some (.ref d), some (.int (zi i)), none, none, none] [] := by
  obtain ⟨hc, hk, hm, hUA, ⟨f0, ho⟩, ⟨g0, hd⟩, hUo, hUd, hAo, hAd, hod⟩ := J
  obtain ⟨fs0, ob0⟩ := hc.ob
  refine z_aload_n C dL_law_1517 rfl ?_
  refine z_aload_n C dL_law_1518 rfl ?_
  refine z_iload C dL_law_1519 rfl ?_
  refine z_iconst C dL_law_1521 ?_
  refine z_iaddZ C dL_law_1522 ?_
  refine z_xld C hXs hbs (by omega) (by omega) dL_law_1523 ?_
  refine z_aload_n C dL_law_1524 rfl ?_
  refine z_callSH C dL_law_1525 lkw_trainingGap mwh_L_trainingGap mst_L_trainingGap (w_trainingGap hc hk ho hUo (hys _)) rfl (by first | decide | exact Nat.le_of_ble_eq_true rfl) ⟨by decide, by decide, by show _ ≤ 601024; omega, by show _ ≤ 7293034; omega⟩ (fun _ _ h => False.elim h) (fun v M' hp => ?_)
  obtain ⟨rfl, hr, f1, hc1, f2, hx1, hv⟩ := hp
  have hm1 := hm.frm (zUA_f f1 hUA hAo)
  obtain ⟨fs1, ob1⟩ := hm1.ob
  have ho1 := hx1
  have hd1 := f1.at (fun w => (List.mem_cons.mp w).elim (fun w => hod w.symm) (zU_no hUd)) hd
  refine z_istore C dL_law_1528 (by decide) ?_
  refine z_aload_n C dL_law_1530 rfl ?_
  refine z_aload_n C dL_law_1531 rfl ?_
  refine z_iload C dL_law_1532 rfl ?_
  refine z_iconst C dL_law_1534 ?_
  refine z_iaddZ C dL_law_1535 ?_
  refine z_xld C hXs hbs (by omega) (by omega) dL_law_1536 ?_
  refine z_callV C dL_law_1537 lk_L_280 mw_X9_trainingGap mi_X9_trainingGap ms_X9_trainingGap rfl ob1 (m_trainingGap hm1 hk.1 (hys _)) rfl (by first | decide | exact Nat.le_of_ble_eq_true rfl) ⟨by decide, by decide, by show _ ≤ 601024; omega, by show _ ≤ 7293034; omega⟩ (fun _ _ h => False.elim h) (fun v M' hp => ?_)
  obtain ⟨b1, rfl, fA, hm2, hbv⟩ := hp
  have fB : zFr _ _ ((List.range 15).map A) := fA
  have ho2 := fB.at (mAll.no hAo) ho1
  have hd2 := fB.at (mAll.no hAd) hd1
  have J2 : zJ3 γ _ U A _ _ o d := ⟨hc1.frm fB (fun i hi => mAll.no (fun j hj w => hUA i j hi hj w.symm)), hk, hm2, hUA, ⟨_, ho2⟩, ⟨_, hd2⟩, hUo, hUd, hAo, hAd, hod⟩
  obtain ⟨fs2, ob2⟩ := hm2.ob
  refine z_istore C dL_law_1540 (by decide) ?_
  refine z_aload_n C dL_law_1542 rfl ?_
  refine z_callV C dL_law_1543 lk_L_202 mw_X9_thrown mi_X9_thrown ms_X9_thrown rfl ob2 (m_thrown hm2) rfl (by first | decide | exact Nat.le_of_ble_eq_true rfl) ⟨by decide, by decide, by show _ ≤ 601024; omega, by show _ ≤ 7293034; omega⟩ (fun _ _ h => False.elim h) (fun v M' hp => ?_)
  obtain ⟨rfl, rfl⟩ := hp
  refine z_iload C dL_law_1546 rfl ?_
  refine z_icmp_eq (tgt := 1553) C dL_law_1548 (by decide) (fun h1548 => ?_) (fun h1548 => ?_)
  · refine z_iload C dL_law_1553 rfl ?_
    refine z_if_ne (tgt := 1570) C dL_law_1555 (by decide) (fun h1555 => ?_) (fun h1555 => ?_)
    · refine z_goto (tgt := 4249) C dL_law_1570 (by decide) ?_
      exact z_fg (by omega) (by omega) ⟨_, _, _, rfl⟩ (next _ _ _ J2)
    · have z0 := zq_0 hr h1555
      refine z_aload_n C dL_law_1558 rfl ?_
      refine z_iconst C dL_law_1559 ?_
      refine z_aldJ (i := 0) C dL_law_1560 ho2 ⟨by decide, by decide⟩ (by decide) ?_
      refine z_iload C dL_law_1561 rfl ?_
      refine z_i2l C dL_law_1563 ?_
      refine z_lcmp C dL_law_1564 ?_
      refine z_if_eq (tgt := 1570) C dL_law_1565 (by decide) (fun h1565 => ?_) (fun h1565 => ?_)
      · refine z_goto (tgt := 4249) C dL_law_1570 (by decide) ?_
        exact z_fg (by omega) (by omega) ⟨_, _, _, rfl⟩ (next _ _ _ J2)
      · exact absurd (by show lg_cmp (f2 0) (zi b1).toInt64 = 0; rw [hv z0, hbv z0]; exact lg_same _) h1565
  · exact absurd rfl h1548
set_option maxHeartbeats 4000000 in
set_option maxRecDepth 100000 in
theorem cs_symbolAtRank (C : zC p l s m args meth c γ cL_law 9 (some .boolean) RL xt) {b N : Nat} {ys : Nat → Int} (hXs : va_X b N (fun j => zi (ys j)) s s.heap) (hbs : b < γ.2.1.size) (hN : N ≤ 3072) (hys : ∀ j, zR (ys j)) {U A : Nat → Nat} {Y : zSys} {th : Int} {o d : Nat} (J : zJ3 γ M U A Y th o d) {i : Int} (hi : 0 ≤ i ∧ i + 6 ≤ N) (hkn : k + 4 ≤ 601024 ∧ n + 24 ≤ 7293034) (next : ∀ M' Y' th', zJ3 γ M' U A Y' th' o d → zAW p l e room_1 s m args below meth c γ 9 Q M' (k + 4) (n + 24) 4249 [some (.ref b), some (.ref (U 0)), some (.ref (A 0)), some (.ref o), some (.ref d), some (.int (zi i)), none, none, none] []) : zAW p l e room_1 s m args below meth c γ 9 Q M k n 1573 [some (.ref b), some (.ref (U 0)), some (.ref (A 0)), some (.ref o), some (.ref d), some (.int (zi i)), none, none, none] [] := by
  obtain ⟨hc, hk, hm, hUA, ⟨f0, ho⟩, ⟨g0, hd⟩, hUo, hUd, hAo, hAd, hod⟩ := J
  obtain ⟨fs0, ob0⟩ := hc.ob
  refine z_aload_n C dL_law_1573 rfl ?_
  refine z_aload_n C dL_law_1574 rfl ?_
  refine z_iload C dL_law_1575 rfl ?_
  refine z_iconst C dL_law_1577 ?_
  refine z_iaddZ C dL_law_1578 ?_
  refine z_xld C hXs hbs (by omega) (by omega) dL_law_1579 ?_
  refine z_aload_n C dL_law_1580 rfl ?_
  refine z_iload C dL_law_1581 rfl ?_
  refine z_iconst C dL_law_1583 ?_
  refine z_iaddZ C dL_law_1584 ?_
  refine z_xld C hXs hbs (by omega) (by omega) dL_law_1585 ?_
  refine z_aload_n C dL_law_1586 rfl ?_
  refine z_iload C dL_law_1587 rfl ?_
  refine z_iconst C dL_law_1589 ?_
  refine z_iaddZ C dL_law_1590 ?_
  refine z_xld C hXs hbs (by omega) (by omega) dL_law_1591 ?_
  refine z_aload_n C dL_law_1592 rfl ?_
  refine z_iload C dL_law_1593 rfl ?_
  refine z_iconst C dL_law_1595 ?_
  refine z_iaddZ C dL_law_1596 ?_
  refine z_xld C hXs hbs (by omega) (by omega) dL_law_1597 ?_
  refine z_aload_n C dL_law_1598 rfl ?_
  refine z_callSH C dL_law_1599 lkw_symbolAtRank mwh_L_symbolAtRank mst_L_symbolAtRank (w_symbolAtRank hc hk ho hUo (hys _) (hys _) (hys _) (hys _)) rfl (by first | decide | exact Nat.le_of_ble_eq_true rfl) ⟨by decide, by decide, by show _ ≤ 601024; omega, by show _ ≤ 7293034; omega⟩ (fun _ _ h => False.elim h) (fun v M' hp => ?_)
  obtain ⟨rfl, hr, f1, hc1, f2, hx1, hv⟩ := hp
  have hm1 := hm.frm (zUA_f f1 hUA hAo)
  obtain ⟨fs1, ob1⟩ := hm1.ob
  have ho1 := hx1
  have hd1 := f1.at (fun w => (List.mem_cons.mp w).elim (fun w => hod w.symm) (zU_no hUd)) hd
  refine z_istore C dL_law_1602 (by decide) ?_
  refine z_aload_n C dL_law_1604 rfl ?_
  refine z_aload_n C dL_law_1605 rfl ?_
  refine z_iload C dL_law_1606 rfl ?_
  refine z_iconst C dL_law_1608 ?_
  refine z_iaddZ C dL_law_1609 ?_
  refine z_xld C hXs hbs (by omega) (by omega) dL_law_1610 ?_
  refine z_aload_n C dL_law_1611 rfl ?_
  refine z_iload C dL_law_1612 rfl ?_
  refine z_iconst C dL_law_1614 ?_
  refine z_iaddZ C dL_law_1615 ?_
  refine z_xld C hXs hbs (by omega) (by omega) dL_law_1616 ?_
  refine z_aload_n C dL_law_1617 rfl ?_
  refine z_iload C dL_law_1618 rfl ?_
  refine z_iconst C dL_law_1620 ?_
  refine z_iaddZ C dL_law_1621 ?_
  refine z_xld C hXs hbs (by omega) (by omega) dL_law_1622 ?_
  refine z_aload_n C dL_law_1623 rfl ?_
  refine z_iload C dL_law_1624 rfl ?_
  refine z_iconst C dL_law_1626 ?_
  refine z_iaddZ C dL_law_1627 ?_
  refine z_xld C hXs hbs (by omega) (by omega) dL_law_1628 ?_
  refine z_callV C dL_law_1629 lk_L_283 mw_X9_symbolAtRank mi_X9_symbolAtRank ms_X9_symbolAtRank rfl ob1 (m_symbolAtRank hm1 hk.1 (hys _) (hys _) (hys _) (hys _)) rfl (by first | decide | exact Nat.le_of_ble_eq_true rfl) ⟨by decide, by decide, by show _ ≤ 601024; omega, by show _ ≤ 7293034; omega⟩ (fun _ _ h => False.elim h) (fun v M' hp => ?_)
  obtain ⟨b1, rfl, fA, hm2, hbv⟩ := hp
  have fB : zFr _ _ ((List.range 15).map A) := fA
  have ho2 := fB.at (mAll.no hAo) ho1
  have hd2 := fB.at (mAll.no hAd) hd1
  have J2 : zJ3 γ _ U A _ _ o d := ⟨hc1.frm fB (fun i hi => mAll.no (fun j hj w => hUA i j hi hj w.symm)), hk, hm2, hUA, ⟨_, ho2⟩, ⟨_, hd2⟩, hUo, hUd, hAo, hAd, hod⟩
  obtain ⟨fs2, ob2⟩ := hm2.ob
  refine z_istore C dL_law_1632 (by decide) ?_
  refine z_aload_n C dL_law_1634 rfl ?_
  refine z_callV C dL_law_1635 lk_L_202 mw_X9_thrown mi_X9_thrown ms_X9_thrown rfl ob2 (m_thrown hm2) rfl (by first | decide | exact Nat.le_of_ble_eq_true rfl) ⟨by decide, by decide, by show _ ≤ 601024; omega, by show _ ≤ 7293034; omega⟩ (fun _ _ h => False.elim h) (fun v M' hp => ?_)
  obtain ⟨rfl, rfl⟩ := hp
  refine z_iload C dL_law_1638 rfl ?_
  refine z_icmp_eq (tgt := 1645) C dL_law_1640 (by decide) (fun h1640 => ?_) (fun h1640 => ?_)
  · refine z_iload C dL_law_1645 rfl ?_
    refine z_if_ne (tgt := 1662) C dL_law_1647 (by decide) (fun h1647 => ?_) (fun h1647 => ?_)
    · refine z_goto (tgt := 4249) C dL_law_1662 (by decide) ?_
      exact z_fg (by omega) (by omega) ⟨_, _, _, rfl⟩ (next _ _ _ J2)
    · have z0 := zq_0 hr h1647
      refine z_aload_n C dL_law_1650 rfl ?_
      refine z_iconst C dL_law_1651 ?_
      refine z_aldJ (i := 0) C dL_law_1652 ho2 ⟨by decide, by decide⟩ (by decide) ?_
      refine z_iload C dL_law_1653 rfl ?_
      refine z_i2l C dL_law_1655 ?_
      refine z_lcmp C dL_law_1656 ?_
      refine z_if_eq (tgt := 1662) C dL_law_1657 (by decide) (fun h1657 => ?_) (fun h1657 => ?_)
      · refine z_goto (tgt := 4249) C dL_law_1662 (by decide) ?_
        exact z_fg (by omega) (by omega) ⟨_, _, _, rfl⟩ (next _ _ _ J2)
      · exact absurd (by show lg_cmp (f2 0) (zi b1).toInt64 = 0; rw [hv z0, hbv z0]; exact lg_same _) h1657
  · exact absurd rfl h1640
set_option maxHeartbeats 4000000 in
set_option maxRecDepth 100000 in
theorem cs_rank (C : zC p l s m args meth c γ cL_law 9 (some .boolean) RL xt) {b N : Nat} {ys : Nat → Int} (hXs : va_X b N (fun j => zi (ys j)) s s.heap) (hbs : b < γ.2.1.size) (hN : N ≤ 3072) (hys : ∀ j, zR (ys j)) {U A : Nat → Nat} {Y : zSys} {th : Int} {o d : Nat} (J : zJ3 γ M U A Y th o d) {i : Int} (hi : 0 ≤ i ∧ i + 6 ≤ N) (hkn : k + 4 ≤ 601024 ∧ n + 24 ≤ 7293034) (next : ∀ M' Y' th', zJ3 γ M' U A Y' th' o d → zAW p l e room_1 s m args below meth c γ 9 Q M' (k + 4) (n + 24) 4249 [some (.ref b), some (.ref (U 0)), some (.ref (A 0)), some (.ref o), some (.ref d), some (.int (zi i)), none, none, none] []) : zAW p l e room_1 s m args below meth c γ 9 Q M k n 1665 [some (.ref b), some (.ref (U 0)), some (.ref (A 0)), some (.ref o), some (.ref d), some (.int (zi i)), none, none, none] [] := by
  obtain ⟨hc, hk, hm, hUA, ⟨f0, ho⟩, ⟨g0, hd⟩, hUo, hUd, hAo, hAd, hod⟩ := J
  obtain ⟨fs0, ob0⟩ := hc.ob
  refine z_aload_n C dL_law_1665 rfl ?_
  refine z_aload_n C dL_law_1666 rfl ?_
  refine z_iload C dL_law_1667 rfl ?_
  refine z_iconst C dL_law_1669 ?_
  refine z_iaddZ C dL_law_1670 ?_
  refine z_xld C hXs hbs (by omega) (by omega) dL_law_1671 ?_
  refine z_aload_n C dL_law_1672 rfl ?_
  refine z_iload C dL_law_1673 rfl ?_
  refine z_iconst C dL_law_1675 ?_
  refine z_iaddZ C dL_law_1676 ?_
  refine z_xld C hXs hbs (by omega) (by omega) dL_law_1677 ?_
  refine z_aload_n C dL_law_1678 rfl ?_
  refine z_iload C dL_law_1679 rfl ?_
  refine z_iconst C dL_law_1681 ?_
  refine z_iaddZ C dL_law_1682 ?_
  refine z_xld C hXs hbs (by omega) (by omega) dL_law_1683 ?_
  refine z_aload_n C dL_law_1684 rfl ?_
  refine z_iload C dL_law_1685 rfl ?_
  refine z_iconst C dL_law_1687 ?_
  refine z_iaddZ C dL_law_1688 ?_
  refine z_xld C hXs hbs (by omega) (by omega) dL_law_1689 ?_
  refine z_aload_n C dL_law_1690 rfl ?_
  refine z_callSH C dL_law_1691 lkw_rank mwh_L_rank mst_L_rank (w_rank hc hk ho hUo (hys _) (hys _) (hys _) (hys _)) rfl (by first | decide | exact Nat.le_of_ble_eq_true rfl) ⟨by decide, by decide, by show _ ≤ 601024; omega, by show _ ≤ 7293034; omega⟩ (fun _ _ h => False.elim h) (fun v M' hp => ?_)
  obtain ⟨rfl, hr, f1, hc1, f2, hx1, hv⟩ := hp
  have hm1 := hm.frm (zUA_f f1 hUA hAo)
  obtain ⟨fs1, ob1⟩ := hm1.ob
  have ho1 := hx1
  have hd1 := f1.at (fun w => (List.mem_cons.mp w).elim (fun w => hod w.symm) (zU_no hUd)) hd
  refine z_istore C dL_law_1694 (by decide) ?_
  refine z_aload_n C dL_law_1696 rfl ?_
  refine z_aload_n C dL_law_1697 rfl ?_
  refine z_iload C dL_law_1698 rfl ?_
  refine z_iconst C dL_law_1700 ?_
  refine z_iaddZ C dL_law_1701 ?_
  refine z_xld C hXs hbs (by omega) (by omega) dL_law_1702 ?_
  refine z_aload_n C dL_law_1703 rfl ?_
  refine z_iload C dL_law_1704 rfl ?_
  refine z_iconst C dL_law_1706 ?_
  refine z_iaddZ C dL_law_1707 ?_
  refine z_xld C hXs hbs (by omega) (by omega) dL_law_1708 ?_
  refine z_aload_n C dL_law_1709 rfl ?_
  refine z_iload C dL_law_1710 rfl ?_
  refine z_iconst C dL_law_1712 ?_
  refine z_iaddZ C dL_law_1713 ?_
  refine z_xld C hXs hbs (by omega) (by omega) dL_law_1714 ?_
  refine z_aload_n C dL_law_1715 rfl ?_
  refine z_iload C dL_law_1716 rfl ?_
  refine z_iconst C dL_law_1718 ?_
  refine z_iaddZ C dL_law_1719 ?_
  refine z_xld C hXs hbs (by omega) (by omega) dL_law_1720 ?_
  refine z_callV C dL_law_1721 lk_L_286 mw_X9_rank mi_X9_rank ms_X9_rank rfl ob1 (m_rank hm1 hk.1 (hys _) (hys _) (hys _) (hys _)) rfl (by first | decide | exact Nat.le_of_ble_eq_true rfl) ⟨by decide, by decide, by show _ ≤ 601024; omega, by show _ ≤ 7293034; omega⟩ (fun _ _ h => False.elim h) (fun v M' hp => ?_)
  obtain ⟨b1, rfl, fA, hm2, hbv⟩ := hp
  have fB : zFr _ _ ((List.range 15).map A) := fA
  have ho2 := fB.at (mAll.no hAo) ho1
  have hd2 := fB.at (mAll.no hAd) hd1
  have J2 : zJ3 γ _ U A _ _ o d := ⟨hc1.frm fB (fun i hi => mAll.no (fun j hj w => hUA i j hi hj w.symm)), hk, hm2, hUA, ⟨_, ho2⟩, ⟨_, hd2⟩, hUo, hUd, hAo, hAd, hod⟩
  obtain ⟨fs2, ob2⟩ := hm2.ob
  refine z_istore C dL_law_1724 (by decide) ?_
  refine z_aload_n C dL_law_1726 rfl ?_
  refine z_callV C dL_law_1727 lk_L_202 mw_X9_thrown mi_X9_thrown ms_X9_thrown rfl ob2 (m_thrown hm2) rfl (by first | decide | exact Nat.le_of_ble_eq_true rfl) ⟨by decide, by decide, by show _ ≤ 601024; omega, by show _ ≤ 7293034; omega⟩ (fun _ _ h => False.elim h) (fun v M' hp => ?_)
  obtain ⟨rfl, rfl⟩ := hp
  refine z_iload C dL_law_1730 rfl ?_
  refine z_icmp_eq (tgt := 1737) C dL_law_1732 (by decide) (fun h1732 => ?_) (fun h1732 => ?_)
  · refine z_iload C dL_law_1737 rfl ?_
    refine z_if_ne (tgt := 1754) C dL_law_1739 (by decide) (fun h1739 => ?_) (fun h1739 => ?_)
    · refine z_goto (tgt := 4249) C dL_law_1754 (by decide) ?_
      exact z_fg (by omega) (by omega) ⟨_, _, _, rfl⟩ (next _ _ _ J2)
    · have z0 := zq_0 hr h1739
      refine z_aload_n C dL_law_1742 rfl ?_
      refine z_iconst C dL_law_1743 ?_
      refine z_aldJ (i := 0) C dL_law_1744 ho2 ⟨by decide, by decide⟩ (by decide) ?_
      refine z_iload C dL_law_1745 rfl ?_
      refine z_i2l C dL_law_1747 ?_
      refine z_lcmp C dL_law_1748 ?_
      refine z_if_eq (tgt := 1754) C dL_law_1749 (by decide) (fun h1749 => ?_) (fun h1749 => ?_)
      · refine z_goto (tgt := 4249) C dL_law_1754 (by decide) ?_
        exact z_fg (by omega) (by omega) ⟨_, _, _, rfl⟩ (next _ _ _ J2)
      · exact absurd (by show lg_cmp (f2 0) (zi b1).toInt64 = 0; rw [hv z0, hbv z0]; exact lg_same _) h1749
  · exact absurd rfl h1732
set_option maxHeartbeats 4000000 in
set_option maxRecDepth 100000 in
theorem cs_foundOrder (C : zC p l s m args meth c γ cL_law 9 (some .boolean) RL xt) {b N : Nat} {ys : Nat → Int} (hXs : va_X b N (fun j => zi (ys j)) s s.heap) (hbs : b < γ.2.1.size) (hN : N ≤ 3072) (hys : ∀ j, zR (ys j)) {U A : Nat → Nat} {Y : zSys} {th : Int} {o d : Nat} (J : zJ3 γ M U A Y th o d) {i : Int} (hi : 0 ≤ i ∧ i + 6 ≤ N) (hkn : k + 4 ≤ 601024 ∧ n + 24 ≤ 7293034) (next : ∀ M' Y' th', zJ3 γ M' U A Y' th' o d → zAW p l e room_1 s m args below meth c γ 9 Q M' (k + 4) (n + 24) 4249 [some (.ref b), some (.ref (U 0)), some (.ref (A 0)), some (.ref o), some (.ref d), some (.int (zi i)), none, none, none] []) : zAW p l e room_1 s m args below meth c γ 9 Q M k n 1757 [some (.ref b), some (.ref (U 0)), some (.ref (A 0)), some (.ref o), some (.ref d), some (.int (zi i)), none, none, none] [] := by
  obtain ⟨hc, hk, hm, hUA, ⟨f0, ho⟩, ⟨g0, hd⟩, hUo, hUd, hAo, hAd, hod⟩ := J
  obtain ⟨fs0, ob0⟩ := hc.ob
  refine z_aload_n C dL_law_1757 rfl ?_
  refine z_aload_n C dL_law_1758 rfl ?_
  refine z_iload C dL_law_1759 rfl ?_
  refine z_iconst C dL_law_1761 ?_
  refine z_iaddZ C dL_law_1762 ?_
  refine z_xld C hXs hbs (by omega) (by omega) dL_law_1763 ?_
  refine z_aload_n C dL_law_1764 rfl ?_
  refine z_iload C dL_law_1765 rfl ?_
  refine z_iconst C dL_law_1767 ?_
  refine z_iaddZ C dL_law_1768 ?_
  refine z_xld C hXs hbs (by omega) (by omega) dL_law_1769 ?_
  refine z_aload_n C dL_law_1770 rfl ?_
  refine z_iload C dL_law_1771 rfl ?_
  refine z_iconst C dL_law_1773 ?_
  refine z_iaddZ C dL_law_1774 ?_
  refine z_xld C hXs hbs (by omega) (by omega) dL_law_1775 ?_
  refine z_aload_n C dL_law_1776 rfl ?_
  refine z_iload C dL_law_1777 rfl ?_
  refine z_iconst C dL_law_1779 ?_
  refine z_iaddZ C dL_law_1780 ?_
  refine z_xld C hXs hbs (by omega) (by omega) dL_law_1781 ?_
  refine z_aload_n C dL_law_1782 rfl ?_
  refine z_callSH C dL_law_1783 lkw_foundOrder mwh_L_foundOrder mst_L_foundOrder (w_foundOrder hc hk ho hUo (hys _) (hys _) (hys _) (hys _)) rfl (by first | decide | exact Nat.le_of_ble_eq_true rfl) ⟨by decide, by decide, by show _ ≤ 601024; omega, by show _ ≤ 7293034; omega⟩ (fun _ _ h => False.elim h) (fun v M' hp => ?_)
  obtain ⟨rfl, hr, f1, hc1, f2, hx1, hv⟩ := hp
  have hm1 := hm.frm (zUA_f f1 hUA hAo)
  obtain ⟨fs1, ob1⟩ := hm1.ob
  have ho1 := hx1
  have hd1 := f1.at (fun w => (List.mem_cons.mp w).elim (fun w => hod w.symm) (zU_no hUd)) hd
  refine z_istore C dL_law_1786 (by decide) ?_
  refine z_aload_n C dL_law_1788 rfl ?_
  refine z_aload_n C dL_law_1789 rfl ?_
  refine z_iload C dL_law_1790 rfl ?_
  refine z_iconst C dL_law_1792 ?_
  refine z_iaddZ C dL_law_1793 ?_
  refine z_xld C hXs hbs (by omega) (by omega) dL_law_1794 ?_
  refine z_aload_n C dL_law_1795 rfl ?_
  refine z_iload C dL_law_1796 rfl ?_
  refine z_iconst C dL_law_1798 ?_
  refine z_iaddZ C dL_law_1799 ?_
  refine z_xld C hXs hbs (by omega) (by omega) dL_law_1800 ?_
  refine z_aload_n C dL_law_1801 rfl ?_
  refine z_iload C dL_law_1802 rfl ?_
  refine z_iconst C dL_law_1804 ?_
  refine z_iaddZ C dL_law_1805 ?_
  refine z_xld C hXs hbs (by omega) (by omega) dL_law_1806 ?_
  refine z_aload_n C dL_law_1807 rfl ?_
  refine z_iload C dL_law_1808 rfl ?_
  refine z_iconst C dL_law_1810 ?_
  refine z_iaddZ C dL_law_1811 ?_
  refine z_xld C hXs hbs (by omega) (by omega) dL_law_1812 ?_
  refine z_callV C dL_law_1813 lk_L_289 mw_X9_foundOrder mi_X9_foundOrder ms_X9_foundOrder rfl ob1 (m_foundOrder hm1 hk.1 (hys _) (hys _) (hys _) (hys _)) rfl (by first | decide | exact Nat.le_of_ble_eq_true rfl) ⟨by decide, by decide, by show _ ≤ 601024; omega, by show _ ≤ 7293034; omega⟩ (fun _ _ h => False.elim h) (fun v M' hp => ?_)
  obtain ⟨b1, rfl, fA, hm2, hbv⟩ := hp
  have fB : zFr _ _ ((List.range 15).map A) := fA
  have ho2 := fB.at (mAll.no hAo) ho1
  have hd2 := fB.at (mAll.no hAd) hd1
  have J2 : zJ3 γ _ U A _ _ o d := ⟨hc1.frm fB (fun i hi => mAll.no (fun j hj w => hUA i j hi hj w.symm)), hk, hm2, hUA, ⟨_, ho2⟩, ⟨_, hd2⟩, hUo, hUd, hAo, hAd, hod⟩
  obtain ⟨fs2, ob2⟩ := hm2.ob
  refine z_istore C dL_law_1816 (by decide) ?_
  refine z_aload_n C dL_law_1818 rfl ?_
  refine z_callV C dL_law_1819 lk_L_202 mw_X9_thrown mi_X9_thrown ms_X9_thrown rfl ob2 (m_thrown hm2) rfl (by first | decide | exact Nat.le_of_ble_eq_true rfl) ⟨by decide, by decide, by show _ ≤ 601024; omega, by show _ ≤ 7293034; omega⟩ (fun _ _ h => False.elim h) (fun v M' hp => ?_)
  obtain ⟨rfl, rfl⟩ := hp
  refine z_iload C dL_law_1822 rfl ?_
  refine z_icmp_eq (tgt := 1829) C dL_law_1824 (by decide) (fun h1824 => ?_) (fun h1824 => ?_)
  · refine z_iload C dL_law_1829 rfl ?_
    refine z_if_ne (tgt := 1846) C dL_law_1831 (by decide) (fun h1831 => ?_) (fun h1831 => ?_)
    · refine z_goto (tgt := 4249) C dL_law_1846 (by decide) ?_
      exact z_fg (by omega) (by omega) ⟨_, _, _, rfl⟩ (next _ _ _ J2)
    · have z0 := zq_0 hr h1831
      refine z_aload_n C dL_law_1834 rfl ?_
      refine z_iconst C dL_law_1835 ?_
      refine z_aldJ (i := 0) C dL_law_1836 ho2 ⟨by decide, by decide⟩ (by decide) ?_
      refine z_iload C dL_law_1837 rfl ?_
      refine z_i2l C dL_law_1839 ?_
      refine z_lcmp C dL_law_1840 ?_
      refine z_if_eq (tgt := 1846) C dL_law_1841 (by decide) (fun h1841 => ?_) (fun h1841 => ?_)
      · refine z_goto (tgt := 4249) C dL_law_1846 (by decide) ?_
        exact z_fg (by omega) (by omega) ⟨_, _, _, rfl⟩ (next _ _ _ J2)
      · exact absurd (by show lg_cmp (f2 0) (zi b1).toInt64 = 0; rw [hv z0, hbv z0]; exact lg_same _) h1841
  · exact absurd rfl h1824
set_option maxHeartbeats 4000000 in
set_option maxRecDepth 100000 in
theorem cs_escapes (C : zC p l s m args meth c γ cL_law 9 (some .boolean) RL xt) {b N : Nat} {ys : Nat → Int} (hXs : va_X b N (fun j => zi (ys j)) s s.heap) (hbs : b < γ.2.1.size) (hN : N ≤ 3072) (hys : ∀ j, zR (ys j)) {U A : Nat → Nat} {Y : zSys} {th : Int} {o d : Nat} (J : zJ3 γ M U A Y th o d) {i : Int} (hi : 0 ≤ i ∧ i + 6 ≤ N) (hkn : k + 4 ≤ 601024 ∧ n + 24 ≤ 7293034) (next : ∀ M' Y' th', zJ3 γ M' U A Y' th' o d → zAW p l e room_1 s m args below meth c γ 9 Q M' (k + 4) (n + 24) 4249 [some (.ref b), some (.ref (U 0)), some (.ref (A 0)), some (.ref o), some (.ref d), some (.int (zi i)), none, none, none] []) : zAW p l e room_1 s m args below meth c γ 9 Q M k n 1849 [some (.ref b), some (.ref (U 0)), some (.ref (A 0)), some (.ref o), some (.ref d), some (.int (zi i)), none, none, none] [] := by
  obtain ⟨hc, hk, hm, hUA, ⟨f0, ho⟩, ⟨g0, hd⟩, hUo, hUd, hAo, hAd, hod⟩ := J
  obtain ⟨fs0, ob0⟩ := hc.ob
  refine z_aload_n C dL_law_1849 rfl ?_
  refine z_aload_n C dL_law_1850 rfl ?_
  refine z_iload C dL_law_1851 rfl ?_
  refine z_iconst C dL_law_1853 ?_
  refine z_iaddZ C dL_law_1854 ?_
  refine z_xld C hXs hbs (by omega) (by omega) dL_law_1855 ?_
  refine z_aload_n C dL_law_1856 rfl ?_
  refine z_iload C dL_law_1857 rfl ?_
  refine z_iconst C dL_law_1859 ?_
  refine z_iaddZ C dL_law_1860 ?_
  refine z_xld C hXs hbs (by omega) (by omega) dL_law_1861 ?_
  refine z_aload_n C dL_law_1862 rfl ?_
  refine z_iload C dL_law_1863 rfl ?_
  refine z_iconst C dL_law_1865 ?_
  refine z_iaddZ C dL_law_1866 ?_
  refine z_xld C hXs hbs (by omega) (by omega) dL_law_1867 ?_
  refine z_aload_n C dL_law_1868 rfl ?_
  refine z_iload C dL_law_1869 rfl ?_
  refine z_iconst C dL_law_1871 ?_
  refine z_iaddZ C dL_law_1872 ?_
  refine z_xld C hXs hbs (by omega) (by omega) dL_law_1873 ?_
  refine z_aload_n C dL_law_1874 rfl ?_
  refine z_callSH C dL_law_1875 lkw_escapes mwh_L_escapes mst_L_escapes (w_escapes hc hk ho hUo (hys _) (hys _) (hys _) (hys _)) rfl (by first | decide | exact Nat.le_of_ble_eq_true rfl) ⟨by decide, by decide, by show _ ≤ 601024; omega, by show _ ≤ 7293034; omega⟩ (fun _ _ h => False.elim h) (fun v M' hp => ?_)
  obtain ⟨rfl, hr, f1, hc1, f2, hx1, hv⟩ := hp
  have hm1 := hm.frm (zUA_f f1 hUA hAo)
  obtain ⟨fs1, ob1⟩ := hm1.ob
  have ho1 := hx1
  have hd1 := f1.at (fun w => (List.mem_cons.mp w).elim (fun w => hod w.symm) (zU_no hUd)) hd
  refine z_istore C dL_law_1878 (by decide) ?_
  refine z_aload_n C dL_law_1880 rfl ?_
  refine z_aload_n C dL_law_1881 rfl ?_
  refine z_iload C dL_law_1882 rfl ?_
  refine z_iconst C dL_law_1884 ?_
  refine z_iaddZ C dL_law_1885 ?_
  refine z_xld C hXs hbs (by omega) (by omega) dL_law_1886 ?_
  refine z_aload_n C dL_law_1887 rfl ?_
  refine z_iload C dL_law_1888 rfl ?_
  refine z_iconst C dL_law_1890 ?_
  refine z_iaddZ C dL_law_1891 ?_
  refine z_xld C hXs hbs (by omega) (by omega) dL_law_1892 ?_
  refine z_aload_n C dL_law_1893 rfl ?_
  refine z_iload C dL_law_1894 rfl ?_
  refine z_iconst C dL_law_1896 ?_
  refine z_iaddZ C dL_law_1897 ?_
  refine z_xld C hXs hbs (by omega) (by omega) dL_law_1898 ?_
  refine z_aload_n C dL_law_1899 rfl ?_
  refine z_iload C dL_law_1900 rfl ?_
  refine z_iconst C dL_law_1902 ?_
  refine z_iaddZ C dL_law_1903 ?_
  refine z_xld C hXs hbs (by omega) (by omega) dL_law_1904 ?_
  refine z_callV C dL_law_1905 lk_L_292 mw_X9_escapes mi_X9_escapes ms_X9_escapes rfl ob1 (m_escapes hm1 hk.1 (hys _) (hys _) (hys _) (hys _)) rfl (by first | decide | exact Nat.le_of_ble_eq_true rfl) ⟨by decide, by decide, by show _ ≤ 601024; omega, by show _ ≤ 7293034; omega⟩ (fun _ _ h => False.elim h) (fun v M' hp => ?_)
  obtain ⟨b1, rfl, fA, hm2, hbv⟩ := hp
  have fB : zFr _ _ ((List.range 15).map A) := fA
  have ho2 := fB.at (mAll.no hAo) ho1
  have hd2 := fB.at (mAll.no hAd) hd1
  have J2 : zJ3 γ _ U A _ _ o d := ⟨hc1.frm fB (fun i hi => mAll.no (fun j hj w => hUA i j hi hj w.symm)), hk, hm2, hUA, ⟨_, ho2⟩, ⟨_, hd2⟩, hUo, hUd, hAo, hAd, hod⟩
  obtain ⟨fs2, ob2⟩ := hm2.ob
  refine z_istore C dL_law_1908 (by decide) ?_
  refine z_aload_n C dL_law_1910 rfl ?_
  refine z_callV C dL_law_1911 lk_L_202 mw_X9_thrown mi_X9_thrown ms_X9_thrown rfl ob2 (m_thrown hm2) rfl (by first | decide | exact Nat.le_of_ble_eq_true rfl) ⟨by decide, by decide, by show _ ≤ 601024; omega, by show _ ≤ 7293034; omega⟩ (fun _ _ h => False.elim h) (fun v M' hp => ?_)
  obtain ⟨rfl, rfl⟩ := hp
  refine z_iload C dL_law_1914 rfl ?_
  refine z_icmp_eq (tgt := 1921) C dL_law_1916 (by decide) (fun h1916 => ?_) (fun h1916 => ?_)
  · refine z_iload C dL_law_1921 rfl ?_
    refine z_if_ne (tgt := 1938) C dL_law_1923 (by decide) (fun h1923 => ?_) (fun h1923 => ?_)
    · refine z_goto (tgt := 4249) C dL_law_1938 (by decide) ?_
      exact z_fg (by omega) (by omega) ⟨_, _, _, rfl⟩ (next _ _ _ J2)
    · have z0 := zq_0 hr h1923
      refine z_aload_n C dL_law_1926 rfl ?_
      refine z_iconst C dL_law_1927 ?_
      refine z_aldJ (i := 0) C dL_law_1928 ho2 ⟨by decide, by decide⟩ (by decide) ?_
      refine z_iload C dL_law_1929 rfl ?_
      refine z_i2l C dL_law_1931 ?_
      refine z_lcmp C dL_law_1932 ?_
      refine z_if_eq (tgt := 1938) C dL_law_1933 (by decide) (fun h1933 => ?_) (fun h1933 => ?_)
      · refine z_goto (tgt := 4249) C dL_law_1938 (by decide) ?_
        exact z_fg (by omega) (by omega) ⟨_, _, _, rfl⟩ (next _ _ _ J2)
      · exact absurd (by show lg_cmp (f2 0) (zi b1).toInt64 = 0; rw [hv z0, hbv z0]; exact lg_same _) h1933
  · exact absurd rfl h1916
set_option maxHeartbeats 4000000 in
set_option maxRecDepth 100000 in
theorem cs_numerator (C : zC p l s m args meth c γ cL_law 9 (some .boolean) RL xt) {b N : Nat} {ys : Nat → Int} (hXs : va_X b N (fun j => zi (ys j)) s s.heap) (hbs : b < γ.2.1.size) (hN : N ≤ 3072) (hys : ∀ j, zR (ys j)) {U A : Nat → Nat} {Y : zSys} {th : Int} {o d : Nat} (J : zJ3 γ M U A Y th o d) {i : Int} (hi : 0 ≤ i ∧ i + 6 ≤ N) (hkn : k + 4 ≤ 601024 ∧ n + 24 ≤ 7293034) (next : ∀ M' Y' th', zJ3 γ M' U A Y' th' o d → zAW p l e room_1 s m args below meth c γ 9 Q M' (k + 4) (n + 24) 4249 [some (.ref b), some (.ref (U 0)), some (.ref (A 0)), some (.ref o), some (.ref d), some (.int (zi i)), none, none, none] []) : zAW p l e room_1 s m args below meth c γ 9 Q M k n 1941 [some (.ref b), some (.ref (U 0)), some (.ref (A 0)), some (.ref o), some (.ref d), some (.int (zi i)), none, none, none] [] := by
  obtain ⟨hc, hk, hm, hUA, ⟨f0, ho⟩, ⟨g0, hd⟩, hUo, hUd, hAo, hAd, hod⟩ := J
  obtain ⟨fs0, ob0⟩ := hc.ob
  refine z_aload_n C dL_law_1941 rfl ?_
  refine z_aload_n C dL_law_1942 rfl ?_
  refine z_iload C dL_law_1943 rfl ?_
  refine z_iconst C dL_law_1945 ?_
  refine z_iaddZ C dL_law_1946 ?_
  refine z_xld C hXs hbs (by omega) (by omega) dL_law_1947 ?_
  refine z_aload_n C dL_law_1948 rfl ?_
  refine z_iload C dL_law_1949 rfl ?_
  refine z_iconst C dL_law_1951 ?_
  refine z_iaddZ C dL_law_1952 ?_
  refine z_xld C hXs hbs (by omega) (by omega) dL_law_1953 ?_
  refine z_aload_n C dL_law_1954 rfl ?_
  refine z_iload C dL_law_1955 rfl ?_
  refine z_iconst C dL_law_1957 ?_
  refine z_iaddZ C dL_law_1958 ?_
  refine z_xld C hXs hbs (by omega) (by omega) dL_law_1959 ?_
  refine z_aload_n C dL_law_1960 rfl ?_
  refine z_iload C dL_law_1961 rfl ?_
  refine z_iconst C dL_law_1963 ?_
  refine z_iaddZ C dL_law_1964 ?_
  refine z_xld C hXs hbs (by omega) (by omega) dL_law_1965 ?_
  refine z_aload_n C dL_law_1966 rfl ?_
  refine z_callSH C dL_law_1967 lkw_numerator mwh_L_numerator mst_L_numerator (w_numerator hc hk ho hUo (hys _) (hys _) (hys _) (hys _)) rfl (by first | decide | exact Nat.le_of_ble_eq_true rfl) ⟨by decide, by decide, by show _ ≤ 601024; omega, by show _ ≤ 7293034; omega⟩ (fun _ _ h => False.elim h) (fun v M' hp => ?_)
  obtain ⟨rfl, hr, f1, hc1, f2, hx1, hv⟩ := hp
  have hm1 := hm.frm (zUA_f f1 hUA hAo)
  obtain ⟨fs1, ob1⟩ := hm1.ob
  have ho1 := hx1
  have hd1 := f1.at (fun w => (List.mem_cons.mp w).elim (fun w => hod w.symm) (zU_no hUd)) hd
  refine z_istore C dL_law_1970 (by decide) ?_
  refine z_aload_n C dL_law_1972 rfl ?_
  refine z_aload_n C dL_law_1973 rfl ?_
  refine z_iload C dL_law_1974 rfl ?_
  refine z_iconst C dL_law_1976 ?_
  refine z_iaddZ C dL_law_1977 ?_
  refine z_xld C hXs hbs (by omega) (by omega) dL_law_1978 ?_
  refine z_aload_n C dL_law_1979 rfl ?_
  refine z_iload C dL_law_1980 rfl ?_
  refine z_iconst C dL_law_1982 ?_
  refine z_iaddZ C dL_law_1983 ?_
  refine z_xld C hXs hbs (by omega) (by omega) dL_law_1984 ?_
  refine z_aload_n C dL_law_1985 rfl ?_
  refine z_iload C dL_law_1986 rfl ?_
  refine z_iconst C dL_law_1988 ?_
  refine z_iaddZ C dL_law_1989 ?_
  refine z_xld C hXs hbs (by omega) (by omega) dL_law_1990 ?_
  refine z_aload_n C dL_law_1991 rfl ?_
  refine z_iload C dL_law_1992 rfl ?_
  refine z_iconst C dL_law_1994 ?_
  refine z_iaddZ C dL_law_1995 ?_
  refine z_xld C hXs hbs (by omega) (by omega) dL_law_1996 ?_
  refine z_callV C dL_law_1997 lk_L_295 mw_X9_numerator mi_X9_numerator ms_X9_numerator rfl ob1 (m_numerator hm1 hk.1 (hys _) (hys _) (hys _) (hys _)) rfl (by first | decide | exact Nat.le_of_ble_eq_true rfl) ⟨by decide, by decide, by show _ ≤ 601024; omega, by show _ ≤ 7293034; omega⟩ (fun _ _ h => False.elim h) (fun v M' hp => ?_)
  obtain ⟨b1, rfl, fA, hm2, hbv⟩ := hp
  have fB : zFr _ _ ((List.range 15).map A) := fA
  have ho2 := fB.at (mAll.no hAo) ho1
  have hd2 := fB.at (mAll.no hAd) hd1
  have J2 : zJ3 γ _ U A _ _ o d := ⟨hc1.frm fB (fun i hi => mAll.no (fun j hj w => hUA i j hi hj w.symm)), hk, hm2, hUA, ⟨_, ho2⟩, ⟨_, hd2⟩, hUo, hUd, hAo, hAd, hod⟩
  obtain ⟨fs2, ob2⟩ := hm2.ob
  refine z_lstore C dL_law_2000 (by decide) ?_
  refine z_aload_n C dL_law_2002 rfl ?_
  refine z_callV C dL_law_2003 lk_L_202 mw_X9_thrown mi_X9_thrown ms_X9_thrown rfl ob2 (m_thrown hm2) rfl (by first | decide | exact Nat.le_of_ble_eq_true rfl) ⟨by decide, by decide, by show _ ≤ 601024; omega, by show _ ≤ 7293034; omega⟩ (fun _ _ h => False.elim h) (fun v M' hp => ?_)
  obtain ⟨rfl, rfl⟩ := hp
  refine z_iload C dL_law_2006 rfl ?_
  refine z_icmp_eq (tgt := 2013) C dL_law_2008 (by decide) (fun h2008 => ?_) (fun h2008 => ?_)
  · refine z_iload C dL_law_2013 rfl ?_
    refine z_if_ne (tgt := 2029) C dL_law_2015 (by decide) (fun h2015 => ?_) (fun h2015 => ?_)
    · refine z_goto (tgt := 4249) C dL_law_2029 (by decide) ?_
      exact z_fg (by omega) (by omega) ⟨_, _, _, rfl⟩ (next _ _ _ J2)
    · have z0 := zq_0 hr h2015
      refine z_aload_n C dL_law_2018 rfl ?_
      refine z_iconst C dL_law_2019 ?_
      refine z_aldJ (i := 0) C dL_law_2020 ho2 ⟨by decide, by decide⟩ (by decide) ?_
      refine z_lload C dL_law_2021 rfl ?_
      refine z_lcmp C dL_law_2023 ?_
      refine z_if_eq (tgt := 2029) C dL_law_2024 (by decide) (fun h2024 => ?_) (fun h2024 => ?_)
      · refine z_goto (tgt := 4249) C dL_law_2029 (by decide) ?_
        exact z_fg (by omega) (by omega) ⟨_, _, _, rfl⟩ (next _ _ _ J2)
      · exact absurd (by show lg_cmp (f2 0) (zl b1) = 0; rw [hv z0, hbv z0]; exact lg_same _) h2024
  · exact absurd rfl h2008
end CSe

