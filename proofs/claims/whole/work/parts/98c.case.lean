/-! the law's cases: readerNameByte, escapeMethod, documentCount, documentLength, documentSymbol, documentYear, countOrder0 -/
section CSc
variable {p : Program} {l : Launch} {e : Env} {s : State} {m : MethodId} {args : Array Value} {below : List Frame} {meth : Method} {c : Code} {γ : zG} {Q : State → Prop} {M : zM} {k n : Nat} {xt : List ExceptionTableEntry}
set_option maxHeartbeats 4000000 in
set_option maxRecDepth 100000 in
theorem cs_readerNameByte (C : zC p l s m args meth c γ cL_law 9 (some .boolean) RL xt) {b N : Nat} {ys : Nat → Int} (hXs : va_X b N (fun j => zi (ys j)) s s.heap) (hbs : b < γ.2.1.size) (hN : N ≤ 3072) (hys : ∀ j, zR (ys j)) {U A : Nat → Nat} {Y : zSys} {th : Int} {o d : Nat} (J : zJ3 γ M U A Y th o d) {i : Int} (hi : 0 ≤ i ∧ i + 6 ≤ N) (hkn : k + 4 ≤ 601024 ∧ n + 24 ≤ 7293034) (next : ∀ M' Y' th', zJ3 γ M' U A Y' th' o d → zAW p l e room_1 s m args below meth c γ 9 Q M' (k + 4) (n + 24) 4249 [some (.ref b), some (.ref (U 0)), some (.ref (A 0)), some (.ref o), some (.ref d), some (.int (zi i)), none, none, none] []) : zAW p l e room_1 s m args below meth c γ 9 Q M k n 564 [some (.ref b), some (.ref (U 0)), some (.ref (A 0)), some (.ref o), some (.ref d), some (.int (zi i)), none, none, none] [] := by
  obtain ⟨hc, hk, hm, hUA, ⟨f0, ho⟩, ⟨g0, hd⟩, hUo, hUd, hAo, hAd, hod⟩ := J
  obtain ⟨fs0, ob0⟩ := hc.ob
  refine z_aload_n C dL_law_564 rfl ?_
  refine z_aload_n C dL_law_565 rfl ?_
  refine z_iload C dL_law_566 rfl ?_
  refine z_iconst C dL_law_568 ?_
  refine z_iaddZ C dL_law_569 ?_
  refine z_xld C hXs hbs (by omega) (by omega) dL_law_570 ?_
  refine z_aload_n C dL_law_571 rfl ?_
  refine z_iload C dL_law_572 rfl ?_
  refine z_iconst C dL_law_574 ?_
  refine z_iaddZ C dL_law_575 ?_
  refine z_xld C hXs hbs (by omega) (by omega) dL_law_576 ?_
  refine z_aload_n C dL_law_577 rfl ?_
  refine z_callSH C dL_law_578 lkw_readerNameByte mwh_L_readerNameByte mst_L_readerNameByte (w_readerNameByte hc hk ho hUo (hys _) (hys _)) rfl (by first | decide | exact Nat.le_of_ble_eq_true rfl) ⟨by decide, by decide, by show _ ≤ 601024; omega, by show _ ≤ 7293034; omega⟩ (fun _ _ h => False.elim h) (fun v M' hp => ?_)
  obtain ⟨rfl, hr, f1, hc1, f2, hx1, hv⟩ := hp
  have hm1 := hm.frm (zUA_f f1 hUA hAo)
  obtain ⟨fs1, ob1⟩ := hm1.ob
  have ho1 := hx1
  have hd1 := f1.at (fun w => (List.mem_cons.mp w).elim (fun w => hod w.symm) (zU_no hUd)) hd
  refine z_istore C dL_law_581 (by decide) ?_
  refine z_aload_n C dL_law_583 rfl ?_
  refine z_aload_n C dL_law_584 rfl ?_
  refine z_iload C dL_law_585 rfl ?_
  refine z_iconst C dL_law_587 ?_
  refine z_iaddZ C dL_law_588 ?_
  refine z_xld C hXs hbs (by omega) (by omega) dL_law_589 ?_
  refine z_aload_n C dL_law_590 rfl ?_
  refine z_iload C dL_law_591 rfl ?_
  refine z_iconst C dL_law_593 ?_
  refine z_iaddZ C dL_law_594 ?_
  refine z_xld C hXs hbs (by omega) (by omega) dL_law_595 ?_
  refine z_callV C dL_law_596 lk_L_232 mw_X9_readerNameByte mi_X9_readerNameByte ms_X9_readerNameByte rfl ob1 (m_readerNameByte hm1 hk.1 (hys _) (hys _)) rfl (by first | decide | exact Nat.le_of_ble_eq_true rfl) ⟨by decide, by decide, by show _ ≤ 601024; omega, by show _ ≤ 7293034; omega⟩ (fun _ _ h => False.elim h) (fun v M' hp => ?_)
  obtain ⟨b1, rfl, fA, hm2, hbv⟩ := hp
  have fB : zFr _ _ ((List.range 15).map A) := fA
  have ho2 := fB.at (mAll.no hAo) ho1
  have hd2 := fB.at (mAll.no hAd) hd1
  have J2 : zJ3 γ _ U A _ _ o d := ⟨hc1.frm fB (fun i hi => mAll.no (fun j hj w => hUA i j hi hj w.symm)), hk, hm2, hUA, ⟨_, ho2⟩, ⟨_, hd2⟩, hUo, hUd, hAo, hAd, hod⟩
  obtain ⟨fs2, ob2⟩ := hm2.ob
  refine z_istore C dL_law_599 (by decide) ?_
  refine z_aload_n C dL_law_601 rfl ?_
  refine z_callV C dL_law_602 lk_L_202 mw_X9_thrown mi_X9_thrown ms_X9_thrown rfl ob2 (m_thrown hm2) rfl (by first | decide | exact Nat.le_of_ble_eq_true rfl) ⟨by decide, by decide, by show _ ≤ 601024; omega, by show _ ≤ 7293034; omega⟩ (fun _ _ h => False.elim h) (fun v M' hp => ?_)
  obtain ⟨rfl, rfl⟩ := hp
  refine z_iload C dL_law_605 rfl ?_
  refine z_icmp_eq (tgt := 612) C dL_law_607 (by decide) (fun h607 => ?_) (fun h607 => ?_)
  · refine z_iload C dL_law_612 rfl ?_
    refine z_if_ne (tgt := 629) C dL_law_614 (by decide) (fun h614 => ?_) (fun h614 => ?_)
    · refine z_goto (tgt := 4249) C dL_law_629 (by decide) ?_
      exact z_fg (by omega) (by omega) ⟨_, _, _, rfl⟩ (next _ _ _ J2)
    · have z0 := zq_0 hr h614
      refine z_aload_n C dL_law_617 rfl ?_
      refine z_iconst C dL_law_618 ?_
      refine z_aldJ (i := 0) C dL_law_619 ho2 ⟨by decide, by decide⟩ (by decide) ?_
      refine z_iload C dL_law_620 rfl ?_
      refine z_i2l C dL_law_622 ?_
      refine z_lcmp C dL_law_623 ?_
      refine z_if_eq (tgt := 629) C dL_law_624 (by decide) (fun h624 => ?_) (fun h624 => ?_)
      · refine z_goto (tgt := 4249) C dL_law_629 (by decide) ?_
        exact z_fg (by omega) (by omega) ⟨_, _, _, rfl⟩ (next _ _ _ J2)
      · exact absurd (by show lg_cmp (f2 0) (zi b1).toInt64 = 0; rw [hv z0, hbv z0]; exact lg_same _) h624
  · exact absurd rfl h607
set_option maxHeartbeats 4000000 in
set_option maxRecDepth 100000 in
theorem cs_escapeMethod (C : zC p l s m args meth c γ cL_law 9 (some .boolean) RL xt) {b N : Nat} {ys : Nat → Int} (hXs : va_X b N (fun j => zi (ys j)) s s.heap) (hbs : b < γ.2.1.size) (hN : N ≤ 3072) (hys : ∀ j, zR (ys j)) {U A : Nat → Nat} {Y : zSys} {th : Int} {o d : Nat} (J : zJ3 γ M U A Y th o d) {i : Int} (hi : 0 ≤ i ∧ i + 6 ≤ N) (hkn : k + 4 ≤ 601024 ∧ n + 24 ≤ 7293034) (next : ∀ M' Y' th', zJ3 γ M' U A Y' th' o d → zAW p l e room_1 s m args below meth c γ 9 Q M' (k + 4) (n + 24) 4249 [some (.ref b), some (.ref (U 0)), some (.ref (A 0)), some (.ref o), some (.ref d), some (.int (zi i)), none, none, none] []) : zAW p l e room_1 s m args below meth c γ 9 Q M k n 632 [some (.ref b), some (.ref (U 0)), some (.ref (A 0)), some (.ref o), some (.ref d), some (.int (zi i)), none, none, none] [] := by
  obtain ⟨hc, hk, hm, hUA, ⟨f0, ho⟩, ⟨g0, hd⟩, hUo, hUd, hAo, hAd, hod⟩ := J
  obtain ⟨fs0, ob0⟩ := hc.ob
  refine z_aload_n C dL_law_632 rfl ?_
  refine z_aload_n C dL_law_633 rfl ?_
  refine z_iload C dL_law_634 rfl ?_
  refine z_iconst C dL_law_636 ?_
  refine z_iaddZ C dL_law_637 ?_
  refine z_xld C hXs hbs (by omega) (by omega) dL_law_638 ?_
  refine z_aload_n C dL_law_639 rfl ?_
  refine z_callSH C dL_law_640 lkw_escapeMethod mwh_L_escapeMethod mst_L_escapeMethod (w_escapeMethod hc hk ho hUo (hys _)) rfl (by first | decide | exact Nat.le_of_ble_eq_true rfl) ⟨by decide, by decide, by show _ ≤ 601024; omega, by show _ ≤ 7293034; omega⟩ (fun _ _ h => False.elim h) (fun v M' hp => ?_)
  obtain ⟨rfl, hr, f1, hc1, f2, hx1, hv⟩ := hp
  have hm1 := hm.frm (zUA_f f1 hUA hAo)
  obtain ⟨fs1, ob1⟩ := hm1.ob
  have ho1 := hx1
  have hd1 := f1.at (fun w => (List.mem_cons.mp w).elim (fun w => hod w.symm) (zU_no hUd)) hd
  refine z_istore C dL_law_643 (by decide) ?_
  refine z_aload_n C dL_law_645 rfl ?_
  refine z_aload_n C dL_law_646 rfl ?_
  refine z_iload C dL_law_647 rfl ?_
  refine z_iconst C dL_law_649 ?_
  refine z_iaddZ C dL_law_650 ?_
  refine z_xld C hXs hbs (by omega) (by omega) dL_law_651 ?_
  refine z_callV C dL_law_652 lk_L_235 mw_X9_escapeMethod mi_X9_escapeMethod ms_X9_escapeMethod rfl ob1 (m_escapeMethod hm1 hk.1 (hys _)) rfl (by first | decide | exact Nat.le_of_ble_eq_true rfl) ⟨by decide, by decide, by show _ ≤ 601024; omega, by show _ ≤ 7293034; omega⟩ (fun _ _ h => False.elim h) (fun v M' hp => ?_)
  obtain ⟨b1, rfl, fA, hm2, hbv⟩ := hp
  have fB : zFr _ _ ((List.range 15).map A) := fA
  have ho2 := fB.at (mAll.no hAo) ho1
  have hd2 := fB.at (mAll.no hAd) hd1
  have J2 : zJ3 γ _ U A _ _ o d := ⟨hc1.frm fB (fun i hi => mAll.no (fun j hj w => hUA i j hi hj w.symm)), hk, hm2, hUA, ⟨_, ho2⟩, ⟨_, hd2⟩, hUo, hUd, hAo, hAd, hod⟩
  obtain ⟨fs2, ob2⟩ := hm2.ob
  refine z_istore C dL_law_655 (by decide) ?_
  refine z_aload_n C dL_law_657 rfl ?_
  refine z_callV C dL_law_658 lk_L_202 mw_X9_thrown mi_X9_thrown ms_X9_thrown rfl ob2 (m_thrown hm2) rfl (by first | decide | exact Nat.le_of_ble_eq_true rfl) ⟨by decide, by decide, by show _ ≤ 601024; omega, by show _ ≤ 7293034; omega⟩ (fun _ _ h => False.elim h) (fun v M' hp => ?_)
  obtain ⟨rfl, rfl⟩ := hp
  refine z_iload C dL_law_661 rfl ?_
  refine z_icmp_eq (tgt := 668) C dL_law_663 (by decide) (fun h663 => ?_) (fun h663 => ?_)
  · refine z_iload C dL_law_668 rfl ?_
    refine z_if_ne (tgt := 685) C dL_law_670 (by decide) (fun h670 => ?_) (fun h670 => ?_)
    · refine z_goto (tgt := 4249) C dL_law_685 (by decide) ?_
      exact z_fg (by omega) (by omega) ⟨_, _, _, rfl⟩ (next _ _ _ J2)
    · have z0 := zq_0 hr h670
      refine z_aload_n C dL_law_673 rfl ?_
      refine z_iconst C dL_law_674 ?_
      refine z_aldJ (i := 0) C dL_law_675 ho2 ⟨by decide, by decide⟩ (by decide) ?_
      refine z_iload C dL_law_676 rfl ?_
      refine z_i2l C dL_law_678 ?_
      refine z_lcmp C dL_law_679 ?_
      refine z_if_eq (tgt := 685) C dL_law_680 (by decide) (fun h680 => ?_) (fun h680 => ?_)
      · refine z_goto (tgt := 4249) C dL_law_685 (by decide) ?_
        exact z_fg (by omega) (by omega) ⟨_, _, _, rfl⟩ (next _ _ _ J2)
      · exact absurd (by show lg_cmp (f2 0) (zi b1).toInt64 = 0; rw [hv z0, hbv z0]; exact lg_same _) h680
  · exact absurd rfl h663
set_option maxHeartbeats 4000000 in
set_option maxRecDepth 100000 in
theorem cs_documentCount (C : zC p l s m args meth c γ cL_law 9 (some .boolean) RL xt) {b N : Nat} {ys : Nat → Int} (hXs : va_X b N (fun j => zi (ys j)) s s.heap) (hbs : b < γ.2.1.size) (hN : N ≤ 3072) (hys : ∀ j, zR (ys j)) {U A : Nat → Nat} {Y : zSys} {th : Int} {o d : Nat} (J : zJ3 γ M U A Y th o d) {i : Int} (hi : 0 ≤ i ∧ i + 6 ≤ N) (hkn : k + 4 ≤ 601024 ∧ n + 24 ≤ 7293034) (next : ∀ M' Y' th', zJ3 γ M' U A Y' th' o d → zAW p l e room_1 s m args below meth c γ 9 Q M' (k + 4) (n + 24) 4249 [some (.ref b), some (.ref (U 0)), some (.ref (A 0)), some (.ref o), some (.ref d), some (.int (zi i)), none, none, none] []) : zAW p l e room_1 s m args below meth c γ 9 Q M k n 688 [some (.ref b), some (.ref (U 0)), some (.ref (A 0)), some (.ref o), some (.ref d), some (.int (zi i)), none, none, none] [] := by
  obtain ⟨hc, hk, hm, hUA, ⟨f0, ho⟩, ⟨g0, hd⟩, hUo, hUd, hAo, hAd, hod⟩ := J
  obtain ⟨fs0, ob0⟩ := hc.ob
  refine z_aload_n C dL_law_688 rfl ?_
  refine z_callV C dL_law_689 lk_L_236 mw_X8_documentCount mi_X8_documentCount ms_X8_documentCount rfl ob0 (k_X8_documentCount hc hk) rfl (by first | decide | exact Nat.le_of_ble_eq_true rfl) ⟨by decide, by decide, by show _ ≤ 601024; omega, by show _ ≤ 7293034; omega⟩ (fun _ _ h => False.elim h) (fun v M' hp => ?_)
  obtain ⟨hok, h0, rfl⟩ := hp
  have hm1 := hm.frm (zUA_f (fun b hb => hok.1 b (fun w => hb (List.mem_cons_of_mem _ w))) hUA hAo)
  obtain ⟨fs1, ob1⟩ := hm1.ob
  have hc1 := hok.2
  have ho1 := hok.1.at (zU_no hUo) ho
  have hd1 := hok.1.at (zU_no hUd) hd
  refine z_aload_n C dL_law_692 rfl ?_
  refine z_callV C dL_law_693 lk_L_239 mw_X9_documentCount mi_X9_documentCount ms_X9_documentCount rfl ob1 (m_documentCount hm1 hk.1) rfl (by first | decide | exact Nat.le_of_ble_eq_true rfl) ⟨by decide, by decide, by show _ ≤ 601024; omega, by show _ ≤ 7293034; omega⟩ (fun _ _ h => False.elim h) (fun v M' hp => ?_)
  obtain ⟨b1, rfl, fA, hm2, hbv⟩ := hp
  have fB : zFr _ _ ((List.range 15).map A) := fA
  have J2 : zJ3 γ _ U A Y _ o d := ⟨hc1.frm fB (fun i hi => mAll.no (fun j hj w => hUA i j hi hj w.symm)), hk, hm2, hUA, ⟨_, fB.at (mAll.no hAo) ho1⟩, ⟨_, fB.at (mAll.no hAd) hd1⟩, hUo, hUd, hAo, hAd, hod⟩
  refine z_icmp_eq (tgt := 4249) C dL_law_696 (by decide) (fun h696 => ?_) (fun h696 => ?_)
  · exact z_fg (by omega) (by omega) ⟨_, _, _, rfl⟩ (next _ _ _ J2)
  · exact absurd (hbv rfl).symm h696
set_option maxHeartbeats 4000000 in
set_option maxRecDepth 100000 in
theorem cs_documentLength (C : zC p l s m args meth c γ cL_law 9 (some .boolean) RL xt) {b N : Nat} {ys : Nat → Int} (hXs : va_X b N (fun j => zi (ys j)) s s.heap) (hbs : b < γ.2.1.size) (hN : N ≤ 3072) (hys : ∀ j, zR (ys j)) {U A : Nat → Nat} {Y : zSys} {th : Int} {o d : Nat} (J : zJ3 γ M U A Y th o d) {i : Int} (hi : 0 ≤ i ∧ i + 6 ≤ N) (hkn : k + 4 ≤ 601024 ∧ n + 24 ≤ 7293034) (next : ∀ M' Y' th', zJ3 γ M' U A Y' th' o d → zAW p l e room_1 s m args below meth c γ 9 Q M' (k + 4) (n + 24) 4249 [some (.ref b), some (.ref (U 0)), some (.ref (A 0)), some (.ref o), some (.ref d), some (.int (zi i)), none, none, none] []) : zAW p l e room_1 s m args below meth c γ 9 Q M k n 701 [some (.ref b), some (.ref (U 0)), some (.ref (A 0)), some (.ref o), some (.ref d), some (.int (zi i)), none, none, none] [] := by
  obtain ⟨hc, hk, hm, hUA, ⟨f0, ho⟩, ⟨g0, hd⟩, hUo, hUd, hAo, hAd, hod⟩ := J
  obtain ⟨fs0, ob0⟩ := hc.ob
  refine z_aload_n C dL_law_701 rfl ?_
  refine z_aload_n C dL_law_702 rfl ?_
  refine z_iload C dL_law_703 rfl ?_
  refine z_iconst C dL_law_705 ?_
  refine z_iaddZ C dL_law_706 ?_
  refine z_xld C hXs hbs (by omega) (by omega) dL_law_707 ?_
  refine z_aload_n C dL_law_708 rfl ?_
  refine z_callSH C dL_law_709 lkw_documentLength mwh_L_documentLength mst_L_documentLength (w_documentLength hc hk ho hUo (hys _)) rfl (by first | decide | exact Nat.le_of_ble_eq_true rfl) ⟨by decide, by decide, by show _ ≤ 601024; omega, by show _ ≤ 7293034; omega⟩ (fun _ _ h => False.elim h) (fun v M' hp => ?_)
  obtain ⟨rfl, hr, f1, hc1, f2, hx1, hv⟩ := hp
  have hm1 := hm.frm (zUA_f f1 hUA hAo)
  obtain ⟨fs1, ob1⟩ := hm1.ob
  have ho1 := hx1
  have hd1 := f1.at (fun w => (List.mem_cons.mp w).elim (fun w => hod w.symm) (zU_no hUd)) hd
  refine z_istore C dL_law_712 (by decide) ?_
  refine z_aload_n C dL_law_714 rfl ?_
  refine z_aload_n C dL_law_715 rfl ?_
  refine z_iload C dL_law_716 rfl ?_
  refine z_iconst C dL_law_718 ?_
  refine z_iaddZ C dL_law_719 ?_
  refine z_xld C hXs hbs (by omega) (by omega) dL_law_720 ?_
  refine z_callV C dL_law_721 lk_L_242 mw_X9_documentLength mi_X9_documentLength ms_X9_documentLength rfl ob1 (m_documentLength hm1 hk.1 (hys _)) rfl (by first | decide | exact Nat.le_of_ble_eq_true rfl) ⟨by decide, by decide, by show _ ≤ 601024; omega, by show _ ≤ 7293034; omega⟩ (fun _ _ h => False.elim h) (fun v M' hp => ?_)
  obtain ⟨b1, rfl, fA, hm2, hbv⟩ := hp
  have fB : zFr _ _ ((List.range 15).map A) := fA
  have ho2 := fB.at (mAll.no hAo) ho1
  have hd2 := fB.at (mAll.no hAd) hd1
  have J2 : zJ3 γ _ U A _ _ o d := ⟨hc1.frm fB (fun i hi => mAll.no (fun j hj w => hUA i j hi hj w.symm)), hk, hm2, hUA, ⟨_, ho2⟩, ⟨_, hd2⟩, hUo, hUd, hAo, hAd, hod⟩
  obtain ⟨fs2, ob2⟩ := hm2.ob
  refine z_istore C dL_law_724 (by decide) ?_
  refine z_aload_n C dL_law_726 rfl ?_
  refine z_callV C dL_law_727 lk_L_202 mw_X9_thrown mi_X9_thrown ms_X9_thrown rfl ob2 (m_thrown hm2) rfl (by first | decide | exact Nat.le_of_ble_eq_true rfl) ⟨by decide, by decide, by show _ ≤ 601024; omega, by show _ ≤ 7293034; omega⟩ (fun _ _ h => False.elim h) (fun v M' hp => ?_)
  obtain ⟨rfl, rfl⟩ := hp
  refine z_iload C dL_law_730 rfl ?_
  refine z_icmp_eq (tgt := 737) C dL_law_732 (by decide) (fun h732 => ?_) (fun h732 => ?_)
  · refine z_iload C dL_law_737 rfl ?_
    refine z_if_ne (tgt := 754) C dL_law_739 (by decide) (fun h739 => ?_) (fun h739 => ?_)
    · refine z_goto (tgt := 4249) C dL_law_754 (by decide) ?_
      exact z_fg (by omega) (by omega) ⟨_, _, _, rfl⟩ (next _ _ _ J2)
    · have z0 := zq_0 hr h739
      refine z_aload_n C dL_law_742 rfl ?_
      refine z_iconst C dL_law_743 ?_
      refine z_aldJ (i := 0) C dL_law_744 ho2 ⟨by decide, by decide⟩ (by decide) ?_
      refine z_iload C dL_law_745 rfl ?_
      refine z_i2l C dL_law_747 ?_
      refine z_lcmp C dL_law_748 ?_
      refine z_if_eq (tgt := 754) C dL_law_749 (by decide) (fun h749 => ?_) (fun h749 => ?_)
      · refine z_goto (tgt := 4249) C dL_law_754 (by decide) ?_
        exact z_fg (by omega) (by omega) ⟨_, _, _, rfl⟩ (next _ _ _ J2)
      · exact absurd (by show lg_cmp (f2 0) (zi b1).toInt64 = 0; rw [hv z0, hbv z0]; exact lg_same _) h749
  · exact absurd rfl h732
set_option maxHeartbeats 4000000 in
set_option maxRecDepth 100000 in
theorem cs_documentSymbol (C : zC p l s m args meth c γ cL_law 9 (some .boolean) RL xt) {b N : Nat} {ys : Nat → Int} (hXs : va_X b N (fun j => zi (ys j)) s s.heap) (hbs : b < γ.2.1.size) (hN : N ≤ 3072) (hys : ∀ j, zR (ys j)) {U A : Nat → Nat} {Y : zSys} {th : Int} {o d : Nat} (J : zJ3 γ M U A Y th o d) {i : Int} (hi : 0 ≤ i ∧ i + 6 ≤ N) (hkn : k + 4 ≤ 601024 ∧ n + 24 ≤ 7293034) (next : ∀ M' Y' th', zJ3 γ M' U A Y' th' o d → zAW p l e room_1 s m args below meth c γ 9 Q M' (k + 4) (n + 24) 4249 [some (.ref b), some (.ref (U 0)), some (.ref (A 0)), some (.ref o), some (.ref d), some (.int (zi i)), none, none, none] []) : zAW p l e room_1 s m args below meth c γ 9 Q M k n 757 [some (.ref b), some (.ref (U 0)), some (.ref (A 0)), some (.ref o), some (.ref d), some (.int (zi i)), none, none, none] [] := by
  obtain ⟨hc, hk, hm, hUA, ⟨f0, ho⟩, ⟨g0, hd⟩, hUo, hUd, hAo, hAd, hod⟩ := J
  obtain ⟨fs0, ob0⟩ := hc.ob
  refine z_aload_n C dL_law_757 rfl ?_
  refine z_aload_n C dL_law_758 rfl ?_
  refine z_iload C dL_law_759 rfl ?_
  refine z_iconst C dL_law_761 ?_
  refine z_iaddZ C dL_law_762 ?_
  refine z_xld C hXs hbs (by omega) (by omega) dL_law_763 ?_
  refine z_aload_n C dL_law_764 rfl ?_
  refine z_iload C dL_law_765 rfl ?_
  refine z_iconst C dL_law_767 ?_
  refine z_iaddZ C dL_law_768 ?_
  refine z_xld C hXs hbs (by omega) (by omega) dL_law_769 ?_
  refine z_aload_n C dL_law_770 rfl ?_
  refine z_callSH C dL_law_771 lkw_documentSymbol mwh_L_documentSymbol mst_L_documentSymbol (w_documentSymbol hc hk ho hUo (hys _) (hys _)) rfl (by first | decide | exact Nat.le_of_ble_eq_true rfl) ⟨by decide, by decide, by show _ ≤ 601024; omega, by show _ ≤ 7293034; omega⟩ (fun _ _ h => False.elim h) (fun v M' hp => ?_)
  obtain ⟨rfl, hr, f1, hc1, f2, hx1, hv⟩ := hp
  have hm1 := hm.frm (zUA_f f1 hUA hAo)
  obtain ⟨fs1, ob1⟩ := hm1.ob
  have ho1 := hx1
  have hd1 := f1.at (fun w => (List.mem_cons.mp w).elim (fun w => hod w.symm) (zU_no hUd)) hd
  refine z_istore C dL_law_774 (by decide) ?_
  refine z_aload_n C dL_law_776 rfl ?_
  refine z_aload_n C dL_law_777 rfl ?_
  refine z_iload C dL_law_778 rfl ?_
  refine z_iconst C dL_law_780 ?_
  refine z_iaddZ C dL_law_781 ?_
  refine z_xld C hXs hbs (by omega) (by omega) dL_law_782 ?_
  refine z_aload_n C dL_law_783 rfl ?_
  refine z_iload C dL_law_784 rfl ?_
  refine z_iconst C dL_law_786 ?_
  refine z_iaddZ C dL_law_787 ?_
  refine z_xld C hXs hbs (by omega) (by omega) dL_law_788 ?_
  refine z_callV C dL_law_789 lk_L_245 mw_X9_documentSymbol mi_X9_documentSymbol ms_X9_documentSymbol rfl ob1 (m_documentSymbol hm1 hk.1 (hys _) (hys _)) rfl (by first | decide | exact Nat.le_of_ble_eq_true rfl) ⟨by decide, by decide, by show _ ≤ 601024; omega, by show _ ≤ 7293034; omega⟩ (fun _ _ h => False.elim h) (fun v M' hp => ?_)
  obtain ⟨b1, rfl, fA, hm2, hbv⟩ := hp
  have fB : zFr _ _ ((List.range 15).map A) := fA
  have ho2 := fB.at (mAll.no hAo) ho1
  have hd2 := fB.at (mAll.no hAd) hd1
  have J2 : zJ3 γ _ U A _ _ o d := ⟨hc1.frm fB (fun i hi => mAll.no (fun j hj w => hUA i j hi hj w.symm)), hk, hm2, hUA, ⟨_, ho2⟩, ⟨_, hd2⟩, hUo, hUd, hAo, hAd, hod⟩
  obtain ⟨fs2, ob2⟩ := hm2.ob
  refine z_istore C dL_law_792 (by decide) ?_
  refine z_aload_n C dL_law_794 rfl ?_
  refine z_callV C dL_law_795 lk_L_202 mw_X9_thrown mi_X9_thrown ms_X9_thrown rfl ob2 (m_thrown hm2) rfl (by first | decide | exact Nat.le_of_ble_eq_true rfl) ⟨by decide, by decide, by show _ ≤ 601024; omega, by show _ ≤ 7293034; omega⟩ (fun _ _ h => False.elim h) (fun v M' hp => ?_)
  obtain ⟨rfl, rfl⟩ := hp
  refine z_iload C dL_law_798 rfl ?_
  refine z_icmp_eq (tgt := 805) C dL_law_800 (by decide) (fun h800 => ?_) (fun h800 => ?_)
  · refine z_iload C dL_law_805 rfl ?_
    refine z_if_ne (tgt := 822) C dL_law_807 (by decide) (fun h807 => ?_) (fun h807 => ?_)
    · refine z_goto (tgt := 4249) C dL_law_822 (by decide) ?_
      exact z_fg (by omega) (by omega) ⟨_, _, _, rfl⟩ (next _ _ _ J2)
    · have z0 := zq_0 hr h807
      refine z_aload_n C dL_law_810 rfl ?_
      refine z_iconst C dL_law_811 ?_
      refine z_aldJ (i := 0) C dL_law_812 ho2 ⟨by decide, by decide⟩ (by decide) ?_
      refine z_iload C dL_law_813 rfl ?_
      refine z_i2l C dL_law_815 ?_
      refine z_lcmp C dL_law_816 ?_
      refine z_if_eq (tgt := 822) C dL_law_817 (by decide) (fun h817 => ?_) (fun h817 => ?_)
      · refine z_goto (tgt := 4249) C dL_law_822 (by decide) ?_
        exact z_fg (by omega) (by omega) ⟨_, _, _, rfl⟩ (next _ _ _ J2)
      · exact absurd (by show lg_cmp (f2 0) (zi b1).toInt64 = 0; rw [hv z0, hbv z0]; exact lg_same _) h817
  · exact absurd rfl h800
set_option maxHeartbeats 4000000 in
set_option maxRecDepth 100000 in
theorem cs_documentYear (C : zC p l s m args meth c γ cL_law 9 (some .boolean) RL xt) {b N : Nat} {ys : Nat → Int} (hXs : va_X b N (fun j => zi (ys j)) s s.heap) (hbs : b < γ.2.1.size) (hN : N ≤ 3072) (hys : ∀ j, zR (ys j)) {U A : Nat → Nat} {Y : zSys} {th : Int} {o d : Nat} (J : zJ3 γ M U A Y th o d) {i : Int} (hi : 0 ≤ i ∧ i + 6 ≤ N) (hkn : k + 4 ≤ 601024 ∧ n + 24 ≤ 7293034) (next : ∀ M' Y' th', zJ3 γ M' U A Y' th' o d → zAW p l e room_1 s m args below meth c γ 9 Q M' (k + 4) (n + 24) 4249 [some (.ref b), some (.ref (U 0)), some (.ref (A 0)), some (.ref o), some (.ref d), some (.int (zi i)), none, none, none] []) : zAW p l e room_1 s m args below meth c γ 9 Q M k n 825 [some (.ref b), some (.ref (U 0)), some (.ref (A 0)), some (.ref o), some (.ref d), some (.int (zi i)), none, none, none] [] := by
  obtain ⟨hc, hk, hm, hUA, ⟨f0, ho⟩, ⟨g0, hd⟩, hUo, hUd, hAo, hAd, hod⟩ := J
  obtain ⟨fs0, ob0⟩ := hc.ob
  refine z_aload_n C dL_law_825 rfl ?_
  refine z_aload_n C dL_law_826 rfl ?_
  refine z_iload C dL_law_827 rfl ?_
  refine z_iconst C dL_law_829 ?_
  refine z_iaddZ C dL_law_830 ?_
  refine z_xld C hXs hbs (by omega) (by omega) dL_law_831 ?_
  refine z_aload_n C dL_law_832 rfl ?_
  refine z_callSH C dL_law_833 lkw_documentYear mwh_L_documentYear mst_L_documentYear (w_documentYear hc hk ho hUo (hys _)) rfl (by first | decide | exact Nat.le_of_ble_eq_true rfl) ⟨by decide, by decide, by show _ ≤ 601024; omega, by show _ ≤ 7293034; omega⟩ (fun _ _ h => False.elim h) (fun v M' hp => ?_)
  obtain ⟨rfl, hr, f1, hc1, f2, hx1, hv⟩ := hp
  have hm1 := hm.frm (zUA_f f1 hUA hAo)
  obtain ⟨fs1, ob1⟩ := hm1.ob
  have ho1 := hx1
  have hd1 := f1.at (fun w => (List.mem_cons.mp w).elim (fun w => hod w.symm) (zU_no hUd)) hd
  refine z_istore C dL_law_836 (by decide) ?_
  refine z_aload_n C dL_law_838 rfl ?_
  refine z_aload_n C dL_law_839 rfl ?_
  refine z_iload C dL_law_840 rfl ?_
  refine z_iconst C dL_law_842 ?_
  refine z_iaddZ C dL_law_843 ?_
  refine z_xld C hXs hbs (by omega) (by omega) dL_law_844 ?_
  refine z_callV C dL_law_845 lk_L_248 mw_X9_documentYear mi_X9_documentYear ms_X9_documentYear rfl ob1 (m_documentYear hm1 hk.1 (hys _)) rfl (by first | decide | exact Nat.le_of_ble_eq_true rfl) ⟨by decide, by decide, by show _ ≤ 601024; omega, by show _ ≤ 7293034; omega⟩ (fun _ _ h => False.elim h) (fun v M' hp => ?_)
  obtain ⟨b1, rfl, fA, hm2, hbv⟩ := hp
  have fB : zFr _ _ ((List.range 15).map A) := fA
  have ho2 := fB.at (mAll.no hAo) ho1
  have hd2 := fB.at (mAll.no hAd) hd1
  have J2 : zJ3 γ _ U A _ _ o d := ⟨hc1.frm fB (fun i hi => mAll.no (fun j hj w => hUA i j hi hj w.symm)), hk, hm2, hUA, ⟨_, ho2⟩, ⟨_, hd2⟩, hUo, hUd, hAo, hAd, hod⟩
  obtain ⟨fs2, ob2⟩ := hm2.ob
  refine z_istore C dL_law_848 (by decide) ?_
  refine z_aload_n C dL_law_850 rfl ?_
  refine z_callV C dL_law_851 lk_L_202 mw_X9_thrown mi_X9_thrown ms_X9_thrown rfl ob2 (m_thrown hm2) rfl (by first | decide | exact Nat.le_of_ble_eq_true rfl) ⟨by decide, by decide, by show _ ≤ 601024; omega, by show _ ≤ 7293034; omega⟩ (fun _ _ h => False.elim h) (fun v M' hp => ?_)
  obtain ⟨rfl, rfl⟩ := hp
  refine z_iload C dL_law_854 rfl ?_
  refine z_icmp_eq (tgt := 861) C dL_law_856 (by decide) (fun h856 => ?_) (fun h856 => ?_)
  · refine z_iload C dL_law_861 rfl ?_
    refine z_if_ne (tgt := 878) C dL_law_863 (by decide) (fun h863 => ?_) (fun h863 => ?_)
    · refine z_goto (tgt := 4249) C dL_law_878 (by decide) ?_
      exact z_fg (by omega) (by omega) ⟨_, _, _, rfl⟩ (next _ _ _ J2)
    · have z0 := zq_0 hr h863
      refine z_aload_n C dL_law_866 rfl ?_
      refine z_iconst C dL_law_867 ?_
      refine z_aldJ (i := 0) C dL_law_868 ho2 ⟨by decide, by decide⟩ (by decide) ?_
      refine z_iload C dL_law_869 rfl ?_
      refine z_i2l C dL_law_871 ?_
      refine z_lcmp C dL_law_872 ?_
      refine z_if_eq (tgt := 878) C dL_law_873 (by decide) (fun h873 => ?_) (fun h873 => ?_)
      · refine z_goto (tgt := 4249) C dL_law_878 (by decide) ?_
        exact z_fg (by omega) (by omega) ⟨_, _, _, rfl⟩ (next _ _ _ J2)
      · exact absurd (by show lg_cmp (f2 0) (zi b1).toInt64 = 0; rw [hv z0, hbv z0]; exact lg_same _) h873
  · exact absurd rfl h856
set_option maxHeartbeats 4000000 in
set_option maxRecDepth 100000 in
theorem cs_countOrder0 (C : zC p l s m args meth c γ cL_law 9 (some .boolean) RL xt) {b N : Nat} {ys : Nat → Int} (hXs : va_X b N (fun j => zi (ys j)) s s.heap) (hbs : b < γ.2.1.size) (hN : N ≤ 3072) (hys : ∀ j, zR (ys j)) {U A : Nat → Nat} {Y : zSys} {th : Int} {o d : Nat} (J : zJ3 γ M U A Y th o d) {i : Int} (hi : 0 ≤ i ∧ i + 6 ≤ N) (hkn : k + 4 ≤ 601024 ∧ n + 24 ≤ 7293034) (next : ∀ M' Y' th', zJ3 γ M' U A Y' th' o d → zAW p l e room_1 s m args below meth c γ 9 Q M' (k + 4) (n + 24) 4249 [some (.ref b), some (.ref (U 0)), some (.ref (A 0)), some (.ref o), some (.ref d), some (.int (zi i)), none, none, none] []) : zAW p l e room_1 s m args below meth c γ 9 Q M k n 881 [some (.ref b), some (.ref (U 0)), some (.ref (A 0)), some (.ref o), some (.ref d), some (.int (zi i)), none, none, none] [] := by
  obtain ⟨hc, hk, hm, hUA, ⟨f0, ho⟩, ⟨g0, hd⟩, hUo, hUd, hAo, hAd, hod⟩ := J
  obtain ⟨fs0, ob0⟩ := hc.ob
  refine z_aload_n C dL_law_881 rfl ?_
  refine z_aload_n C dL_law_882 rfl ?_
  refine z_iload C dL_law_883 rfl ?_
  refine z_iconst C dL_law_885 ?_
  refine z_iaddZ C dL_law_886 ?_
  refine z_xld C hXs hbs (by omega) (by omega) dL_law_887 ?_
  refine z_aload_n C dL_law_888 rfl ?_
  refine z_iload C dL_law_889 rfl ?_
  refine z_iconst C dL_law_891 ?_
  refine z_iaddZ C dL_law_892 ?_
  refine z_xld C hXs hbs (by omega) (by omega) dL_law_893 ?_
  refine z_aload_n C dL_law_894 rfl ?_
  refine z_callSH C dL_law_895 lkw_countOrder0 mwh_L_countOrder0 mst_L_countOrder0 (w_countOrder0 hc hk ho hUo (hys _) (hys _)) rfl (by first | decide | exact Nat.le_of_ble_eq_true rfl) ⟨by decide, by decide, by show _ ≤ 601024; omega, by show _ ≤ 7293034; omega⟩ (fun _ _ h => False.elim h) (fun v M' hp => ?_)
  obtain ⟨rfl, hr, f1, hc1, f2, hx1, hv⟩ := hp
  have hm1 := hm.frm (zUA_f f1 hUA hAo)
  obtain ⟨fs1, ob1⟩ := hm1.ob
  have ho1 := hx1
  have hd1 := f1.at (fun w => (List.mem_cons.mp w).elim (fun w => hod w.symm) (zU_no hUd)) hd
  refine z_istore C dL_law_898 (by decide) ?_
  refine z_aload_n C dL_law_900 rfl ?_
  refine z_aload_n C dL_law_901 rfl ?_
  refine z_iload C dL_law_902 rfl ?_
  refine z_iconst C dL_law_904 ?_
  refine z_iaddZ C dL_law_905 ?_
  refine z_xld C hXs hbs (by omega) (by omega) dL_law_906 ?_
  refine z_aload_n C dL_law_907 rfl ?_
  refine z_iload C dL_law_908 rfl ?_
  refine z_iconst C dL_law_910 ?_
  refine z_iaddZ C dL_law_911 ?_
  refine z_xld C hXs hbs (by omega) (by omega) dL_law_912 ?_
  refine z_callV C dL_law_913 lk_L_251 mw_X9_countOrder0 mi_X9_countOrder0 ms_X9_countOrder0 rfl ob1 (m_countOrder0 hm1 hk.1 (hys _) (hys _)) rfl (by first | decide | exact Nat.le_of_ble_eq_true rfl) ⟨by decide, by decide, by show _ ≤ 601024; omega, by show _ ≤ 7293034; omega⟩ (fun _ _ h => False.elim h) (fun v M' hp => ?_)
  obtain ⟨b1, rfl, fA, hm2, hbv⟩ := hp
  have fB : zFr _ _ ((List.range 15).map A) := fA
  have ho2 := fB.at (mAll.no hAo) ho1
  have hd2 := fB.at (mAll.no hAd) hd1
  have J2 : zJ3 γ _ U A _ _ o d := ⟨hc1.frm fB (fun i hi => mAll.no (fun j hj w => hUA i j hi hj w.symm)), hk, hm2, hUA, ⟨_, ho2⟩, ⟨_, hd2⟩, hUo, hUd, hAo, hAd, hod⟩
  obtain ⟨fs2, ob2⟩ := hm2.ob
  refine z_istore C dL_law_916 (by decide) ?_
  refine z_aload_n C dL_law_918 rfl ?_
  refine z_callV C dL_law_919 lk_L_202 mw_X9_thrown mi_X9_thrown ms_X9_thrown rfl ob2 (m_thrown hm2) rfl (by first | decide | exact Nat.le_of_ble_eq_true rfl) ⟨by decide, by decide, by show _ ≤ 601024; omega, by show _ ≤ 7293034; omega⟩ (fun _ _ h => False.elim h) (fun v M' hp => ?_)
  obtain ⟨rfl, rfl⟩ := hp
  refine z_iload C dL_law_922 rfl ?_
  refine z_icmp_eq (tgt := 929) C dL_law_924 (by decide) (fun h924 => ?_) (fun h924 => ?_)
  · refine z_iload C dL_law_929 rfl ?_
    refine z_if_ne (tgt := 946) C dL_law_931 (by decide) (fun h931 => ?_) (fun h931 => ?_)
    · refine z_goto (tgt := 4249) C dL_law_946 (by decide) ?_
      exact z_fg (by omega) (by omega) ⟨_, _, _, rfl⟩ (next _ _ _ J2)
    · have z0 := zq_0 hr h931
      refine z_aload_n C dL_law_934 rfl ?_
      refine z_iconst C dL_law_935 ?_
      refine z_aldJ (i := 0) C dL_law_936 ho2 ⟨by decide, by decide⟩ (by decide) ?_
      refine z_iload C dL_law_937 rfl ?_
      refine z_i2l C dL_law_939 ?_
      refine z_lcmp C dL_law_940 ?_
      refine z_if_eq (tgt := 946) C dL_law_941 (by decide) (fun h941 => ?_) (fun h941 => ?_)
      · refine z_goto (tgt := 4249) C dL_law_946 (by decide) ?_
        exact z_fg (by omega) (by omega) ⟨_, _, _, rfl⟩ (next _ _ _ J2)
      · exact absurd (by show lg_cmp (f2 0) (zi b1).toInt64 = 0; rw [hv z0, hbv z0]; exact lg_same _) h941
  · exact absurd rfl h924
end CSc

