/-! the law's cases: unseenSymbols, hardestPosition, totalBits, meanGuesses, hitShare, bestReader, hardestDocument -/
section CSg
variable {p : Program} {l : Launch} {e : Env} {s : State} {m : MethodId} {args : Array Value} {below : List Frame} {meth : Method} {c : Code} {γ : zG} {Q : State → Prop} {M : zM} {k n : Nat} {xt : List ExceptionTableEntry}
set_option maxHeartbeats 4000000 in
set_option maxRecDepth 100000 in
theorem cs_unseenSymbols (C : zC p l s m args meth c γ cL_law 9 (some .boolean) RL xt) {b N : Nat} {ys : Nat → Int} (hXs : va_X b N (fun j => zi (ys j)) s s.heap) (hbs : b < γ.2.1.size) (hN : N ≤ 3072) (hys : ∀ j, zR (ys j)) {U A : Nat → Nat} {Y : zSys} {th : Int} {o d : Nat} (J : zJ3 γ M U A Y th o d) {i : Int} (hi : 0 ≤ i ∧ i + 6 ≤ N) (hkn : k + 4 ≤ 601024 ∧ n + 24 ≤ 7293034) (next : ∀ M' Y' th', zJ3 γ M' U A Y' th' o d → zAW p l e room_1 s m args below meth c γ 9 Q M' (k + 4) (n + 24) 4249 [some (.ref b), some (.ref (U 0)), some (.ref (A 0)), some (.ref o), some (.ref d), some (.int (zi i)), none, none, none] []) : zAW p l e room_1 s m args below meth c γ 9 Q M k n 2612 [some (.ref b), some (.ref (U 0)), some (.ref (A 0)), some (.ref o), some (.ref d), some (.int (zi i)), none, none, none] [] := by
  obtain ⟨hc, hk, hm, hUA, ⟨f0, ho⟩, ⟨g0, hd⟩, hUo, hUd, hAo, hAd, hod⟩ := J
  obtain ⟨fs0, ob0⟩ := hc.ob
  refine z_aload_n C dL_law_2612 rfl ?_
  refine z_aload_n C dL_law_2613 rfl ?_
  refine z_iload C dL_law_2614 rfl ?_
  refine z_iconst C dL_law_2616 ?_
  refine z_iaddZ C dL_law_2617 ?_
  refine z_xld C hXs hbs (by omega) (by omega) dL_law_2618 ?_
  refine z_aload_n C dL_law_2619 rfl ?_
  refine z_iload C dL_law_2620 rfl ?_
  refine z_iconst C dL_law_2622 ?_
  refine z_iaddZ C dL_law_2623 ?_
  refine z_xld C hXs hbs (by omega) (by omega) dL_law_2624 ?_
  refine z_aload_n C dL_law_2625 rfl ?_
  refine z_callSH C dL_law_2626 lkw_unseenSymbols mwh_L_unseenSymbols mst_L_unseenSymbols (w_unseenSymbols hc hk ho hUo (hys _) (hys _)) rfl (by first | decide | exact Nat.le_of_ble_eq_true rfl) ⟨by decide, by decide, by show _ ≤ 601024; omega, by show _ ≤ 7293034; omega⟩ (fun _ _ h => False.elim h) (fun v M' hp => ?_)
  obtain ⟨rfl, hr, f1, hc1, f2, hx1, hv⟩ := hp
  have hm1 := hm.frm (zUA_f f1 hUA hAo)
  obtain ⟨fs1, ob1⟩ := hm1.ob
  have ho1 := hx1
  have hd1 := f1.at (fun w => (List.mem_cons.mp w).elim (fun w => hod w.symm) (zU_no hUd)) hd
  refine z_istore C dL_law_2629 (by decide) ?_
  refine z_aload_n C dL_law_2631 rfl ?_
  refine z_aload_n C dL_law_2632 rfl ?_
  refine z_iload C dL_law_2633 rfl ?_
  refine z_iconst C dL_law_2635 ?_
  refine z_iaddZ C dL_law_2636 ?_
  refine z_xld C hXs hbs (by omega) (by omega) dL_law_2637 ?_
  refine z_aload_n C dL_law_2638 rfl ?_
  refine z_iload C dL_law_2639 rfl ?_
  refine z_iconst C dL_law_2641 ?_
  refine z_iaddZ C dL_law_2642 ?_
  refine z_xld C hXs hbs (by omega) (by omega) dL_law_2643 ?_
  refine z_callV C dL_law_2644 lk_L_320 mw_X9_unseenSymbols mi_X9_unseenSymbols ms_X9_unseenSymbols rfl ob1 (m_unseenSymbols hm1 hk.1 (hys _) (hys _)) rfl (by first | decide | exact Nat.le_of_ble_eq_true rfl) ⟨by decide, by decide, by show _ ≤ 601024; omega, by show _ ≤ 7293034; omega⟩ (fun _ _ h => False.elim h) (fun v M' hp => ?_)
  obtain ⟨b1, rfl, fA, hm2, hbv⟩ := hp
  have fB : zFr _ _ ((List.range 15).map A) := fA
  have ho2 := fB.at (mAll.no hAo) ho1
  have hd2 := fB.at (mAll.no hAd) hd1
  have J2 : zJ3 γ _ U A _ _ o d := ⟨hc1.frm fB (fun i hi => mAll.no (fun j hj w => hUA i j hi hj w.symm)), hk, hm2, hUA, ⟨_, ho2⟩, ⟨_, hd2⟩, hUo, hUd, hAo, hAd, hod⟩
  obtain ⟨fs2, ob2⟩ := hm2.ob
  refine z_istore C dL_law_2647 (by decide) ?_
  refine z_aload_n C dL_law_2649 rfl ?_
  refine z_callV C dL_law_2650 lk_L_202 mw_X9_thrown mi_X9_thrown ms_X9_thrown rfl ob2 (m_thrown hm2) rfl (by first | decide | exact Nat.le_of_ble_eq_true rfl) ⟨by decide, by decide, by show _ ≤ 601024; omega, by show _ ≤ 7293034; omega⟩ (fun _ _ h => False.elim h) (fun v M' hp => ?_)
  obtain ⟨rfl, rfl⟩ := hp
  refine z_iload C dL_law_2653 rfl ?_
  refine z_icmp_eq (tgt := 2660) C dL_law_2655 (by decide) (fun h2655 => ?_) (fun h2655 => ?_)
  · refine z_iload C dL_law_2660 rfl ?_
    refine z_if_ne (tgt := 2677) C dL_law_2662 (by decide) (fun h2662 => ?_) (fun h2662 => ?_)
    · refine z_goto (tgt := 4249) C dL_law_2677 (by decide) ?_
      exact z_fg (by omega) (by omega) ⟨_, _, _, rfl⟩ (next _ _ _ J2)
    · have z0 := zq_0 hr h2662
      refine z_aload_n C dL_law_2665 rfl ?_
      refine z_iconst C dL_law_2666 ?_
      refine z_aldJ (i := 0) C dL_law_2667 ho2 ⟨by decide, by decide⟩ (by decide) ?_
      refine z_iload C dL_law_2668 rfl ?_
      refine z_i2l C dL_law_2670 ?_
      refine z_lcmp C dL_law_2671 ?_
      refine z_if_eq (tgt := 2677) C dL_law_2672 (by decide) (fun h2672 => ?_) (fun h2672 => ?_)
      · refine z_goto (tgt := 4249) C dL_law_2677 (by decide) ?_
        exact z_fg (by omega) (by omega) ⟨_, _, _, rfl⟩ (next _ _ _ J2)
      · exact absurd (by show lg_cmp (f2 0) (zi b1).toInt64 = 0; rw [hv z0, hbv z0]; exact lg_same _) h2672
  · exact absurd rfl h2655
set_option maxHeartbeats 4000000 in
set_option maxRecDepth 100000 in
theorem cs_hardestPosition (C : zC p l s m args meth c γ cL_law 9 (some .boolean) RL xt) {b N : Nat} {ys : Nat → Int} (hXs : va_X b N (fun j => zi (ys j)) s s.heap) (hbs : b < γ.2.1.size) (hN : N ≤ 3072) (hys : ∀ j, zR (ys j)) {U A : Nat → Nat} {Y : zSys} {th : Int} {o d : Nat} (J : zJ3 γ M U A Y th o d) {i : Int} (hi : 0 ≤ i ∧ i + 6 ≤ N) (hkn : k + 4 ≤ 601024 ∧ n + 24 ≤ 7293034) (next : ∀ M' Y' th', zJ3 γ M' U A Y' th' o d → zAW p l e room_1 s m args below meth c γ 9 Q M' (k + 4) (n + 24) 4249 [some (.ref b), some (.ref (U 0)), some (.ref (A 0)), some (.ref o), some (.ref d), some (.int (zi i)), none, none, none] []) : zAW p l e room_1 s m args below meth c γ 9 Q M k n 2680 [some (.ref b), some (.ref (U 0)), some (.ref (A 0)), some (.ref o), some (.ref d), some (.int (zi i)), none, none, none] [] := by
  obtain ⟨hc, hk, hm, hUA, ⟨f0, ho⟩, ⟨g0, hd⟩, hUo, hUd, hAo, hAd, hod⟩ := J
  obtain ⟨fs0, ob0⟩ := hc.ob
  refine z_aload_n C dL_law_2680 rfl ?_
  refine z_aload_n C dL_law_2681 rfl ?_
  refine z_iload C dL_law_2682 rfl ?_
  refine z_iconst C dL_law_2684 ?_
  refine z_iaddZ C dL_law_2685 ?_
  refine z_xld C hXs hbs (by omega) (by omega) dL_law_2686 ?_
  refine z_aload_n C dL_law_2687 rfl ?_
  refine z_iload C dL_law_2688 rfl ?_
  refine z_iconst C dL_law_2690 ?_
  refine z_iaddZ C dL_law_2691 ?_
  refine z_xld C hXs hbs (by omega) (by omega) dL_law_2692 ?_
  refine z_aload_n C dL_law_2693 rfl ?_
  refine z_callSH C dL_law_2694 lkw_hardestPosition mwh_L_hardestPosition mst_L_hardestPosition (w_hardestPosition hc hk ho hUo (hys _) (hys _)) rfl (by first | decide | exact Nat.le_of_ble_eq_true rfl) ⟨by decide, by decide, by show _ ≤ 601024; omega, by show _ ≤ 7293034; omega⟩ (fun _ _ h => False.elim h) (fun v M' hp => ?_)
  obtain ⟨rfl, hr, f1, hc1, f2, hx1, hv⟩ := hp
  have hm1 := hm.frm (zUA_f f1 hUA hAo)
  obtain ⟨fs1, ob1⟩ := hm1.ob
  have ho1 := hx1
  have hd1 := f1.at (fun w => (List.mem_cons.mp w).elim (fun w => hod w.symm) (zU_no hUd)) hd
  refine z_istore C dL_law_2697 (by decide) ?_
  refine z_aload_n C dL_law_2699 rfl ?_
  refine z_aload_n C dL_law_2700 rfl ?_
  refine z_iload C dL_law_2701 rfl ?_
  refine z_iconst C dL_law_2703 ?_
  refine z_iaddZ C dL_law_2704 ?_
  refine z_xld C hXs hbs (by omega) (by omega) dL_law_2705 ?_
  refine z_aload_n C dL_law_2706 rfl ?_
  refine z_iload C dL_law_2707 rfl ?_
  refine z_iconst C dL_law_2709 ?_
  refine z_iaddZ C dL_law_2710 ?_
  refine z_xld C hXs hbs (by omega) (by omega) dL_law_2711 ?_
  refine z_callV C dL_law_2712 lk_L_323 mw_X9_hardestPosition mi_X9_hardestPosition ms_X9_hardestPosition rfl ob1 (m_hardestPosition hm1 hk.1 (hys _) (hys _)) rfl (by first | decide | exact Nat.le_of_ble_eq_true rfl) ⟨by decide, by decide, by show _ ≤ 601024; omega, by show _ ≤ 7293034; omega⟩ (fun _ _ h => False.elim h) (fun v M' hp => ?_)
  obtain ⟨b1, rfl, fA, hm2, hbv⟩ := hp
  have fB : zFr _ _ ((List.range 15).map A) := fA
  have ho2 := fB.at (mAll.no hAo) ho1
  have hd2 := fB.at (mAll.no hAd) hd1
  have J2 : zJ3 γ _ U A _ _ o d := ⟨hc1.frm fB (fun i hi => mAll.no (fun j hj w => hUA i j hi hj w.symm)), hk, hm2, hUA, ⟨_, ho2⟩, ⟨_, hd2⟩, hUo, hUd, hAo, hAd, hod⟩
  obtain ⟨fs2, ob2⟩ := hm2.ob
  refine z_istore C dL_law_2715 (by decide) ?_
  refine z_aload_n C dL_law_2717 rfl ?_
  refine z_callV C dL_law_2718 lk_L_202 mw_X9_thrown mi_X9_thrown ms_X9_thrown rfl ob2 (m_thrown hm2) rfl (by first | decide | exact Nat.le_of_ble_eq_true rfl) ⟨by decide, by decide, by show _ ≤ 601024; omega, by show _ ≤ 7293034; omega⟩ (fun _ _ h => False.elim h) (fun v M' hp => ?_)
  obtain ⟨rfl, rfl⟩ := hp
  refine z_iload C dL_law_2721 rfl ?_
  refine z_icmp_eq (tgt := 2728) C dL_law_2723 (by decide) (fun h2723 => ?_) (fun h2723 => ?_)
  · refine z_iload C dL_law_2728 rfl ?_
    refine z_if_ne (tgt := 2745) C dL_law_2730 (by decide) (fun h2730 => ?_) (fun h2730 => ?_)
    · refine z_goto (tgt := 4249) C dL_law_2745 (by decide) ?_
      exact z_fg (by omega) (by omega) ⟨_, _, _, rfl⟩ (next _ _ _ J2)
    · have z0 := zq_0 hr h2730
      refine z_aload_n C dL_law_2733 rfl ?_
      refine z_iconst C dL_law_2734 ?_
      refine z_aldJ (i := 0) C dL_law_2735 ho2 ⟨by decide, by decide⟩ (by decide) ?_
      refine z_iload C dL_law_2736 rfl ?_
      refine z_i2l C dL_law_2738 ?_
      refine z_lcmp C dL_law_2739 ?_
      refine z_if_eq (tgt := 2745) C dL_law_2740 (by decide) (fun h2740 => ?_) (fun h2740 => ?_)
      · refine z_goto (tgt := 4249) C dL_law_2745 (by decide) ?_
        exact z_fg (by omega) (by omega) ⟨_, _, _, rfl⟩ (next _ _ _ J2)
      · exact absurd (by show lg_cmp (f2 0) (zi b1).toInt64 = 0; rw [hv z0, hbv z0]; exact lg_same _) h2740
  · exact absurd rfl h2723
set_option maxHeartbeats 4000000 in
set_option maxRecDepth 100000 in
theorem cs_totalBits (C : zC p l s m args meth c γ cL_law 9 (some .boolean) RL xt) {b N : Nat} {ys : Nat → Int} (hXs : va_X b N (fun j => zi (ys j)) s s.heap) (hbs : b < γ.2.1.size) (hN : N ≤ 3072) (hys : ∀ j, zR (ys j)) {U A : Nat → Nat} {Y : zSys} {th : Int} {o d : Nat} (J : zJ3 γ M U A Y th o d) {i : Int} (hi : 0 ≤ i ∧ i + 6 ≤ N) (hkn : k + 4 ≤ 601024 ∧ n + 24 ≤ 7293034) (next : ∀ M' Y' th', zJ3 γ M' U A Y' th' o d → zAW p l e room_1 s m args below meth c γ 9 Q M' (k + 4) (n + 24) 4249 [some (.ref b), some (.ref (U 0)), some (.ref (A 0)), some (.ref o), some (.ref d), some (.int (zi i)), none, none, none] []) : zAW p l e room_1 s m args below meth c γ 9 Q M k n 2748 [some (.ref b), some (.ref (U 0)), some (.ref (A 0)), some (.ref o), some (.ref d), some (.int (zi i)), none, none, none] [] := by
  obtain ⟨hc, hk, hm, hUA, ⟨f0, ho⟩, ⟨g0, hd⟩, hUo, hUd, hAo, hAd, hod⟩ := J
  obtain ⟨fs0, ob0⟩ := hc.ob
  refine z_aload_n C dL_law_2748 rfl ?_
  refine z_aload_n C dL_law_2749 rfl ?_
  refine z_iload C dL_law_2750 rfl ?_
  refine z_iconst C dL_law_2752 ?_
  refine z_iaddZ C dL_law_2753 ?_
  refine z_xld C hXs hbs (by omega) (by omega) dL_law_2754 ?_
  refine z_aload_n C dL_law_2755 rfl ?_
  refine z_iload C dL_law_2756 rfl ?_
  refine z_iconst C dL_law_2758 ?_
  refine z_iaddZ C dL_law_2759 ?_
  refine z_xld C hXs hbs (by omega) (by omega) dL_law_2760 ?_
  refine z_aload_n C dL_law_2761 rfl ?_
  refine z_callSH C dL_law_2762 lkw_totalBits mwh_L_totalBits mst_L_totalBits (w_totalBits hc hk ho hUo (hys _) (hys _)) rfl (by first | decide | exact Nat.le_of_ble_eq_true rfl) ⟨by decide, by decide, by show _ ≤ 601024; omega, by show _ ≤ 7293034; omega⟩ (fun _ _ h => False.elim h) (fun v M' hp => ?_)
  obtain ⟨rfl, hr, f1, hc1, f2, hx1, hv⟩ := hp
  have hm1 := hm.frm (zUA_f f1 hUA hAo)
  obtain ⟨fs1, ob1⟩ := hm1.ob
  have ho1 := hx1
  have hd1 := f1.at (fun w => (List.mem_cons.mp w).elim (fun w => hod w.symm) (zU_no hUd)) hd
  refine z_istore C dL_law_2765 (by decide) ?_
  refine z_aload_n C dL_law_2767 rfl ?_
  refine z_aload_n C dL_law_2768 rfl ?_
  refine z_iload C dL_law_2769 rfl ?_
  refine z_iconst C dL_law_2771 ?_
  refine z_iaddZ C dL_law_2772 ?_
  refine z_xld C hXs hbs (by omega) (by omega) dL_law_2773 ?_
  refine z_aload_n C dL_law_2774 rfl ?_
  refine z_iload C dL_law_2775 rfl ?_
  refine z_iconst C dL_law_2777 ?_
  refine z_iaddZ C dL_law_2778 ?_
  refine z_xld C hXs hbs (by omega) (by omega) dL_law_2779 ?_
  refine z_callV C dL_law_2780 lk_L_326 mw_X9_totalBits mi_X9_totalBits ms_X9_totalBits rfl ob1 (m_totalBits hm1 hk.1 (hys _) (hys _)) rfl (by first | decide | exact Nat.le_of_ble_eq_true rfl) ⟨by decide, by decide, by show _ ≤ 601024; omega, by show _ ≤ 7293034; omega⟩ (fun _ _ h => False.elim h) (fun v M' hp => ?_)
  obtain ⟨b1, rfl, fA, hm2, hbv⟩ := hp
  have fB : zFr _ _ ((List.range 15).map A) := fA
  have ho2 := fB.at (mAll.no hAo) ho1
  have hd2 := fB.at (mAll.no hAd) hd1
  have J2 : zJ3 γ _ U A _ _ o d := ⟨hc1.frm fB (fun i hi => mAll.no (fun j hj w => hUA i j hi hj w.symm)), hk, hm2, hUA, ⟨_, ho2⟩, ⟨_, hd2⟩, hUo, hUd, hAo, hAd, hod⟩
  obtain ⟨fs2, ob2⟩ := hm2.ob
  refine z_istore C dL_law_2783 (by decide) ?_
  refine z_aload_n C dL_law_2785 rfl ?_
  refine z_callV C dL_law_2786 lk_L_202 mw_X9_thrown mi_X9_thrown ms_X9_thrown rfl ob2 (m_thrown hm2) rfl (by first | decide | exact Nat.le_of_ble_eq_true rfl) ⟨by decide, by decide, by show _ ≤ 601024; omega, by show _ ≤ 7293034; omega⟩ (fun _ _ h => False.elim h) (fun v M' hp => ?_)
  obtain ⟨rfl, rfl⟩ := hp
  refine z_iload C dL_law_2789 rfl ?_
  refine z_icmp_eq (tgt := 2796) C dL_law_2791 (by decide) (fun h2791 => ?_) (fun h2791 => ?_)
  · refine z_iload C dL_law_2796 rfl ?_
    refine z_if_ne (tgt := 2813) C dL_law_2798 (by decide) (fun h2798 => ?_) (fun h2798 => ?_)
    · refine z_goto (tgt := 4249) C dL_law_2813 (by decide) ?_
      exact z_fg (by omega) (by omega) ⟨_, _, _, rfl⟩ (next _ _ _ J2)
    · have z0 := zq_0 hr h2798
      refine z_aload_n C dL_law_2801 rfl ?_
      refine z_iconst C dL_law_2802 ?_
      refine z_aldJ (i := 0) C dL_law_2803 ho2 ⟨by decide, by decide⟩ (by decide) ?_
      refine z_iload C dL_law_2804 rfl ?_
      refine z_i2l C dL_law_2806 ?_
      refine z_lcmp C dL_law_2807 ?_
      refine z_if_eq (tgt := 2813) C dL_law_2808 (by decide) (fun h2808 => ?_) (fun h2808 => ?_)
      · refine z_goto (tgt := 4249) C dL_law_2813 (by decide) ?_
        exact z_fg (by omega) (by omega) ⟨_, _, _, rfl⟩ (next _ _ _ J2)
      · exact absurd (by show lg_cmp (f2 0) (zi b1).toInt64 = 0; rw [hv z0, hbv z0]; exact lg_same _) h2808
  · exact absurd rfl h2791
set_option maxHeartbeats 4000000 in
set_option maxRecDepth 100000 in
theorem cs_meanGuesses (C : zC p l s m args meth c γ cL_law 9 (some .boolean) RL xt) {b N : Nat} {ys : Nat → Int} (hXs : va_X b N (fun j => zi (ys j)) s s.heap) (hbs : b < γ.2.1.size) (hN : N ≤ 3072) (hys : ∀ j, zR (ys j)) {U A : Nat → Nat} {Y : zSys} {th : Int} {o d : Nat} (J : zJ3 γ M U A Y th o d) {i : Int} (hi : 0 ≤ i ∧ i + 6 ≤ N) (hkn : k + 4 ≤ 601024 ∧ n + 24 ≤ 7293034) (next : ∀ M' Y' th', zJ3 γ M' U A Y' th' o d → zAW p l e room_1 s m args below meth c γ 9 Q M' (k + 4) (n + 24) 4249 [some (.ref b), some (.ref (U 0)), some (.ref (A 0)), some (.ref o), some (.ref d), some (.int (zi i)), none, none, none] []) : zAW p l e room_1 s m args below meth c γ 9 Q M k n 2816 [some (.ref b), some (.ref (U 0)), some (.ref (A 0)), some (.ref o), some (.ref d), some (.int (zi i)), none, none, none] [] := by
  obtain ⟨hc, hk, hm, hUA, ⟨f0, ho⟩, ⟨g0, hd⟩, hUo, hUd, hAo, hAd, hod⟩ := J
  obtain ⟨fs0, ob0⟩ := hc.ob
  refine z_aload_n C dL_law_2816 rfl ?_
  refine z_aload_n C dL_law_2817 rfl ?_
  refine z_iload C dL_law_2818 rfl ?_
  refine z_iconst C dL_law_2820 ?_
  refine z_iaddZ C dL_law_2821 ?_
  refine z_xld C hXs hbs (by omega) (by omega) dL_law_2822 ?_
  refine z_aload_n C dL_law_2823 rfl ?_
  refine z_iload C dL_law_2824 rfl ?_
  refine z_iconst C dL_law_2826 ?_
  refine z_iaddZ C dL_law_2827 ?_
  refine z_xld C hXs hbs (by omega) (by omega) dL_law_2828 ?_
  refine z_aload C dL_law_2829 rfl ?_
  refine z_callSH C dL_law_2831 lkw_meanGuesses mwh_L_meanGuesses mst_L_meanGuesses (w_meanGuesses hc hk hd hUd (hys _) (hys _)) rfl (by first | decide | exact Nat.le_of_ble_eq_true rfl) ⟨by decide, by decide, by show _ ≤ 601024; omega, by show _ ≤ 7293034; omega⟩ (fun _ _ h => False.elim h) (fun v M' hp => ?_)
  obtain ⟨rfl, hr, f1, hc1, f2, hx1, hv⟩ := hp
  have hm1 := hm.frm (zUA_f f1 hUA hAd)
  obtain ⟨fs1, ob1⟩ := hm1.ob
  have hd1 := hx1
  have ho1 := f1.at (fun w => (List.mem_cons.mp w).elim hod (zU_no hUo)) ho
  refine z_istore C dL_law_2834 (by decide) ?_
  refine z_aload_n C dL_law_2836 rfl ?_
  refine z_aload_n C dL_law_2837 rfl ?_
  refine z_iload C dL_law_2838 rfl ?_
  refine z_iconst C dL_law_2840 ?_
  refine z_iaddZ C dL_law_2841 ?_
  refine z_xld C hXs hbs (by omega) (by omega) dL_law_2842 ?_
  refine z_aload_n C dL_law_2843 rfl ?_
  refine z_iload C dL_law_2844 rfl ?_
  refine z_iconst C dL_law_2846 ?_
  refine z_iaddZ C dL_law_2847 ?_
  refine z_xld C hXs hbs (by omega) (by omega) dL_law_2848 ?_
  refine z_callV C dL_law_2849 lk_L_330 mw_X9_meanGuesses mi_X9_meanGuesses ms_X9_meanGuesses rfl ob1 (m_meanGuesses hm1 hk.1 (hys _) (hys _)) rfl (by first | decide | exact Nat.le_of_ble_eq_true rfl) ⟨by decide, by decide, by show _ ≤ 601024; omega, by show _ ≤ 7293034; omega⟩ (fun _ _ h => False.elim h) (fun v M' hp => ?_)
  obtain ⟨b1, rfl, fA, hm2, hbv⟩ := hp
  have fB : zFr _ _ ((List.range 15).map A) := fA
  have ho2 := fB.at (mAll.no hAo) ho1
  have hd2 := fB.at (mAll.no hAd) hd1
  have J2 : zJ3 γ _ U A _ _ o d := ⟨hc1.frm fB (fun i hi => mAll.no (fun j hj w => hUA i j hi hj w.symm)), hk, hm2, hUA, ⟨_, ho2⟩, ⟨_, hd2⟩, hUo, hUd, hAo, hAd, hod⟩
  obtain ⟨fs2, ob2⟩ := hm2.ob
  refine z_dstore C dL_law_2852 (by decide) ?_
  refine z_aload_n C dL_law_2854 rfl ?_
  refine z_callV C dL_law_2855 lk_L_202 mw_X9_thrown mi_X9_thrown ms_X9_thrown rfl ob2 (m_thrown hm2) rfl (by first | decide | exact Nat.le_of_ble_eq_true rfl) ⟨by decide, by decide, by show _ ≤ 601024; omega, by show _ ≤ 7293034; omega⟩ (fun _ _ h => False.elim h) (fun v M' hp => ?_)
  obtain ⟨rfl, rfl⟩ := hp
  refine z_iload C dL_law_2858 rfl ?_
  refine z_icmp_eq (tgt := 2865) C dL_law_2860 (by decide) (fun h2860 => ?_) (fun h2860 => ?_)
  · refine z_iload C dL_law_2865 rfl ?_
    refine z_if_ne (tgt := 2902) C dL_law_2867 (by decide) (fun h2867 => ?_) (fun h2867 => ?_)
    · refine z_goto (tgt := 4249) C dL_law_2902 (by decide) ?_
      exact z_fg (by omega) (by omega) ⟨_, _, _, rfl⟩ (next _ _ _ J2)
    · have z0 := zq_0 hr h2867
      refine z_aload C dL_law_2870 rfl ?_
      refine z_iconst C dL_law_2872 ?_
      refine z_aldD (i := 0) C dL_law_2873 hd2 ⟨by decide, by decide⟩ (by decide) ?_
      refine z_dload C dL_law_2874 rfl ?_
      refine z_dcmp C dL_law_2876 ?_
      refine z_if_eq (tgt := 2902) C dL_law_2877 (by decide) (fun h2877 => ?_) (fun h2877 => ?_)
      · refine z_goto (tgt := 4249) C dL_law_2902 (by decide) ?_
        exact z_fg (by omega) (by omega) ⟨_, _, _, rfl⟩ (next _ _ _ J2)
      · refine z_aload C dL_law_2880 rfl ?_
        refine z_iconst C dL_law_2882 ?_
        refine z_aldD (i := 0) C dL_law_2883 hd2 ⟨by decide, by decide⟩ (by decide) ?_
        refine z_aload C dL_law_2884 rfl ?_
        refine z_iconst C dL_law_2886 ?_
        refine z_aldD (i := 0) C dL_law_2887 hd2 ⟨by decide, by decide⟩ (by decide) ?_
        refine z_dcmp C dL_law_2888 ?_
        refine z_if_eq (tgt := 2900) C dL_law_2889 (by decide) (fun h2889 => ?_) (fun h2889 => ?_)
        · exact absurd (by show Op.cmpValue (FP.dcmp (f2 0) b1) .l = 0; rw [hbv z0, ← hv z0]; exact h2889) h2877
        · refine z_dload C dL_law_2892 rfl ?_
          refine z_dload C dL_law_2894 rfl ?_
          refine z_dcmp C dL_law_2896 ?_
          refine z_if_ne (tgt := 2902) C dL_law_2897 (by decide) (fun h2897 => ?_) (fun h2897 => ?_)
          · refine z_goto (tgt := 4249) C dL_law_2902 (by decide) ?_
            exact z_fg (by omega) (by omega) ⟨_, _, _, rfl⟩ (next _ _ _ J2)
          · exact absurd (by show Op.cmpValue (FP.dcmp (f2 0) b1) .l = 0; rw [hv z0, ← hbv z0]; exact h2897) h2877
  · exact absurd rfl h2860
set_option maxHeartbeats 4000000 in
set_option maxRecDepth 100000 in
theorem cs_hitShare (C : zC p l s m args meth c γ cL_law 9 (some .boolean) RL xt) {b N : Nat} {ys : Nat → Int} (hXs : va_X b N (fun j => zi (ys j)) s s.heap) (hbs : b < γ.2.1.size) (hN : N ≤ 3072) (hys : ∀ j, zR (ys j)) {U A : Nat → Nat} {Y : zSys} {th : Int} {o d : Nat} (J : zJ3 γ M U A Y th o d) {i : Int} (hi : 0 ≤ i ∧ i + 6 ≤ N) (hkn : k + 4 ≤ 601024 ∧ n + 24 ≤ 7293034) (next : ∀ M' Y' th', zJ3 γ M' U A Y' th' o d → zAW p l e room_1 s m args below meth c γ 9 Q M' (k + 4) (n + 24) 4249 [some (.ref b), some (.ref (U 0)), some (.ref (A 0)), some (.ref o), some (.ref d), some (.int (zi i)), none, none, none] []) : zAW p l e room_1 s m args below meth c γ 9 Q M k n 2905 [some (.ref b), some (.ref (U 0)), some (.ref (A 0)), some (.ref o), some (.ref d), some (.int (zi i)), none, none, none] [] := by
  obtain ⟨hc, hk, hm, hUA, ⟨f0, ho⟩, ⟨g0, hd⟩, hUo, hUd, hAo, hAd, hod⟩ := J
  obtain ⟨fs0, ob0⟩ := hc.ob
  refine z_aload_n C dL_law_2905 rfl ?_
  refine z_aload_n C dL_law_2906 rfl ?_
  refine z_iload C dL_law_2907 rfl ?_
  refine z_iconst C dL_law_2909 ?_
  refine z_iaddZ C dL_law_2910 ?_
  refine z_xld C hXs hbs (by omega) (by omega) dL_law_2911 ?_
  refine z_aload_n C dL_law_2912 rfl ?_
  refine z_iload C dL_law_2913 rfl ?_
  refine z_iconst C dL_law_2915 ?_
  refine z_iaddZ C dL_law_2916 ?_
  refine z_xld C hXs hbs (by omega) (by omega) dL_law_2917 ?_
  refine z_aload C dL_law_2918 rfl ?_
  refine z_callSH C dL_law_2920 lkw_hitShare mwh_L_hitShare mst_L_hitShare (w_hitShare hc hk hd hUd (hys _) (hys _)) rfl (by first | decide | exact Nat.le_of_ble_eq_true rfl) ⟨by decide, by decide, by show _ ≤ 601024; omega, by show _ ≤ 7293034; omega⟩ (fun _ _ h => False.elim h) (fun v M' hp => ?_)
  obtain ⟨rfl, hr, f1, hc1, f2, hx1, hv⟩ := hp
  have hm1 := hm.frm (zUA_f f1 hUA hAd)
  obtain ⟨fs1, ob1⟩ := hm1.ob
  have hd1 := hx1
  have ho1 := f1.at (fun w => (List.mem_cons.mp w).elim hod (zU_no hUo)) ho
  refine z_istore C dL_law_2923 (by decide) ?_
  refine z_aload_n C dL_law_2925 rfl ?_
  refine z_aload_n C dL_law_2926 rfl ?_
  refine z_iload C dL_law_2927 rfl ?_
  refine z_iconst C dL_law_2929 ?_
  refine z_iaddZ C dL_law_2930 ?_
  refine z_xld C hXs hbs (by omega) (by omega) dL_law_2931 ?_
  refine z_aload_n C dL_law_2932 rfl ?_
  refine z_iload C dL_law_2933 rfl ?_
  refine z_iconst C dL_law_2935 ?_
  refine z_iaddZ C dL_law_2936 ?_
  refine z_xld C hXs hbs (by omega) (by omega) dL_law_2937 ?_
  refine z_callV C dL_law_2938 lk_L_333 mw_X9_hitShare mi_X9_hitShare ms_X9_hitShare rfl ob1 (m_hitShare hm1 hk.1 (hys _) (hys _)) rfl (by first | decide | exact Nat.le_of_ble_eq_true rfl) ⟨by decide, by decide, by show _ ≤ 601024; omega, by show _ ≤ 7293034; omega⟩ (fun _ _ h => False.elim h) (fun v M' hp => ?_)
  obtain ⟨b1, rfl, fA, hm2, hbv⟩ := hp
  have fB : zFr _ _ ((List.range 15).map A) := fA
  have ho2 := fB.at (mAll.no hAo) ho1
  have hd2 := fB.at (mAll.no hAd) hd1
  have J2 : zJ3 γ _ U A _ _ o d := ⟨hc1.frm fB (fun i hi => mAll.no (fun j hj w => hUA i j hi hj w.symm)), hk, hm2, hUA, ⟨_, ho2⟩, ⟨_, hd2⟩, hUo, hUd, hAo, hAd, hod⟩
  obtain ⟨fs2, ob2⟩ := hm2.ob
  refine z_fstore C dL_law_2941 (by decide) ?_
  refine z_aload_n C dL_law_2943 rfl ?_
  refine z_callV C dL_law_2944 lk_L_202 mw_X9_thrown mi_X9_thrown ms_X9_thrown rfl ob2 (m_thrown hm2) rfl (by first | decide | exact Nat.le_of_ble_eq_true rfl) ⟨by decide, by decide, by show _ ≤ 601024; omega, by show _ ≤ 7293034; omega⟩ (fun _ _ h => False.elim h) (fun v M' hp => ?_)
  obtain ⟨rfl, rfl⟩ := hp
  refine z_iload C dL_law_2947 rfl ?_
  refine z_icmp_eq (tgt := 2954) C dL_law_2949 (by decide) (fun h2949 => ?_) (fun h2949 => ?_)
  · refine z_iload C dL_law_2954 rfl ?_
    refine z_if_ne (tgt := 2992) C dL_law_2956 (by decide) (fun h2956 => ?_) (fun h2956 => ?_)
    · refine z_goto (tgt := 4249) C dL_law_2992 (by decide) ?_
      exact z_fg (by omega) (by omega) ⟨_, _, _, rfl⟩ (next _ _ _ J2)
    · have z0 := zq_0 hr h2956
      refine z_aload C dL_law_2959 rfl ?_
      refine z_iconst C dL_law_2961 ?_
      refine z_aldD (i := 0) C dL_law_2962 hd2 ⟨by decide, by decide⟩ (by decide) ?_
      refine z_fload C dL_law_2963 rfl ?_
      refine z_f2d C dL_law_2965 (by rw [hbv z0]; exact (hit_n hk z0).1) ?_
      refine z_dcmp C dL_law_2966 ?_
      refine z_if_eq (tgt := 2992) C dL_law_2967 (by decide) (fun h2967 => ?_) (fun h2967 => ?_)
      · refine z_goto (tgt := 4249) C dL_law_2992 (by decide) ?_
        exact z_fg (by omega) (by omega) ⟨_, _, _, rfl⟩ (next _ _ _ J2)
      · exact absurd (by show Op.cmpValue (FP.dcmp (f2 0) (FP.f2d b1)) .l = 0; rw [hv z0, hbv z0]; exact (hit_n hk z0).2) h2967
  · exact absurd rfl h2949
set_option maxHeartbeats 4000000 in
set_option maxRecDepth 100000 in
theorem cs_bestReader (C : zC p l s m args meth c γ cL_law 9 (some .boolean) RL xt) {b N : Nat} {ys : Nat → Int} (hXs : va_X b N (fun j => zi (ys j)) s s.heap) (hbs : b < γ.2.1.size) (hN : N ≤ 3072) (hys : ∀ j, zR (ys j)) {U A : Nat → Nat} {Y : zSys} {th : Int} {o d : Nat} (J : zJ3 γ M U A Y th o d) {i : Int} (hi : 0 ≤ i ∧ i + 6 ≤ N) (hkn : k + 4 ≤ 601024 ∧ n + 24 ≤ 7293034) (next : ∀ M' Y' th', zJ3 γ M' U A Y' th' o d → zAW p l e room_1 s m args below meth c γ 9 Q M' (k + 4) (n + 24) 4249 [some (.ref b), some (.ref (U 0)), some (.ref (A 0)), some (.ref o), some (.ref d), some (.int (zi i)), none, none, none] []) : zAW p l e room_1 s m args below meth c γ 9 Q M k n 2995 [some (.ref b), some (.ref (U 0)), some (.ref (A 0)), some (.ref o), some (.ref d), some (.int (zi i)), none, none, none] [] := by
  obtain ⟨hc, hk, hm, hUA, ⟨f0, ho⟩, ⟨g0, hd⟩, hUo, hUd, hAo, hAd, hod⟩ := J
  obtain ⟨fs0, ob0⟩ := hc.ob
  refine z_aload_n C dL_law_2995 rfl ?_
  refine z_aload_n C dL_law_2996 rfl ?_
  refine z_iload C dL_law_2997 rfl ?_
  refine z_iconst C dL_law_2999 ?_
  refine z_iaddZ C dL_law_3000 ?_
  refine z_xld C hXs hbs (by omega) (by omega) dL_law_3001 ?_
  refine z_aload_n C dL_law_3002 rfl ?_
  refine z_callSH C dL_law_3003 lkw_bestReader mwh_L_bestReader mst_L_bestReader (w_bestReader hc hk ho hUo (hys _)) rfl (by first | decide | exact Nat.le_of_ble_eq_true rfl) ⟨by decide, by decide, by show _ ≤ 601024; omega, by show _ ≤ 7293034; omega⟩ (fun _ _ h => False.elim h) (fun v M' hp => ?_)
  obtain ⟨rfl, hr, f1, hc1, f2, hx1, hv⟩ := hp
  have hm1 := hm.frm (zUA_f f1 hUA hAo)
  obtain ⟨fs1, ob1⟩ := hm1.ob
  have ho1 := hx1
  have hd1 := f1.at (fun w => (List.mem_cons.mp w).elim (fun w => hod w.symm) (zU_no hUd)) hd
  refine z_istore C dL_law_3006 (by decide) ?_
  refine z_aload_n C dL_law_3008 rfl ?_
  refine z_aload_n C dL_law_3009 rfl ?_
  refine z_iload C dL_law_3010 rfl ?_
  refine z_iconst C dL_law_3012 ?_
  refine z_iaddZ C dL_law_3013 ?_
  refine z_xld C hXs hbs (by omega) (by omega) dL_law_3014 ?_
  refine z_callV C dL_law_3015 lk_L_336 mw_X9_bestReader mi_X9_bestReader ms_X9_bestReader rfl ob1 (m_bestReader hm1 hk.1 (hys _)) rfl (by first | decide | exact Nat.le_of_ble_eq_true rfl) ⟨by decide, by decide, by show _ ≤ 601024; omega, by show _ ≤ 7293034; omega⟩ (fun _ _ h => False.elim h) (fun v M' hp => ?_)
  obtain ⟨b1, rfl, fA, hm2, hbv⟩ := hp
  have fB : zFr _ _ ((List.range 15).map A) := fA
  have ho2 := fB.at (mAll.no hAo) ho1
  have hd2 := fB.at (mAll.no hAd) hd1
  have J2 : zJ3 γ _ U A _ _ o d := ⟨hc1.frm fB (fun i hi => mAll.no (fun j hj w => hUA i j hi hj w.symm)), hk, hm2, hUA, ⟨_, ho2⟩, ⟨_, hd2⟩, hUo, hUd, hAo, hAd, hod⟩
  obtain ⟨fs2, ob2⟩ := hm2.ob
  refine z_istore C dL_law_3018 (by decide) ?_
  refine z_aload_n C dL_law_3020 rfl ?_
  refine z_callV C dL_law_3021 lk_L_202 mw_X9_thrown mi_X9_thrown ms_X9_thrown rfl ob2 (m_thrown hm2) rfl (by first | decide | exact Nat.le_of_ble_eq_true rfl) ⟨by decide, by decide, by show _ ≤ 601024; omega, by show _ ≤ 7293034; omega⟩ (fun _ _ h => False.elim h) (fun v M' hp => ?_)
  obtain ⟨rfl, rfl⟩ := hp
  refine z_iload C dL_law_3024 rfl ?_
  refine z_icmp_eq (tgt := 3031) C dL_law_3026 (by decide) (fun h3026 => ?_) (fun h3026 => ?_)
  · refine z_iload C dL_law_3031 rfl ?_
    refine z_if_ne (tgt := 3048) C dL_law_3033 (by decide) (fun h3033 => ?_) (fun h3033 => ?_)
    · refine z_goto (tgt := 4249) C dL_law_3048 (by decide) ?_
      exact z_fg (by omega) (by omega) ⟨_, _, _, rfl⟩ (next _ _ _ J2)
    · have z0 := zq_0 hr h3033
      refine z_aload_n C dL_law_3036 rfl ?_
      refine z_iconst C dL_law_3037 ?_
      refine z_aldJ (i := 0) C dL_law_3038 ho2 ⟨by decide, by decide⟩ (by decide) ?_
      refine z_iload C dL_law_3039 rfl ?_
      refine z_i2l C dL_law_3041 ?_
      refine z_lcmp C dL_law_3042 ?_
      refine z_if_eq (tgt := 3048) C dL_law_3043 (by decide) (fun h3043 => ?_) (fun h3043 => ?_)
      · refine z_goto (tgt := 4249) C dL_law_3048 (by decide) ?_
        exact z_fg (by omega) (by omega) ⟨_, _, _, rfl⟩ (next _ _ _ J2)
      · exact absurd (by show lg_cmp (f2 0) (zi b1).toInt64 = 0; rw [hv z0, hbv z0]; exact lg_same _) h3043
  · exact absurd rfl h3026
set_option maxHeartbeats 4000000 in
set_option maxRecDepth 100000 in
theorem cs_hardestDocument (C : zC p l s m args meth c γ cL_law 9 (some .boolean) RL xt) {b N : Nat} {ys : Nat → Int} (hXs : va_X b N (fun j => zi (ys j)) s s.heap) (hbs : b < γ.2.1.size) (hN : N ≤ 3072) (hys : ∀ j, zR (ys j)) {U A : Nat → Nat} {Y : zSys} {th : Int} {o d : Nat} (J : zJ3 γ M U A Y th o d) {i : Int} (hi : 0 ≤ i ∧ i + 6 ≤ N) (hkn : k + 4 ≤ 601024 ∧ n + 24 ≤ 7293034) (next : ∀ M' Y' th', zJ3 γ M' U A Y' th' o d → zAW p l e room_1 s m args below meth c γ 9 Q M' (k + 4) (n + 24) 4249 [some (.ref b), some (.ref (U 0)), some (.ref (A 0)), some (.ref o), some (.ref d), some (.int (zi i)), none, none, none] []) : zAW p l e room_1 s m args below meth c γ 9 Q M k n 3051 [some (.ref b), some (.ref (U 0)), some (.ref (A 0)), some (.ref o), some (.ref d), some (.int (zi i)), none, none, none] [] := by
  obtain ⟨hc, hk, hm, hUA, ⟨f0, ho⟩, ⟨g0, hd⟩, hUo, hUd, hAo, hAd, hod⟩ := J
  obtain ⟨fs0, ob0⟩ := hc.ob
  refine z_aload_n C dL_law_3051 rfl ?_
  refine z_aload_n C dL_law_3052 rfl ?_
  refine z_iload C dL_law_3053 rfl ?_
  refine z_iconst C dL_law_3055 ?_
  refine z_iaddZ C dL_law_3056 ?_
  refine z_xld C hXs hbs (by omega) (by omega) dL_law_3057 ?_
  refine z_aload_n C dL_law_3058 rfl ?_
  refine z_callSH C dL_law_3059 lkw_hardestDocument mwh_L_hardestDocument mst_L_hardestDocument (w_hardestDocument hc hk ho hUo (hys _)) rfl (by first | decide | exact Nat.le_of_ble_eq_true rfl) ⟨by decide, by decide, by show _ ≤ 601024; omega, by show _ ≤ 7293034; omega⟩ (fun _ _ h => False.elim h) (fun v M' hp => ?_)
  obtain ⟨rfl, hr, f1, hc1, f2, hx1, hv⟩ := hp
  have hm1 := hm.frm (zUA_f f1 hUA hAo)
  obtain ⟨fs1, ob1⟩ := hm1.ob
  have ho1 := hx1
  have hd1 := f1.at (fun w => (List.mem_cons.mp w).elim (fun w => hod w.symm) (zU_no hUd)) hd
  refine z_istore C dL_law_3062 (by decide) ?_
  refine z_aload_n C dL_law_3064 rfl ?_
  refine z_aload_n C dL_law_3065 rfl ?_
  refine z_iload C dL_law_3066 rfl ?_
  refine z_iconst C dL_law_3068 ?_
  refine z_iaddZ C dL_law_3069 ?_
  refine z_xld C hXs hbs (by omega) (by omega) dL_law_3070 ?_
  refine z_callV C dL_law_3071 lk_L_339 mw_X9_hardestDocument mi_X9_hardestDocument ms_X9_hardestDocument rfl ob1 (m_hardestDocument hm1 hk.1 (hys _)) rfl (by first | decide | exact Nat.le_of_ble_eq_true rfl) ⟨by decide, by decide, by show _ ≤ 601024; omega, by show _ ≤ 7293034; omega⟩ (fun _ _ h => False.elim h) (fun v M' hp => ?_)
  obtain ⟨b1, rfl, fA, hm2, hbv⟩ := hp
  have fB : zFr _ _ ((List.range 15).map A) := fA
  have ho2 := fB.at (mAll.no hAo) ho1
  have hd2 := fB.at (mAll.no hAd) hd1
  have J2 : zJ3 γ _ U A _ _ o d := ⟨hc1.frm fB (fun i hi => mAll.no (fun j hj w => hUA i j hi hj w.symm)), hk, hm2, hUA, ⟨_, ho2⟩, ⟨_, hd2⟩, hUo, hUd, hAo, hAd, hod⟩
  obtain ⟨fs2, ob2⟩ := hm2.ob
  refine z_istore C dL_law_3074 (by decide) ?_
  refine z_aload_n C dL_law_3076 rfl ?_
  refine z_callV C dL_law_3077 lk_L_202 mw_X9_thrown mi_X9_thrown ms_X9_thrown rfl ob2 (m_thrown hm2) rfl (by first | decide | exact Nat.le_of_ble_eq_true rfl) ⟨by decide, by decide, by show _ ≤ 601024; omega, by show _ ≤ 7293034; omega⟩ (fun _ _ h => False.elim h) (fun v M' hp => ?_)
  obtain ⟨rfl, rfl⟩ := hp
  refine z_iload C dL_law_3080 rfl ?_
  refine z_icmp_eq (tgt := 3087) C dL_law_3082 (by decide) (fun h3082 => ?_) (fun h3082 => ?_)
  · refine z_iload C dL_law_3087 rfl ?_
    refine z_if_ne (tgt := 3104) C dL_law_3089 (by decide) (fun h3089 => ?_) (fun h3089 => ?_)
    · refine z_goto (tgt := 4249) C dL_law_3104 (by decide) ?_
      exact z_fg (by omega) (by omega) ⟨_, _, _, rfl⟩ (next _ _ _ J2)
    · have z0 := zq_0 hr h3089
      refine z_aload_n C dL_law_3092 rfl ?_
      refine z_iconst C dL_law_3093 ?_
      refine z_aldJ (i := 0) C dL_law_3094 ho2 ⟨by decide, by decide⟩ (by decide) ?_
      refine z_iload C dL_law_3095 rfl ?_
      refine z_i2l C dL_law_3097 ?_
      refine z_lcmp C dL_law_3098 ?_
      refine z_if_eq (tgt := 3104) C dL_law_3099 (by decide) (fun h3099 => ?_) (fun h3099 => ?_)
      · refine z_goto (tgt := 4249) C dL_law_3104 (by decide) ?_
        exact z_fg (by omega) (by omega) ⟨_, _, _, rfl⟩ (next _ _ _ J2)
      · exact absurd (by show lg_cmp (f2 0) (zi b1).toInt64 = 0; rw [hv z0, hbv z0]; exact lg_same _) h3099
  · exact absurd rfl h3082
end CSg

