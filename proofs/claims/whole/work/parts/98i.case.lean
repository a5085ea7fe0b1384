/-! the law's cases: learn, forget, setEscapeMethod, endYear, merge, encode, decode -/
section CSi
variable {p : Program} {l : Launch} {e : Env} {s : State} {m : MethodId} {args : Array Value} {below : List Frame} {meth : Method} {c : Code} {γ : zG} {Q : State → Prop} {M : zM} {k n : Nat} {xt : List ExceptionTableEntry}
set_option maxHeartbeats 4000000 in
set_option maxRecDepth 100000 in
theorem cs_learn (C : zC p l s m args meth c γ cL_law 9 (some .boolean) RL xt) {b N : Nat} {ys : Nat → Int} (hXs : va_X b N (fun j => zi (ys j)) s s.heap) (hbs : b < γ.2.1.size) (hN : N ≤ 3072) (hys : ∀ j, zR (ys j)) {U A : Nat → Nat} {Y : zSys} {th : Int} {o d : Nat} (J : zJ3 γ M U A Y th o d) {i : Int} (hi : 0 ≤ i ∧ i + 6 ≤ N) (hkn : k + 4 ≤ 601024 ∧ n + 24 ≤ 7293034) (next : ∀ M' Y' th', zJ3 γ M' U A Y' th' o d → zAW p l e room_1 s m args below meth c γ 9 Q M' (k + 4) (n + 24) 4249 [some (.ref b), some (.ref (U 0)), some (.ref (A 0)), some (.ref o), some (.ref d), some (.int (zi i)), none, none, none] []) : zAW p l e room_1 s m args below meth c γ 9 Q M k n 3559 [some (.ref b), some (.ref (U 0)), some (.ref (A 0)), some (.ref o), some (.ref d), some (.int (zi i)), none, none, none] [] := by
  obtain ⟨hc, hk, hm, hUA, ⟨f0, ho⟩, ⟨g0, hd⟩, hUo, hUd, hAo, hAd, hod⟩ := J
  obtain ⟨fs0, ob0⟩ := hc.ob
  refine z_aload_n C dL_law_3559 rfl ?_
  refine z_aload_n C dL_law_3560 rfl ?_
  refine z_iload C dL_law_3561 rfl ?_
  refine z_iconst C dL_law_3563 ?_
  refine z_iaddZ C dL_law_3564 ?_
  refine z_xld C hXs hbs (by omega) (by omega) dL_law_3565 ?_
  refine z_aload_n C dL_law_3566 rfl ?_
  refine z_iload C dL_law_3567 rfl ?_
  refine z_iconst C dL_law_3569 ?_
  refine z_iaddZ C dL_law_3570 ?_
  refine z_xld C hXs hbs (by omega) (by omega) dL_law_3571 ?_
  refine z_aload_n C dL_law_3572 rfl ?_
  refine z_callSH C dL_law_3573 lkw_learn mwh_L_learn mst_L_learn (w_learn hc hk ho hUo (hys _) (hys _)) rfl (by first | decide | exact Nat.le_of_ble_eq_true rfl) ⟨by decide, by decide, by show _ ≤ 601024; omega, by show _ ≤ 7293034; omega⟩ (fun _ _ h => False.elim h) (fun v M' hp => ?_)
  obtain ⟨rfl, hr, f1, hc1, f2, hx1, hv⟩ := hp
  have hm1 := hm.frm (zUA_f f1 hUA hAo)
  obtain ⟨fs1, ob1⟩ := hm1.ob
  have ho1 := hx1
  have hd1 := f1.at (fun w => (List.mem_cons.mp w).elim (fun w => hod w.symm) (zU_no hUd)) hd
  refine z_istore C dL_law_3576 (by decide) ?_
  refine z_aload_n C dL_law_3578 rfl ?_
  refine z_aload_n C dL_law_3579 rfl ?_
  refine z_iload C dL_law_3580 rfl ?_
  refine z_iconst C dL_law_3582 ?_
  refine z_iaddZ C dL_law_3583 ?_
  refine z_xld C hXs hbs (by omega) (by omega) dL_law_3584 ?_
  refine z_aload_n C dL_law_3585 rfl ?_
  refine z_iload C dL_law_3586 rfl ?_
  refine z_iconst C dL_law_3588 ?_
  refine z_iaddZ C dL_law_3589 ?_
  refine z_xld C hXs hbs (by omega) (by omega) dL_law_3590 ?_
  refine z_callV C dL_law_3591 lk_L_363 mw_X9_learn mi_X9_learn ms_X9_learn rfl ob1 (m_learn hm1 hk (hys _) (hys _)) rfl (by first | decide | exact Nat.le_of_ble_eq_true rfl) ⟨by decide, by decide, by show _ ≤ 601024; omega, by show _ ≤ 7293034; omega⟩ (fun _ _ h => False.elim h) (fun v M' hp => ?_)
  obtain ⟨b1, rfl, fA, hmt, hmf⟩ := hp
  have hm2 := zYs_mo hmt hmf
  have hbv := fun w => (hmt w).2
  have fB : zFr _ _ ((List.range 15).map A) := fA
  have ho2 := fB.at (mAll.no hAo) ho1
  have hd2 := fB.at (mAll.no hAd) hd1
  have J2 : zJ3 γ _ U A _ _ o d := ⟨hc1.frm fB (fun i hi => mAll.no (fun j hj w => hUA i j hi hj w.symm)), (zYs_ok (fun w => ok_learn hk w) hk), hm2, hUA, ⟨_, ho2⟩, ⟨_, hd2⟩, hUo, hUd, hAo, hAd, hod⟩
  obtain ⟨fs2, ob2⟩ := hm2.ob
  refine z_istore C dL_law_3594 (by decide) ?_
  refine z_aload_n C dL_law_3596 rfl ?_
  refine z_callV C dL_law_3597 lk_L_202 mw_X9_thrown mi_X9_thrown ms_X9_thrown rfl ob2 (m_thrown hm2) rfl (by first | decide | exact Nat.le_of_ble_eq_true rfl) ⟨by decide, by decide, by show _ ≤ 601024; omega, by show _ ≤ 7293034; omega⟩ (fun _ _ h => False.elim h) (fun v M' hp => ?_)
  obtain ⟨rfl, rfl⟩ := hp
  refine z_iload C dL_law_3600 rfl ?_
  refine z_icmp_eq (tgt := 3607) C dL_law_3602 (by decide) (fun h3602 => ?_) (fun h3602 => ?_)
  · refine z_iload C dL_law_3607 rfl ?_
    refine z_if_ne (tgt := 3624) C dL_law_3609 (by decide) (fun h3609 => ?_) (fun h3609 => ?_)
    · refine z_goto (tgt := 4249) C dL_law_3624 (by decide) ?_
      exact z_fg (by omega) (by omega) ⟨_, _, _, rfl⟩ (next _ _ _ J2)
    · have z0 := zq_0 hr h3609
      refine z_aload_n C dL_law_3612 rfl ?_
      refine z_iconst C dL_law_3613 ?_
      refine z_aldJ (i := 0) C dL_law_3614 ho2 ⟨by decide, by decide⟩ (by decide) ?_
      refine z_iload C dL_law_3615 rfl ?_
      refine z_i2l C dL_law_3617 ?_
      refine z_lcmp C dL_law_3618 ?_
      refine z_if_eq (tgt := 3624) C dL_law_3619 (by decide) (fun h3619 => ?_) (fun h3619 => ?_)
      · refine z_goto (tgt := 4249) C dL_law_3624 (by decide) ?_
        exact z_fg (by omega) (by omega) ⟨_, _, _, rfl⟩ (next _ _ _ J2)
      · exact absurd (by show lg_cmp (f2 0) (zi b1).toInt64 = 0; rw [hv z0, hbv z0]; exact lg_same _) h3619
  · exact absurd rfl h3602
set_option maxHeartbeats 4000000 in
set_option maxRecDepth 100000 in
theorem cs_forget (C : zC p l s m args meth c γ cL_law 9 (some .boolean) RL xt) {b N : Nat} {ys : Nat → Int} (hXs : va_X b N (fun j => zi (ys j)) s s.heap) (hbs : b < γ.2.1.size) (hN : N ≤ 3072) (hys : ∀ j, zR (ys j)) {U A : Nat → Nat} {Y : zSys} {th : Int} {o d : Nat} (J : zJ3 γ M U A Y th o d) {i : Int} (hi : 0 ≤ i ∧ i + 6 ≤ N) (hkn : k + 4 ≤ 601024 ∧ n + 24 ≤ 7293034) (next : ∀ M' Y' th', zJ3 γ M' U A Y' th' o d → zAW p l e room_1 s m args below meth c γ 9 Q M' (k + 4) (n + 24) 4249 [some (.ref b), some (.ref (U 0)), some (.ref (A 0)), some (.ref o), some (.ref d), some (.int (zi i)), none, none, none] []) : zAW p l e room_1 s m args below meth c γ 9 Q M k n 3627 [some (.ref b), some (.ref (U 0)), some (.ref (A 0)), some (.ref o), some (.ref d), some (.int (zi i)), none, none, none] [] := by
  obtain ⟨hc, hk, hm, hUA, ⟨f0, ho⟩, ⟨g0, hd⟩, hUo, hUd, hAo, hAd, hod⟩ := J
  obtain ⟨fs0, ob0⟩ := hc.ob
  refine z_aload_n C dL_law_3627 rfl ?_
  refine z_aload_n C dL_law_3628 rfl ?_
  refine z_iload C dL_law_3629 rfl ?_
  refine z_iconst C dL_law_3631 ?_
  refine z_iaddZ C dL_law_3632 ?_
  refine z_xld C hXs hbs (by omega) (by omega) dL_law_3633 ?_
  refine z_aload_n C dL_law_3634 rfl ?_
  refine z_callSH C dL_law_3635 lkw_forget mwh_L_forget mst_L_forget (w_forget hc hk ho hUo (hys _)) rfl (by first | decide | exact Nat.le_of_ble_eq_true rfl) ⟨by decide, by decide, by show _ ≤ 601024; omega, by show _ ≤ 7293034; omega⟩ (fun _ _ h => False.elim h) (fun v M' hp => ?_)
  obtain ⟨rfl, hr, f1, hc1, f2, hx1, hv⟩ := hp
  have hm1 := hm.frm (zUA_f f1 hUA hAo)
  obtain ⟨fs1, ob1⟩ := hm1.ob
  have ho1 := hx1
  have hd1 := f1.at (fun w => (List.mem_cons.mp w).elim (fun w => hod w.symm) (zU_no hUd)) hd
  refine z_istore C dL_law_3638 (by decide) ?_
  refine z_aload_n C dL_law_3640 rfl ?_
  refine z_aload_n C dL_law_3641 rfl ?_
  refine z_iload C dL_law_3642 rfl ?_
  refine z_iconst C dL_law_3644 ?_
  refine z_iaddZ C dL_law_3645 ?_
  refine z_xld C hXs hbs (by omega) (by omega) dL_law_3646 ?_
  refine z_callV C dL_law_3647 lk_L_366 mw_X9_forget mi_X9_forget ms_X9_forget rfl ob1 (m_forget hm1 hk (hys _)) rfl (by first | decide | exact Nat.le_of_ble_eq_true rfl) ⟨by decide, by decide, by show _ ≤ 601024; omega, by show _ ≤ 7293034; omega⟩ (fun _ _ h => False.elim h) (fun v M' hp => ?_)
  obtain ⟨b1, rfl, fA, hmt, hmf⟩ := hp
  have hm2 := zYs_mo hmt hmf
  have hbv := fun w => (hmt w).2
  have fB : zFr _ _ ((List.range 15).map A) := fA
  have ho2 := fB.at (mAll.no hAo) ho1
  have hd2 := fB.at (mAll.no hAd) hd1
  have J2 : zJ3 γ _ U A _ _ o d := ⟨hc1.frm fB (fun i hi => mAll.no (fun j hj w => hUA i j hi hj w.symm)), (zYs_ok (fun w => ok_forget hk w) hk), hm2, hUA, ⟨_, ho2⟩, ⟨_, hd2⟩, hUo, hUd, hAo, hAd, hod⟩
  obtain ⟨fs2, ob2⟩ := hm2.ob
  refine z_istore C dL_law_3650 (by decide) ?_
  refine z_aload_n C dL_law_3652 rfl ?_
  refine z_callV C dL_law_3653 lk_L_202 mw_X9_thrown mi_X9_thrown ms_X9_thrown rfl ob2 (m_thrown hm2) rfl (by first | decide | exact Nat.le_of_ble_eq_true rfl) ⟨by decide, by decide, by show _ ≤ 601024; omega, by show _ ≤ 7293034; omega⟩ (fun _ _ h => False.elim h) (fun v M' hp => ?_)
  obtain ⟨rfl, rfl⟩ := hp
  refine z_iload C dL_law_3656 rfl ?_
  refine z_icmp_eq (tgt := 3663) C dL_law_3658 (by decide) (fun h3658 => ?_) (fun h3658 => ?_)
  · refine z_iload C dL_law_3663 rfl ?_
    refine z_if_ne (tgt := 3680) C dL_law_3665 (by decide) (fun h3665 => ?_) (fun h3665 => ?_)
    · refine z_goto (tgt := 4249) C dL_law_3680 (by decide) ?_
      exact z_fg (by omega) (by omega) ⟨_, _, _, rfl⟩ (next _ _ _ J2)
    · have z0 := zq_0 hr h3665
      refine z_aload_n C dL_law_3668 rfl ?_
      refine z_iconst C dL_law_3669 ?_
      refine z_aldJ (i := 0) C dL_law_3670 ho2 ⟨by decide, by decide⟩ (by decide) ?_
      refine z_iload C dL_law_3671 rfl ?_
      refine z_i2l C dL_law_3673 ?_
      refine z_lcmp C dL_law_3674 ?_
      refine z_if_eq (tgt := 3680) C dL_law_3675 (by decide) (fun h3675 => ?_) (fun h3675 => ?_)
      · refine z_goto (tgt := 4249) C dL_law_3680 (by decide) ?_
        exact z_fg (by omega) (by omega) ⟨_, _, _, rfl⟩ (next _ _ _ J2)
      · exact absurd (by show lg_cmp (f2 0) (zi b1).toInt64 = 0; rw [hv z0, hbv z0]; exact lg_same _) h3675
  · exact absurd rfl h3658
set_option maxHeartbeats 4000000 in
set_option maxRecDepth 100000 in
theorem cs_setEscapeMethod (C : zC p l s m args meth c γ cL_law 9 (some .boolean) RL xt) {b N : Nat} {ys : Nat → Int} (hXs : va_X b N (fun j => zi (ys j)) s s.heap) (hbs : b < γ.2.1.size) (hN : N ≤ 3072) (hys : ∀ j, zR (ys j)) {U A : Nat → Nat} {Y : zSys} {th : Int} {o d : Nat} (J : zJ3 γ M U A Y th o d) {i : Int} (hi : 0 ≤ i ∧ i + 6 ≤ N) (hkn : k + 4 ≤ 601024 ∧ n + 24 ≤ 7293034) (next : ∀ M' Y' th', zJ3 γ M' U A Y' th' o d → zAW p l e room_1 s m args below meth c γ 9 Q M' (k + 4) (n + 24) 4249 [some (.ref b), some (.ref (U 0)), some (.ref (A 0)), some (.ref o), some (.ref d), some (.int (zi i)), none, none, none] []) : zAW p l e room_1 s m args below meth c γ 9 Q M k n 3683 [some (.ref b), some (.ref (U 0)), some (.ref (A 0)), some (.ref o), some (.ref d), some (.int (zi i)), none, none, none] [] := by
  obtain ⟨hc, hk, hm, hUA, ⟨f0, ho⟩, ⟨g0, hd⟩, hUo, hUd, hAo, hAd, hod⟩ := J
  obtain ⟨fs0, ob0⟩ := hc.ob
  refine z_aload_n C dL_law_3683 rfl ?_
  refine z_aload_n C dL_law_3684 rfl ?_
  refine z_iload C dL_law_3685 rfl ?_
  refine z_iconst C dL_law_3687 ?_
  refine z_iaddZ C dL_law_3688 ?_
  refine z_xld C hXs hbs (by omega) (by omega) dL_law_3689 ?_
  refine z_aload_n C dL_law_3690 rfl ?_
  refine z_iload C dL_law_3691 rfl ?_
  refine z_iconst C dL_law_3693 ?_
  refine z_iaddZ C dL_law_3694 ?_
  refine z_xld C hXs hbs (by omega) (by omega) dL_law_3695 ?_
  refine z_aload_n C dL_law_3696 rfl ?_
  refine z_callSH C dL_law_3697 lkw_setEscapeMethod mwh_L_setEscapeMethod mst_L_setEscapeMethod (w_setEscapeMethod hc hk ho hUo (hys _) (hys _)) rfl (by first | decide | exact Nat.le_of_ble_eq_true rfl) ⟨by decide, by decide, by show _ ≤ 601024; omega, by show _ ≤ 7293034; omega⟩ (fun _ _ h => False.elim h) (fun v M' hp => ?_)
  obtain ⟨rfl, hr, f1, hc1, f2, hx1, hv⟩ := hp
  have hm1 := hm.frm (zUA_f f1 hUA hAo)
  obtain ⟨fs1, ob1⟩ := hm1.ob
  have ho1 := hx1
  have hd1 := f1.at (fun w => (List.mem_cons.mp w).elim (fun w => hod w.symm) (zU_no hUd)) hd
  refine z_istore C dL_law_3700 (by decide) ?_
  refine z_aload_n C dL_law_3702 rfl ?_
  refine z_aload_n C dL_law_3703 rfl ?_
  refine z_iload C dL_law_3704 rfl ?_
  refine z_iconst C dL_law_3706 ?_
  refine z_iaddZ C dL_law_3707 ?_
  refine z_xld C hXs hbs (by omega) (by omega) dL_law_3708 ?_
  refine z_aload_n C dL_law_3709 rfl ?_
  refine z_iload C dL_law_3710 rfl ?_
  refine z_iconst C dL_law_3712 ?_
  refine z_iaddZ C dL_law_3713 ?_
  refine z_xld C hXs hbs (by omega) (by omega) dL_law_3714 ?_
  refine z_callV C dL_law_3715 lk_L_369 mw_X9_setEscapeMethod mi_X9_setEscapeMethod ms_X9_setEscapeMethod rfl ob1 (m_setEscapeMethod hm1 hk (hys _) (hys _)) rfl (by first | decide | exact Nat.le_of_ble_eq_true rfl) ⟨by decide, by decide, by show _ ≤ 601024; omega, by show _ ≤ 7293034; omega⟩ (fun _ _ h => False.elim h) (fun v M' hp => ?_)
  obtain ⟨b1, rfl, fA, hmt, hmf⟩ := hp
  have hm2 := zYs_mo hmt hmf
  have hbv := fun w => (hmt w).2
  have fB : zFr _ _ ((List.range 15).map A) := fA
  have ho2 := fB.at (mAll.no hAo) ho1
  have hd2 := fB.at (mAll.no hAd) hd1
  have J2 : zJ3 γ _ U A _ _ o d := ⟨hc1.frm fB (fun i hi => mAll.no (fun j hj w => hUA i j hi hj w.symm)), (zYs_ok (fun w => ok_setEscapeMethod hk w) hk), hm2, hUA, ⟨_, ho2⟩, ⟨_, hd2⟩, hUo, hUd, hAo, hAd, hod⟩
  obtain ⟨fs2, ob2⟩ := hm2.ob
  refine z_istore C dL_law_3718 (by decide) ?_
  refine z_aload_n C dL_law_3720 rfl ?_
  refine z_callV C dL_law_3721 lk_L_202 mw_X9_thrown mi_X9_thrown ms_X9_thrown rfl ob2 (m_thrown hm2) rfl (by first | decide | exact Nat.le_of_ble_eq_true rfl) ⟨by decide, by decide, by show _ ≤ 601024; omega, by show _ ≤ 7293034; omega⟩ (fun _ _ h => False.elim h) (fun v M' hp => ?_)
  obtain ⟨rfl, rfl⟩ := hp
  refine z_iload C dL_law_3724 rfl ?_
  refine z_icmp_eq (tgt := 3731) C dL_law_3726 (by decide) (fun h3726 => ?_) (fun h3726 => ?_)
  · refine z_iload C dL_law_3731 rfl ?_
    refine z_if_ne (tgt := 3748) C dL_law_3733 (by decide) (fun h3733 => ?_) (fun h3733 => ?_)
    · refine z_goto (tgt := 4249) C dL_law_3748 (by decide) ?_
      exact z_fg (by omega) (by omega) ⟨_, _, _, rfl⟩ (next _ _ _ J2)
    · have z0 := zq_0 hr h3733
      refine z_aload_n C dL_law_3736 rfl ?_
      refine z_iconst C dL_law_3737 ?_
      refine z_aldJ (i := 0) C dL_law_3738 ho2 ⟨by decide, by decide⟩ (by decide) ?_
      refine z_iload C dL_law_3739 rfl ?_
      refine z_i2l C dL_law_3741 ?_
      refine z_lcmp C dL_law_3742 ?_
      refine z_if_eq (tgt := 3748) C dL_law_3743 (by decide) (fun h3743 => ?_) (fun h3743 => ?_)
      · refine z_goto (tgt := 4249) C dL_law_3748 (by decide) ?_
        exact z_fg (by omega) (by omega) ⟨_, _, _, rfl⟩ (next _ _ _ J2)
      · exact absurd (by show lg_cmp (f2 0) (zi b1).toInt64 = 0; rw [hv z0, hbv z0]; exact lg_same _) h3743
  · exact absurd rfl h3726
set_option maxHeartbeats 4000000 in
set_option maxRecDepth 100000 in
theorem cs_endYear (C : zC p l s m args meth c γ cL_law 9 (some .boolean) RL xt) {b N : Nat} {ys : Nat → Int} (hXs : va_X b N (fun j => zi (ys j)) s s.heap) (hbs : b < γ.2.1.size) (hN : N ≤ 3072) (hys : ∀ j, zR (ys j)) {U A : Nat → Nat} {Y : zSys} {th : Int} {o d : Nat} (J : zJ3 γ M U A Y th o d) {i : Int} (hi : 0 ≤ i ∧ i + 6 ≤ N) (hkn : k + 4 ≤ 601024 ∧ n + 24 ≤ 7293034) (next : ∀ M' Y' th', zJ3 γ M' U A Y' th' o d → zAW p l e room_1 s m args below meth c γ 9 Q M' (k + 4) (n + 24) 4249 [some (.ref b), some (.ref (U 0)), some (.ref (A 0)), some (.ref o), some (.ref d), some (.int (zi i)), none, none, none] []) : zAW p l e room_1 s m args below meth c γ 9 Q M k n 3751 [some (.ref b), some (.ref (U 0)), some (.ref (A 0)), some (.ref o), some (.ref d), some (.int (zi i)), none, none, none] [] := by
  obtain ⟨hc, hk, hm, hUA, ⟨f0, ho⟩, ⟨g0, hd⟩, hUo, hUd, hAo, hAd, hod⟩ := J
  obtain ⟨fs0, ob0⟩ := hc.ob
  refine z_aload_n C dL_law_3751 rfl ?_
  refine z_callV C dL_law_3752 lk_L_370 mw_X8_endYear mi_X8_endYear ms_X8_endYear rfl ob0 (k_X8_endYear hc hk) rfl (by first | decide | exact Nat.le_of_ble_eq_true rfl) ⟨by decide, by decide, by show _ ≤ 601024; omega, by show _ ≤ 7293034; omega⟩ (fun E M' hp => by obtain ⟨-, ⟨w, -⟩ | ⟨w, -⟩⟩ := hp <;> exact absurd w (by show ¬ (0 : Int) = _; decide)) (fun v M' hp => ?_)
  obtain ⟨hok, h0, rfl⟩ := hp
  have hm1 := hm.frm (zUA_f (fun b hb => hok.1 b (fun w => hb (List.mem_cons_of_mem _ w))) hUA hAo)
  obtain ⟨fs1, ob1⟩ := hm1.ob
  have hc1 := hok.2
  have ho1 := hok.1.at (zU_no hUo) ho
  have hd1 := hok.1.at (zU_no hUd) hd
  refine z_aload_n C dL_law_3755 rfl ?_
  refine z_callV C dL_law_3756 lk_L_373 mw_X9_endYear mi_X9_endYear ms_X9_endYear rfl ob1 (m_endYear hm1 hk) rfl (by first | decide | exact Nat.le_of_ble_eq_true rfl) ⟨by decide, by decide, by show _ ≤ 601024; omega, by show _ ≤ 7293034; omega⟩ (fun _ _ h => False.elim h) (fun v M' hp => ?_)
  obtain ⟨b1, rfl, fA, hmt, hmf⟩ := hp
  have hm2 := (hmt rfl).1
  have hbv := fun (_ : (0 : Int) = 0) => (hmt rfl).2
  have fB : zFr _ _ ((List.range 15).map A) := fA
  have J2 : zJ3 γ _ U A (y_endYear Y) _ o d := ⟨hc1.frm fB (fun i hi => mAll.no (fun j hj w => hUA i j hi hj w.symm)), ok_endYear hk, hm2, hUA, ⟨_, fB.at (mAll.no hAo) ho1⟩, ⟨_, fB.at (mAll.no hAd) hd1⟩, hUo, hUd, hAo, hAd, hod⟩
  refine z_icmp_eq (tgt := 4249) C dL_law_3759 (by decide) (fun h3759 => ?_) (fun h3759 => ?_)
  · exact z_fg (by omega) (by omega) ⟨_, _, _, rfl⟩ (next _ _ _ J2)
  · exact absurd (hbv rfl).symm h3759
set_option maxHeartbeats 4000000 in
set_option maxRecDepth 100000 in
theorem cs_merge (C : zC p l s m args meth c γ cL_law 9 (some .boolean) RL xt) {b N : Nat} {ys : Nat → Int} (hXs : va_X b N (fun j => zi (ys j)) s s.heap) (hbs : b < γ.2.1.size) (hN : N ≤ 3072) (hys : ∀ j, zR (ys j)) {U A : Nat → Nat} {Y : zSys} {th : Int} {o d : Nat} (J : zJ3 γ M U A Y th o d) {i : Int} (hi : 0 ≤ i ∧ i + 6 ≤ N) (hkn : k + 4 ≤ 601024 ∧ n + 24 ≤ 7293034) (next : ∀ M' Y' th', zJ3 γ M' U A Y' th' o d → zAW p l e room_1 s m args below meth c γ 9 Q M' (k + 4) (n + 24) 4249 [some (.ref b), some (.ref (U 0)), some (.ref (A 0)), some (.ref o), some (.ref d), some (.int (zi i)), none, none, none] []) : zAW p l e room_1 s m args below meth c γ 9 Q M k n 3764 [some (.ref b), some (.ref (U 0)), some (.ref (A 0)), some (.ref o), some (.ref d), some (.int (zi i)), none, none, none] [] := by
  obtain ⟨hc, hk, hm, hUA, ⟨f0, ho⟩, ⟨g0, hd⟩, hUo, hUd, hAo, hAd, hod⟩ := J
  obtain ⟨fs0, ob0⟩ := hc.ob
  refine z_aload_n C dL_law_3764 rfl ?_
  refine z_aload_n C dL_law_3765 rfl ?_
  refine z_iload C dL_law_3766 rfl ?_
  refine z_iconst C dL_law_3768 ?_
  refine z_iaddZ C dL_law_3769 ?_
  refine z_xld C hXs hbs (by omega) (by omega) dL_law_3770 ?_
  refine z_aload_n C dL_law_3771 rfl ?_
  refine z_iload C dL_law_3772 rfl ?_
  refine z_iconst C dL_law_3774 ?_
  refine z_iaddZ C dL_law_3775 ?_
  refine z_xld C hXs hbs (by omega) (by omega) dL_law_3776 ?_
  refine z_aload_n C dL_law_3777 rfl ?_
  refine z_callSH C dL_law_3778 lkw_merge mwh_L_merge mst_L_merge (w_merge hc hk ho hUo (hys _) (hys _)) rfl (by first | decide | exact Nat.le_of_ble_eq_true rfl) ⟨by decide, by decide, by show _ ≤ 601024; omega, by show _ ≤ 7293034; omega⟩ (fun _ _ h => False.elim h) (fun v M' hp => ?_)
  obtain ⟨rfl, hr, f1, hc1, f2, hx1, hv⟩ := hp
  have hm1 := hm.frm (zUA_f f1 hUA hAo)
  obtain ⟨fs1, ob1⟩ := hm1.ob
  have ho1 := hx1
  have hd1 := f1.at (fun w => (List.mem_cons.mp w).elim (fun w => hod w.symm) (zU_no hUd)) hd
  refine z_istore C dL_law_3781 (by decide) ?_
  refine z_aload_n C dL_law_3783 rfl ?_
  refine z_aload_n C dL_law_3784 rfl ?_
  refine z_iload C dL_law_3785 rfl ?_
  refine z_iconst C dL_law_3787 ?_
  refine z_iaddZ C dL_law_3788 ?_
  refine z_xld C hXs hbs (by omega) (by omega) dL_law_3789 ?_
  refine z_aload_n C dL_law_3790 rfl ?_
  refine z_iload C dL_law_3791 rfl ?_
  refine z_iconst C dL_law_3793 ?_
  refine z_iaddZ C dL_law_3794 ?_
  refine z_xld C hXs hbs (by omega) (by omega) dL_law_3795 ?_
  refine z_callV C dL_law_3796 lk_L_376 mw_X9_merge mi_X9_merge ms_X9_merge rfl ob1 (m_merge hm1 hk (hys _) (hys _)) rfl (by first | decide | exact Nat.le_of_ble_eq_true rfl) ⟨by decide, by decide, by show _ ≤ 601024; omega, by show _ ≤ 7293034; omega⟩ (fun _ _ h => False.elim h) (fun v M' hp => ?_)
  obtain ⟨b1, rfl, fA, hmt, hmf⟩ := hp
  have hm2 := zYs_mo hmt hmf
  have hbv := fun w => (hmt w).2
  have fB : zFr _ _ ((List.range 15).map A) := fA
  have ho2 := fB.at (mAll.no hAo) ho1
  have hd2 := fB.at (mAll.no hAd) hd1
  have J2 : zJ3 γ _ U A _ _ o d := ⟨hc1.frm fB (fun i hi => mAll.no (fun j hj w => hUA i j hi hj w.symm)), (zYs_ok (fun w => ok_merge hk w) hk), hm2, hUA, ⟨_, ho2⟩, ⟨_, hd2⟩, hUo, hUd, hAo, hAd, hod⟩
  obtain ⟨fs2, ob2⟩ := hm2.ob
  refine z_istore C dL_law_3799 (by decide) ?_
  refine z_aload_n C dL_law_3801 rfl ?_
  refine z_callV C dL_law_3802 lk_L_202 mw_X9_thrown mi_X9_thrown ms_X9_thrown rfl ob2 (m_thrown hm2) rfl (by first | decide | exact Nat.le_of_ble_eq_true rfl) ⟨by decide, by decide, by show _ ≤ 601024; omega, by show _ ≤ 7293034; omega⟩ (fun _ _ h => False.elim h) (fun v M' hp => ?_)
  obtain ⟨rfl, rfl⟩ := hp
  refine z_iload C dL_law_3805 rfl ?_
  refine z_icmp_eq (tgt := 3812) C dL_law_3807 (by decide) (fun h3807 => ?_) (fun h3807 => ?_)
  · refine z_iload C dL_law_3812 rfl ?_
    refine z_if_ne (tgt := 3829) C dL_law_3814 (by decide) (fun h3814 => ?_) (fun h3814 => ?_)
    · refine z_goto (tgt := 4249) C dL_law_3829 (by decide) ?_
      exact z_fg (by omega) (by omega) ⟨_, _, _, rfl⟩ (next _ _ _ J2)
    · have z0 := zq_0 hr h3814
      refine z_aload_n C dL_law_3817 rfl ?_
      refine z_iconst C dL_law_3818 ?_
      refine z_aldJ (i := 0) C dL_law_3819 ho2 ⟨by decide, by decide⟩ (by decide) ?_
      refine z_iload C dL_law_3820 rfl ?_
      refine z_i2l C dL_law_3822 ?_
      refine z_lcmp C dL_law_3823 ?_
      refine z_if_eq (tgt := 3829) C dL_law_3824 (by decide) (fun h3824 => ?_) (fun h3824 => ?_)
      · refine z_goto (tgt := 4249) C dL_law_3829 (by decide) ?_
        exact z_fg (by omega) (by omega) ⟨_, _, _, rfl⟩ (next _ _ _ J2)
      · exact absurd (by show lg_cmp (f2 0) (zi b1).toInt64 = 0; rw [hv z0, hbv z0]; exact lg_same _) h3824
  · exact absurd rfl h3807
set_option maxHeartbeats 4000000 in
set_option maxRecDepth 100000 in
theorem cs_encode (C : zC p l s m args meth c γ cL_law 9 (some .boolean) RL xt) {b N : Nat} {ys : Nat → Int} (hXs : va_X b N (fun j => zi (ys j)) s s.heap) (hbs : b < γ.2.1.size) (hN : N ≤ 3072) (hys : ∀ j, zR (ys j)) {U A : Nat → Nat} {Y : zSys} {th : Int} {o d : Nat} (J : zJ3 γ M U A Y th o d) {i : Int} (hi : 0 ≤ i ∧ i + 6 ≤ N) (hkn : k + 4 ≤ 601024 ∧ n + 24 ≤ 7293034) (next : ∀ M' Y' th', zJ3 γ M' U A Y' th' o d → zAW p l e room_1 s m args below meth c γ 9 Q M' (k + 4) (n + 24) 4249 [some (.ref b), some (.ref (U 0)), some (.ref (A 0)), some (.ref o), some (.ref d), some (.int (zi i)), none, none, none] []) : zAW p l e room_1 s m args below meth c γ 9 Q M k n 3832 [some (.ref b), some (.ref (U 0)), some (.ref (A 0)), some (.ref o), some (.ref d), some (.int (zi i)), none, none, none] [] := by
  obtain ⟨hc, hk, hm, hUA, ⟨f0, ho⟩, ⟨g0, hd⟩, hUo, hUd, hAo, hAd, hod⟩ := J
  obtain ⟨fs0, ob0⟩ := hc.ob
  refine z_aload_n C dL_law_3832 rfl ?_
  refine z_aload_n C dL_law_3833 rfl ?_
  refine z_iload C dL_law_3834 rfl ?_
  refine z_iconst C dL_law_3836 ?_
  refine z_iaddZ C dL_law_3837 ?_
  refine z_xld C hXs hbs (by omega) (by omega) dL_law_3838 ?_
  refine z_aload_n C dL_law_3839 rfl ?_
  refine z_iload C dL_law_3840 rfl ?_
  refine z_iconst C dL_law_3842 ?_
  refine z_iaddZ C dL_law_3843 ?_
  refine z_xld C hXs hbs (by omega) (by omega) dL_law_3844 ?_
  refine z_aload_n C dL_law_3845 rfl ?_
  refine z_callSH C dL_law_3846 lkw_encode mwh_L_encode mst_L_encode (w_encode hc hk ho hUo (hys _) (hys _)) rfl (by first | decide | exact Nat.le_of_ble_eq_true rfl) ⟨by decide, by decide, by show _ ≤ 601024; omega, by show _ ≤ 7293034; omega⟩ (fun _ _ h => False.elim h) (fun v M' hp => ?_)
  obtain ⟨rfl, hr, f1, hc1, f2, hx1, hv⟩ := hp
  have hm1 := hm.frm (zUA_f f1 hUA hAo)
  obtain ⟨fs1, ob1⟩ := hm1.ob
  have ho1 := hx1
  have hd1 := f1.at (fun w => (List.mem_cons.mp w).elim (fun w => hod w.symm) (zU_no hUd)) hd
  refine z_istore C dL_law_3849 (by decide) ?_
  refine z_aload_n C dL_law_3851 rfl ?_
  refine z_aload_n C dL_law_3852 rfl ?_
  refine z_iload C dL_law_3853 rfl ?_
  refine z_iconst C dL_law_3855 ?_
  refine z_iaddZ C dL_law_3856 ?_
  refine z_xld C hXs hbs (by omega) (by omega) dL_law_3857 ?_
  refine z_aload_n C dL_law_3858 rfl ?_
  refine z_iload C dL_law_3859 rfl ?_
  refine z_iconst C dL_law_3861 ?_
  refine z_iaddZ C dL_law_3862 ?_
  refine z_xld C hXs hbs (by omega) (by omega) dL_law_3863 ?_
  refine z_callV C dL_law_3864 lk_L_379 mw_X9_encode mi_X9_encode ms_X9_encode rfl ob1 (m_encode hm1 hk (hys _) (hys _)) rfl (by first | decide | exact Nat.le_of_ble_eq_true rfl) ⟨by decide, by decide, by show _ ≤ 601024; omega, by show _ ≤ 7293034; omega⟩ (fun _ _ h => False.elim h) (fun v M' hp => ?_)
  obtain ⟨b1, rfl, fA, hmt, hmf⟩ := hp
  have hm2 := zYs_mo hmt hmf
  have hbv := fun w => (hmt w).2
  have fB : zFr _ _ ((List.range 15).map A) := fA
  have ho2 := fB.at (mAll.no hAo) ho1
  have hd2 := fB.at (mAll.no hAd) hd1
  have J2 : zJ3 γ _ U A _ _ o d := ⟨hc1.frm fB (fun i hi => mAll.no (fun j hj w => hUA i j hi hj w.symm)), (zYs_ok (fun w => ok_encode hk _ _) hk), hm2, hUA, ⟨_, ho2⟩, ⟨_, hd2⟩, hUo, hUd, hAo, hAd, hod⟩
  obtain ⟨fs2, ob2⟩ := hm2.ob
  refine z_istore C dL_law_3867 (by decide) ?_
  refine z_aload_n C dL_law_3869 rfl ?_
  refine z_callV C dL_law_3870 lk_L_202 mw_X9_thrown mi_X9_thrown ms_X9_thrown rfl ob2 (m_thrown hm2) rfl (by first | decide | exact Nat.le_of_ble_eq_true rfl) ⟨by decide, by decide, by show _ ≤ 601024; omega, by show _ ≤ 7293034; omega⟩ (fun _ _ h => False.elim h) (fun v M' hp => ?_)
  obtain ⟨rfl, rfl⟩ := hp
  refine z_iload C dL_law_3873 rfl ?_
  refine z_icmp_eq (tgt := 3880) C dL_law_3875 (by decide) (fun h3875 => ?_) (fun h3875 => ?_)
  · refine z_iload C dL_law_3880 rfl ?_
    refine z_if_ne (tgt := 3897) C dL_law_3882 (by decide) (fun h3882 => ?_) (fun h3882 => ?_)
    · refine z_goto (tgt := 4249) C dL_law_3897 (by decide) ?_
      exact z_fg (by omega) (by omega) ⟨_, _, _, rfl⟩ (next _ _ _ J2)
    · have z0 := zq_0 hr h3882
      refine z_aload_n C dL_law_3885 rfl ?_
      refine z_iconst C dL_law_3886 ?_
      refine z_aldJ (i := 0) C dL_law_3887 ho2 ⟨by decide, by decide⟩ (by decide) ?_
      refine z_iload C dL_law_3888 rfl ?_
      refine z_i2l C dL_law_3890 ?_
      refine z_lcmp C dL_law_3891 ?_
      refine z_if_eq (tgt := 3897) C dL_law_3892 (by decide) (fun h3892 => ?_) (fun h3892 => ?_)
      · refine z_goto (tgt := 4249) C dL_law_3897 (by decide) ?_
        exact z_fg (by omega) (by omega) ⟨_, _, _, rfl⟩ (next _ _ _ J2)
      · exact absurd (by show lg_cmp (f2 0) (zi b1).toInt64 = 0; rw [hv z0, hbv z0]; exact lg_same _) h3892
  · exact absurd rfl h3875
set_option maxHeartbeats 4000000 in
set_option maxRecDepth 100000 in
theorem cs_decode (C : zC p l s m args meth c γ cL_law 9 (some .boolean) RL xt) {b N : Nat} {ys : Nat → Int} (hXs : va_X b N (fun j => zi (ys j)) s s.heap) (hbs : b < γ.2.1.size) (hN : N ≤ 3072) (hys : ∀ j, zR (ys j)) {U A : Nat → Nat} {Y : zSys} {th : Int} {o d : Nat} (J : zJ3 γ M U A Y th o d) {i : Int} (hi : 0 ≤ i ∧ i + 6 ≤ N) (hkn : k + 4 ≤ 601024 ∧ n + 24 ≤ 7293034) (next : ∀ M' Y' th', zJ3 γ M' U A Y' th' o d → zAW p l e room_1 s m args below meth c γ 9 Q M' (k + 4) (n + 24) 4249 [some (.ref b), some (.ref (U 0)), some (.ref (A 0)), some (.ref o), some (.ref d), some (.int (zi i)), none, none, none] []) : zAW p l e room_1 s m args below meth c γ 9 Q M k n 3900 [some (.ref b), some (.ref (U 0)), some (.ref (A 0)), some (.ref o), some (.ref d), some (.int (zi i)), none, none, none] [] := by
  obtain ⟨hc, hk, hm, hUA, ⟨f0, ho⟩, ⟨g0, hd⟩, hUo, hUd, hAo, hAd, hod⟩ := J
  obtain ⟨fs0, ob0⟩ := hc.ob
  refine z_aload_n C dL_law_3900 rfl ?_
  refine z_aload_n C dL_law_3901 rfl ?_
  refine z_iload C dL_law_3902 rfl ?_
  refine z_iconst C dL_law_3904 ?_
  refine z_iaddZ C dL_law_3905 ?_
  refine z_xld C hXs hbs (by omega) (by omega) dL_law_3906 ?_
  refine z_aload_n C dL_law_3907 rfl ?_
  refine z_callSH C dL_law_3908 lkw_decode mwh_L_decode mst_L_decode (w_decode hc hk ho hUo (hys _)) rfl (by first | decide | exact Nat.le_of_ble_eq_true rfl) ⟨by decide, by decide, by show _ ≤ 601024; omega, by show _ ≤ 7293034; omega⟩ (fun _ _ h => False.elim h) (fun v M' hp => ?_)
  obtain ⟨rfl, hr, f1, hc1, f2, hx1, hv⟩ := hp
  have hm1 := hm.frm (zUA_f f1 hUA hAo)
  obtain ⟨fs1, ob1⟩ := hm1.ob
  have ho1 := hx1
  have hd1 := f1.at (fun w => (List.mem_cons.mp w).elim (fun w => hod w.symm) (zU_no hUd)) hd
  refine z_istore C dL_law_3911 (by decide) ?_
  refine z_aload_n C dL_law_3913 rfl ?_
  refine z_aload_n C dL_law_3914 rfl ?_
  refine z_iload C dL_law_3915 rfl ?_
  refine z_iconst C dL_law_3917 ?_
  refine z_iaddZ C dL_law_3918 ?_
  refine z_xld C hXs hbs (by omega) (by omega) dL_law_3919 ?_
  refine z_callV C dL_law_3920 lk_L_382 mw_X9_decode mi_X9_decode ms_X9_decode rfl ob1 (m_decode hm1 hk (hys _)) rfl (by first | decide | exact Nat.le_of_ble_eq_true rfl) ⟨by decide, by decide, by show _ ≤ 601024; omega, by show _ ≤ 7293034; omega⟩ (fun _ _ h => False.elim h) (fun v M' hp => ?_)
  obtain ⟨b1, rfl, fA, hmt, hmf⟩ := hp
  have hm2 := zYs_mo hmt hmf
  have hbv := fun w => (hmt w).2
  have fB : zFr _ _ ((List.range 15).map A) := fA
  have ho2 := fB.at (mAll.no hAo) ho1
  have hd2 := fB.at (mAll.no hAd) hd1
  have J2 : zJ3 γ _ U A _ _ o d := ⟨hc1.frm fB (fun i hi => mAll.no (fun j hj w => hUA i j hi hj w.symm)), (zYs_ok (fun w => ok_decode hk _) hk), hm2, hUA, ⟨_, ho2⟩, ⟨_, hd2⟩, hUo, hUd, hAo, hAd, hod⟩
  obtain ⟨fs2, ob2⟩ := hm2.ob
  refine z_istore C dL_law_3923 (by decide) ?_
  refine z_aload_n C dL_law_3925 rfl ?_
  refine z_callV C dL_law_3926 lk_L_202 mw_X9_thrown mi_X9_thrown ms_X9_thrown rfl ob2 (m_thrown hm2) rfl (by first | decide | exact Nat.le_of_ble_eq_true rfl) ⟨by decide, by decide, by show _ ≤ 601024; omega, by show _ ≤ 7293034; omega⟩ (fun _ _ h => False.elim h) (fun v M' hp => ?_)
  obtain ⟨rfl, rfl⟩ := hp
  refine z_iload C dL_law_3929 rfl ?_
  refine z_icmp_eq (tgt := 3936) C dL_law_3931 (by decide) (fun h3931 => ?_) (fun h3931 => ?_)
  · refine z_iload C dL_law_3936 rfl ?_
    refine z_if_ne (tgt := 3953) C dL_law_3938 (by decide) (fun h3938 => ?_) (fun h3938 => ?_)
    · refine z_goto (tgt := 4249) C dL_law_3953 (by decide) ?_
      exact z_fg (by omega) (by omega) ⟨_, _, _, rfl⟩ (next _ _ _ J2)
    · have z0 := zq_0 hr h3938
      refine z_aload_n C dL_law_3941 rfl ?_
      refine z_iconst C dL_law_3942 ?_
      refine z_aldJ (i := 0) C dL_law_3943 ho2 ⟨by decide, by decide⟩ (by decide) ?_
      refine z_iload C dL_law_3944 rfl ?_
      refine z_i2l C dL_law_3946 ?_
      refine z_lcmp C dL_law_3947 ?_
      refine z_if_eq (tgt := 3953) C dL_law_3948 (by decide) (fun h3948 => ?_) (fun h3948 => ?_)
      · refine z_goto (tgt := 4249) C dL_law_3953 (by decide) ?_
        exact z_fg (by omega) (by omega) ⟨_, _, _, rfl⟩ (next _ _ _ J2)
      · exact absurd (by show lg_cmp (f2 0) (zi b1).toInt64 = 0; rw [hv z0, hbv z0]; exact lg_same _) h3948
  · exact absurd rfl h3931
end CSi

