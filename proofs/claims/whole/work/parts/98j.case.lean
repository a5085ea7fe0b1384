/-! the law's cases: writeExpected, outputByte, save, restore, undo, undoDepth -/
section CSj
variable {p : Program} {l : Launch} {e : Env} {s : State} {m : MethodId} {args : Array Value} {below : List Frame} {meth : Method} {c : Code} {γ : zG} {Q : State → Prop} {M : zM} {k n : Nat} {xt : List ExceptionTableEntry}
set_option maxHeartbeats 4000000 in
set_option maxRecDepth 100000 in
theorem cs_writeExpected (C : zC p l s m args meth c γ cL_law 9 (some .boolean) RL xt) {b N : Nat} {ys : Nat → Int} (hXs : va_X b N (fun j => zi (ys j)) s s.heap) (hbs : b < γ.2.1.size) (hN : N ≤ 3072) (hys : ∀ j, zR (ys j)) {U A : Nat → Nat} {Y : zSys} {th : Int} {o d : Nat} (J : zJ3 γ M U A Y th o d) {i : Int} (hi : 0 ≤ i ∧ i + 6 ≤ N) (hkn : k + 4 ≤ 601024 ∧ n + 24 ≤ 7293034) (next : ∀ M' Y' th', zJ3 γ M' U A Y' th' o d → zAW p l e room_1 s m args below meth c γ 9 Q M' (k + 4) (n + 24) 4249 [some (.ref b), some (.ref (U 0)), some (.ref (A 0)), some (.ref o), some (.ref d), some (.int (zi i)), none, none, none] []) : zAW p l e room_1 s m args below meth c γ 9 Q M k n 3956 [some (.ref b), some (.ref (U 0)), some (.ref (A 0)), some (.ref o), some (.ref d), some (.int (zi i)), none, none, none] [] := by
  obtain ⟨hc, hk, hm, hUA, ⟨f0, ho⟩, ⟨g0, hd⟩, hUo, hUd, hAo, hAd, hod⟩ := J
  obtain ⟨fs0, ob0⟩ := hc.ob
  refine z_aload_n C dL_law_3956 rfl ?_
  refine z_aload_n C dL_law_3957 rfl ?_
  refine z_iload C dL_law_3958 rfl ?_
  refine z_iconst C dL_law_3960 ?_
  refine z_iaddZ C dL_law_3961 ?_
  refine z_xld C hXs hbs (by omega) (by omega) dL_law_3962 ?_
  refine z_aload_n C dL_law_3963 rfl ?_
  refine z_iload C dL_law_3964 rfl ?_
  refine z_iconst C dL_law_3966 ?_
  refine z_iaddZ C dL_law_3967 ?_
  refine z_xld C hXs hbs (by omega) (by omega) dL_law_3968 ?_
  refine z_aload_n C dL_law_3969 rfl ?_
  refine z_callSH C dL_law_3970 lkw_writeExpected mwh_L_writeExpected mst_L_writeExpected (w_writeExpected hc hk ho hUo (hys _) (hys _)) rfl (by first | decide | exact Nat.le_of_ble_eq_true rfl) ⟨by decide, by decide, by show _ ≤ 601024; omega, by show _ ≤ 7293034; omega⟩ (fun _ _ h => False.elim h) (fun v M' hp => ?_)
  obtain ⟨rfl, hr, f1, hc1, f2, hx1, hv⟩ := hp
  have hm1 := hm.frm (zUA_f f1 hUA hAo)
  obtain ⟨fs1, ob1⟩ := hm1.ob
  have ho1 := hx1
  have hd1 := f1.at (fun w => (List.mem_cons.mp w).elim (fun w => hod w.symm) (zU_no hUd)) hd
  refine z_istore C dL_law_3973 (by decide) ?_
  refine z_aload_n C dL_law_3975 rfl ?_
  refine z_aload_n C dL_law_3976 rfl ?_
  refine z_iload C dL_law_3977 rfl ?_
  refine z_iconst C dL_law_3979 ?_
  refine z_iaddZ C dL_law_3980 ?_
  refine z_xld C hXs hbs (by omega) (by omega) dL_law_3981 ?_
  refine z_aload_n C dL_law_3982 rfl ?_
  refine z_iload C dL_law_3983 rfl ?_
  refine z_iconst C dL_law_3985 ?_
  refine z_iaddZ C dL_law_3986 ?_
  refine z_xld C hXs hbs (by omega) (by omega) dL_law_3987 ?_
  refine z_callV C dL_law_3988 lk_L_385 mw_X9_writeExpected mi_X9_writeExpected ms_X9_writeExpected rfl ob1 (m_writeExpected hm1 hk (hys _) (hys _)) rfl (by first | decide | exact Nat.le_of_ble_eq_true rfl) ⟨by decide, by decide, by show _ ≤ 601024; omega, by show _ ≤ 7293034; omega⟩ (fun _ _ h => False.elim h) (fun v M' hp => ?_)
  obtain ⟨b1, rfl, fA, hmt, hmf⟩ := hp
  have hm2 := zYs_mo hmt hmf
  have hbv := fun w => (hmt w).2
  have fB : zFr _ _ ((List.range 15).map A) := fA
  have ho2 := fB.at (mAll.no hAo) ho1
  have hd2 := fB.at (mAll.no hAd) hd1
  have J2 : zJ3 γ _ U A _ _ o d := ⟨hc1.frm fB (fun i hi => mAll.no (fun j hj w => hUA i j hi hj w.symm)), (zYs_ok (fun w => ok_writeExpected hk _ _) hk), hm2, hUA, ⟨_, ho2⟩, ⟨_, hd2⟩, hUo, hUd, hAo, hAd, hod⟩
  obtain ⟨fs2, ob2⟩ := hm2.ob
  refine z_istore C dL_law_3991 (by decide) ?_
  refine z_aload_n C dL_law_3993 rfl ?_
  refine z_callV C dL_law_3994 lk_L_202 mw_X9_thrown mi_X9_thrown ms_X9_thrown rfl ob2 (m_thrown hm2) rfl (by first | decide | exact Nat.le_of_ble_eq_true rfl) ⟨by decide, by decide, by show _ ≤ 601024; omega, by show _ ≤ 7293034; omega⟩ (fun _ _ h => False.elim h) (fun v M' hp => ?_)
  obtain ⟨rfl, rfl⟩ := hp
  refine z_iload C dL_law_3997 rfl ?_
  refine z_icmp_eq (tgt := 4004) C dL_law_3999 (by decide) (fun h3999 => ?_) (fun h3999 => ?_)
  · refine z_iload C dL_law_4004 rfl ?_
    refine z_if_ne (tgt := 4021) C dL_law_4006 (by decide) (fun h4006 => ?_) (fun h4006 => ?_)
    · refine z_goto (tgt := 4249) C dL_law_4021 (by decide) ?_
      exact z_fg (by omega) (by omega) ⟨_, _, _, rfl⟩ (next _ _ _ J2)
    · have z0 := zq_0 hr h4006
      refine z_aload_n C dL_law_4009 rfl ?_
      refine z_iconst C dL_law_4010 ?_
      refine z_aldJ (i := 0) C dL_law_4011 ho2 ⟨by decide, by decide⟩ (by decide) ?_
      refine z_iload C dL_law_4012 rfl ?_
      refine z_i2l C dL_law_4014 ?_
      refine z_lcmp C dL_law_4015 ?_
      refine z_if_eq (tgt := 4021) C dL_law_4016 (by decide) (fun h4016 => ?_) (fun h4016 => ?_)
      · refine z_goto (tgt := 4249) C dL_law_4021 (by decide) ?_
        exact z_fg (by omega) (by omega) ⟨_, _, _, rfl⟩ (next _ _ _ J2)
      · exact absurd (by show lg_cmp (f2 0) (zi b1).toInt64 = 0; rw [hv z0, hbv z0]; exact lg_same _) h4016
  · exact absurd rfl h3999
set_option maxHeartbeats 4000000 in
set_option maxRecDepth 100000 in
theorem cs_outputByte (C : zC p l s m args meth c γ cL_law 9 (some .boolean) RL xt) {b N : Nat} {ys : Nat → Int} (hXs : va_X b N (fun j => zi (ys j)) s s.heap) (hbs : b < γ.2.1.size) (hN : N ≤ 3072) (hys : ∀ j, zR (ys j)) {U A : Nat → Nat} {Y : zSys} {th : Int} {o d : Nat} (J : zJ3 γ M U A Y th o d) {i : Int} (hi : 0 ≤ i ∧ i + 6 ≤ N) (hkn : k + 4 ≤ 601024 ∧ n + 24 ≤ 7293034) (next : ∀ M' Y' th', zJ3 γ M' U A Y' th' o d → zAW p l e room_1 s m args below meth c γ 9 Q M' (k + 4) (n + 24) 4249 [some (.ref b), some (.ref (U 0)), some (.ref (A 0)), some (.ref o), some (.ref d), some (.int (zi i)), none, none, none] []) : zAW p l e room_1 s m args below meth c γ 9 Q M k n 4024 [some (.ref b), some (.ref (U 0)), some (.ref (A 0)), some (.ref o), some (.ref d), some (.int (zi i)), none, none, none] [] := by
  obtain ⟨hc, hk, hm, hUA, ⟨f0, ho⟩, ⟨g0, hd⟩, hUo, hUd, hAo, hAd, hod⟩ := J
  obtain ⟨fs0, ob0⟩ := hc.ob
  refine z_aload_n C dL_law_4024 rfl ?_
  refine z_aload_n C dL_law_4025 rfl ?_
  refine z_iload C dL_law_4026 rfl ?_
  refine z_iconst C dL_law_4028 ?_
  refine z_iaddZ C dL_law_4029 ?_
  refine z_xld C hXs hbs (by omega) (by omega) dL_law_4030 ?_
  refine z_aload_n C dL_law_4031 rfl ?_
  refine z_callSH C dL_law_4032 lkw_outputByte mwh_L_outputByte mst_L_outputByte (w_outputByte hc hk ho hUo (hys _)) rfl (by first | decide | exact Nat.le_of_ble_eq_true rfl) ⟨by decide, by decide, by show _ ≤ 601024; omega, by show _ ≤ 7293034; omega⟩ (fun _ _ h => False.elim h) (fun v M' hp => ?_)
  obtain ⟨rfl, hr, f1, hc1, f2, hx1, hv⟩ := hp
  have hm1 := hm.frm (zUA_f f1 hUA hAo)
  obtain ⟨fs1, ob1⟩ := hm1.ob
  have ho1 := hx1
  have hd1 := f1.at (fun w => (List.mem_cons.mp w).elim (fun w => hod w.symm) (zU_no hUd)) hd
  refine z_istore C dL_law_4035 (by decide) ?_
  refine z_aload_n C dL_law_4037 rfl ?_
  refine z_aload_n C dL_law_4038 rfl ?_
  refine z_iload C dL_law_4039 rfl ?_
  refine z_iconst C dL_law_4041 ?_
  refine z_iaddZ C dL_law_4042 ?_
  refine z_xld C hXs hbs (by omega) (by omega) dL_law_4043 ?_
  refine z_callV C dL_law_4044 lk_L_388 mw_X9_outputByte mi_X9_outputByte ms_X9_outputByte rfl ob1 (m_outputByte hm1 (hys _)) rfl (by first | decide | exact Nat.le_of_ble_eq_true rfl) ⟨by decide, by decide, by show _ ≤ 601024; omega, by show _ ≤ 7293034; omega⟩ (fun _ _ h => False.elim h) (fun v M' hp => ?_)
  obtain ⟨b1, rfl, fA, hm2, hbv⟩ := hp
  have fB : zFr _ _ ((List.range 15).map A) := fA
  have ho2 := fB.at (mAll.no hAo) ho1
  have hd2 := fB.at (mAll.no hAd) hd1
  have J2 : zJ3 γ _ U A _ _ o d := ⟨hc1.frm fB (fun i hi => mAll.no (fun j hj w => hUA i j hi hj w.symm)), hk, hm2, hUA, ⟨_, ho2⟩, ⟨_, hd2⟩, hUo, hUd, hAo, hAd, hod⟩
  obtain ⟨fs2, ob2⟩ := hm2.ob
  refine z_istore C dL_law_4047 (by decide) ?_
  refine z_aload_n C dL_law_4049 rfl ?_
  refine z_callV C dL_law_4050 lk_L_202 mw_X9_thrown mi_X9_thrown ms_X9_thrown rfl ob2 (m_thrown hm2) rfl (by first | decide | exact Nat.le_of_ble_eq_true rfl) ⟨by decide, by decide, by show _ ≤ 601024; omega, by show _ ≤ 7293034; omega⟩ (fun _ _ h => False.elim h) (fun v M' hp => ?_)
  obtain ⟨rfl, rfl⟩ := hp
  refine z_iload C dL_law_4053 rfl ?_
  refine z_icmp_eq (tgt := 4060) C dL_law_4055 (by decide) (fun h4055 => ?_) (fun h4055 => ?_)
  · refine z_iload C dL_law_4060 rfl ?_
    refine z_if_ne (tgt := 4077) C dL_law_4062 (by decide) (fun h4062 => ?_) (fun h4062 => ?_)
    · refine z_goto (tgt := 4249) C dL_law_4077 (by decide) ?_
      exact z_fg (by omega) (by omega) ⟨_, _, _, rfl⟩ (next _ _ _ J2)
    · have z0 := zq_0 hr h4062
      refine z_aload_n C dL_law_4065 rfl ?_
      refine z_iconst C dL_law_4066 ?_
      refine z_aldJ (i := 0) C dL_law_4067 ho2 ⟨by decide, by decide⟩ (by decide) ?_
      refine z_iload C dL_law_4068 rfl ?_
      refine z_i2l C dL_law_4070 ?_
      refine z_lcmp C dL_law_4071 ?_
      refine z_if_eq (tgt := 4077) C dL_law_4072 (by decide) (fun h4072 => ?_) (fun h4072 => ?_)
      · refine z_goto (tgt := 4249) C dL_law_4077 (by decide) ?_
        exact z_fg (by omega) (by omega) ⟨_, _, _, rfl⟩ (next _ _ _ J2)
      · exact absurd (by show lg_cmp (f2 0) (zi b1).toInt64 = 0; rw [hv z0, hbv z0]; exact lg_same _) h4072
  · exact absurd rfl h4055
set_option maxHeartbeats 4000000 in
set_option maxRecDepth 100000 in
theorem cs_save (C : zC p l s m args meth c γ cL_law 9 (some .boolean) RL xt) {b N : Nat} {ys : Nat → Int} (hXs : va_X b N (fun j => zi (ys j)) s s.heap) (hbs : b < γ.2.1.size) (hN : N ≤ 3072) (hys : ∀ j, zR (ys j)) {U A : Nat → Nat} {Y : zSys} {th : Int} {o d : Nat} (J : zJ3 γ M U A Y th o d) {i : Int} (hi : 0 ≤ i ∧ i + 6 ≤ N) (hkn : k + 4 ≤ 601024 ∧ n + 24 ≤ 7293034) (next : ∀ M' Y' th', zJ3 γ M' U A Y' th' o d → zAW p l e room_1 s m args below meth c γ 9 Q M' (k + 4) (n + 24) 4249 [some (.ref b), some (.ref (U 0)), some (.ref (A 0)), some (.ref o), some (.ref d), some (.int (zi i)), none, none, none] []) : zAW p l e room_1 s m args below meth c γ 9 Q M k n 4080 [some (.ref b), some (.ref (U 0)), some (.ref (A 0)), some (.ref o), some (.ref d), some (.int (zi i)), none, none, none] [] := by
  obtain ⟨hc, hk, hm, hUA, ⟨f0, ho⟩, ⟨g0, hd⟩, hUo, hUd, hAo, hAd, hod⟩ := J
  obtain ⟨fs0, ob0⟩ := hc.ob
  refine z_aload_n C dL_law_4080 rfl ?_
  refine z_aload_n C dL_law_4081 rfl ?_
  refine z_iload C dL_law_4082 rfl ?_
  refine z_iconst C dL_law_4084 ?_
  refine z_iaddZ C dL_law_4085 ?_
  refine z_xld C hXs hbs (by omega) (by omega) dL_law_4086 ?_
  refine z_aload_n C dL_law_4087 rfl ?_
  refine z_callSH C dL_law_4088 lkw_save mwh_L_save mst_L_save (w_save hc hk ho hUo (hys _)) rfl (by first | decide | exact Nat.le_of_ble_eq_true rfl) ⟨by decide, by decide, by show _ ≤ 601024; omega, by show _ ≤ 7293034; omega⟩ (fun _ _ h => False.elim h) (fun v M' hp => ?_)
  obtain ⟨rfl, hr, f1, hc1, f2, hx1, hv⟩ := hp
  have hm1 := hm.frm (zUA_f f1 hUA hAo)
  obtain ⟨fs1, ob1⟩ := hm1.ob
  have ho1 := hx1
  have hd1 := f1.at (fun w => (List.mem_cons.mp w).elim (fun w => hod w.symm) (zU_no hUd)) hd
  refine z_istore C dL_law_4091 (by decide) ?_
  refine z_aload_n C dL_law_4093 rfl ?_
  refine z_aload_n C dL_law_4094 rfl ?_
  refine z_iload C dL_law_4095 rfl ?_
  refine z_iconst C dL_law_4097 ?_
  refine z_iaddZ C dL_law_4098 ?_
  refine z_xld C hXs hbs (by omega) (by omega) dL_law_4099 ?_
  refine z_callV C dL_law_4100 lk_L_391 mw_X9_save mi_X9_save ms_X9_save rfl ob1 (m_save hm1 hk (hys _)) rfl (by first | decide | exact Nat.le_of_ble_eq_true rfl) ⟨by decide, by decide, by show _ ≤ 601024; omega, by show _ ≤ 7293034; omega⟩ (fun _ _ h => False.elim h) (fun v M' hp => ?_)
  obtain ⟨b1, rfl, fA, hmt, hmf⟩ := hp
  have hm2 := zYs_mo hmt hmf
  have hbv := fun w => (hmt w).2
  have fB : zFr _ _ ((List.range 15).map A) := fA
  have ho2 := fB.at (mAll.no hAo) ho1
  have hd2 := fB.at (mAll.no hAd) hd1
  have J2 : zJ3 γ _ U A _ _ o d := ⟨hc1.frm fB (fun i hi => mAll.no (fun j hj w => hUA i j hi hj w.symm)), (zYs_ok (fun w => ok_save hk w) hk), hm2, hUA, ⟨_, ho2⟩, ⟨_, hd2⟩, hUo, hUd, hAo, hAd, hod⟩
  obtain ⟨fs2, ob2⟩ := hm2.ob
  refine z_istore C dL_law_4103 (by decide) ?_
  refine z_aload_n C dL_law_4105 rfl ?_
  refine z_callV C dL_law_4106 lk_L_202 mw_X9_thrown mi_X9_thrown ms_X9_thrown rfl ob2 (m_thrown hm2) rfl (by first | decide | exact Nat.le_of_ble_eq_true rfl) ⟨by decide, by decide, by show _ ≤ 601024; omega, by show _ ≤ 7293034; omega⟩ (fun _ _ h => False.elim h) (fun v M' hp => ?_)
  obtain ⟨rfl, rfl⟩ := hp
  refine z_iload C dL_law_4109 rfl ?_
  refine z_icmp_eq (tgt := 4116) C dL_law_4111 (by decide) (fun h4111 => ?_) (fun h4111 => ?_)
  · refine z_iload C dL_law_4116 rfl ?_
    refine z_if_ne (tgt := 4133) C dL_law_4118 (by decide) (fun h4118 => ?_) (fun h4118 => ?_)
    · refine z_goto (tgt := 4249) C dL_law_4133 (by decide) ?_
      exact z_fg (by omega) (by omega) ⟨_, _, _, rfl⟩ (next _ _ _ J2)
    · have z0 := zq_0 hr h4118
      refine z_aload_n C dL_law_4121 rfl ?_
      refine z_iconst C dL_law_4122 ?_
      refine z_aldJ (i := 0) C dL_law_4123 ho2 ⟨by decide, by decide⟩ (by decide) ?_
      refine z_iload C dL_law_4124 rfl ?_
      refine z_i2l C dL_law_4126 ?_
      refine z_lcmp C dL_law_4127 ?_
      refine z_if_eq (tgt := 4133) C dL_law_4128 (by decide) (fun h4128 => ?_) (fun h4128 => ?_)
      · refine z_goto (tgt := 4249) C dL_law_4133 (by decide) ?_
        exact z_fg (by omega) (by omega) ⟨_, _, _, rfl⟩ (next _ _ _ J2)
      · exact absurd (by show lg_cmp (f2 0) (zi b1).toInt64 = 0; rw [hv z0, hbv z0]; exact lg_same _) h4128
  · exact absurd rfl h4111
set_option maxHeartbeats 4000000 in
set_option maxRecDepth 100000 in
theorem cs_restore (C : zC p l s m args meth c γ cL_law 9 (some .boolean) RL xt) {b N : Nat} {ys : Nat → Int} (hXs : va_X b N (fun j => zi (ys j)) s s.heap) (hbs : b < γ.2.1.size) (hN : N ≤ 3072) (hys : ∀ j, zR (ys j)) {U A : Nat → Nat} {Y : zSys} {th : Int} {o d : Nat} (J : zJ3 γ M U A Y th o d) {i : Int} (hi : 0 ≤ i ∧ i + 6 ≤ N) (hkn : k + 4 ≤ 601024 ∧ n + 24 ≤ 7293034) (next : ∀ M' Y' th', zJ3 γ M' U A Y' th' o d → zAW p l e room_1 s m args below meth c γ 9 Q M' (k + 4) (n + 24) 4249 [some (.ref b), some (.ref (U 0)), some (.ref (A 0)), some (.ref o), some (.ref d), some (.int (zi i)), none, none, none] []) : zAW p l e room_1 s m args below meth c γ 9 Q M k n 4136 [some (.ref b), some (.ref (U 0)), some (.ref (A 0)), some (.ref o), some (.ref d), some (.int (zi i)), none, none, none] [] := by
  obtain ⟨hc, hk, hm, hUA, ⟨f0, ho⟩, ⟨g0, hd⟩, hUo, hUd, hAo, hAd, hod⟩ := J
  obtain ⟨fs0, ob0⟩ := hc.ob
  refine z_aload_n C dL_law_4136 rfl ?_
  refine z_aload_n C dL_law_4137 rfl ?_
  refine z_iload C dL_law_4138 rfl ?_
  refine z_iconst C dL_law_4140 ?_
  refine z_iaddZ C dL_law_4141 ?_
  refine z_xld C hXs hbs (by omega) (by omega) dL_law_4142 ?_
  refine z_aload_n C dL_law_4143 rfl ?_
  refine z_callSH C dL_law_4144 lkw_restore mwh_L_restore mst_L_restore (w_restore hc hk ho hUo (hys _)) rfl (by first | decide | exact Nat.le_of_ble_eq_true rfl) ⟨by decide, by decide, by show _ ≤ 601024; omega, by show _ ≤ 7293034; omega⟩ (fun _ _ h => False.elim h) (fun v M' hp => ?_)
  obtain ⟨rfl, hr, f1, hc1, f2, hx1, hv⟩ := hp
  have hm1 := hm.frm (zUA_f f1 hUA hAo)
  obtain ⟨fs1, ob1⟩ := hm1.ob
  have ho1 := hx1
  have hd1 := f1.at (fun w => (List.mem_cons.mp w).elim (fun w => hod w.symm) (zU_no hUd)) hd
  refine z_istore C dL_law_4147 (by decide) ?_
  refine z_aload_n C dL_law_4149 rfl ?_
  refine z_aload_n C dL_law_4150 rfl ?_
  refine z_iload C dL_law_4151 rfl ?_
  refine z_iconst C dL_law_4153 ?_
  refine z_iaddZ C dL_law_4154 ?_
  refine z_xld C hXs hbs (by omega) (by omega) dL_law_4155 ?_
  refine z_callV C dL_law_4156 lk_L_394 mw_X9_restore mi_X9_restore ms_X9_restore rfl ob1 (m_restore hm1 hk (hys _)) rfl (by first | decide | exact Nat.le_of_ble_eq_true rfl) ⟨by decide, by decide, by show _ ≤ 601024; omega, by show _ ≤ 7293034; omega⟩ (fun _ _ h => False.elim h) (fun v M' hp => ?_)
  obtain ⟨b1, rfl, fA, hmt, hmf⟩ := hp
  have hm2 := zYs_mo hmt hmf
  have hbv := fun w => (hmt w).2
  have fB : zFr _ _ ((List.range 15).map A) := fA
  have ho2 := fB.at (mAll.no hAo) ho1
  have hd2 := fB.at (mAll.no hAd) hd1
  have J2 : zJ3 γ _ U A _ _ o d := ⟨hc1.frm fB (fun i hi => mAll.no (fun j hj w => hUA i j hi hj w.symm)), (zYs_ok (fun w => ok_restore hk w) hk), hm2, hUA, ⟨_, ho2⟩, ⟨_, hd2⟩, hUo, hUd, hAo, hAd, hod⟩
  obtain ⟨fs2, ob2⟩ := hm2.ob
  refine z_istore C dL_law_4159 (by decide) ?_
  refine z_aload_n C dL_law_4161 rfl ?_
  refine z_callV C dL_law_4162 lk_L_202 mw_X9_thrown mi_X9_thrown ms_X9_thrown rfl ob2 (m_thrown hm2) rfl (by first | decide | exact Nat.le_of_ble_eq_true rfl) ⟨by decide, by decide, by show _ ≤ 601024; omega, by show _ ≤ 7293034; omega⟩ (fun _ _ h => False.elim h) (fun v M' hp => ?_)
  obtain ⟨rfl, rfl⟩ := hp
  refine z_iload C dL_law_4165 rfl ?_
  refine z_icmp_eq (tgt := 4172) C dL_law_4167 (by decide) (fun h4167 => ?_) (fun h4167 => ?_)
  · refine z_iload C dL_law_4172 rfl ?_
    refine z_if_ne (tgt := 4189) C dL_law_4174 (by decide) (fun h4174 => ?_) (fun h4174 => ?_)
    · refine z_goto (tgt := 4249) C dL_law_4189 (by decide) ?_
      exact z_fg (by omega) (by omega) ⟨_, _, _, rfl⟩ (next _ _ _ J2)
    · have z0 := zq_0 hr h4174
      refine z_aload_n C dL_law_4177 rfl ?_
      refine z_iconst C dL_law_4178 ?_
      refine z_aldJ (i := 0) C dL_law_4179 ho2 ⟨by decide, by decide⟩ (by decide) ?_
      refine z_iload C dL_law_4180 rfl ?_
      refine z_i2l C dL_law_4182 ?_
      refine z_lcmp C dL_law_4183 ?_
      refine z_if_eq (tgt := 4189) C dL_law_4184 (by decide) (fun h4184 => ?_) (fun h4184 => ?_)
      · refine z_goto (tgt := 4249) C dL_law_4189 (by decide) ?_
        exact z_fg (by omega) (by omega) ⟨_, _, _, rfl⟩ (next _ _ _ J2)
      · exact absurd (by show lg_cmp (f2 0) (zi b1).toInt64 = 0; rw [hv z0, hbv z0]; exact lg_same _) h4184
  · exact absurd rfl h4167
set_option maxHeartbeats 4000000 in
set_option maxRecDepth 100000 in
theorem cs_undo (C : zC p l s m args meth c γ cL_law 9 (some .boolean) RL xt) {b N : Nat} {ys : Nat → Int} (hXs : va_X b N (fun j => zi (ys j)) s s.heap) (hbs : b < γ.2.1.size) (hN : N ≤ 3072) (hys : ∀ j, zR (ys j)) {U A : Nat → Nat} {Y : zSys} {th : Int} {o d : Nat} (J : zJ3 γ M U A Y th o d) {i : Int} (hi : 0 ≤ i ∧ i + 6 ≤ N) (hkn : k + 4 ≤ 601024 ∧ n + 24 ≤ 7293034) (next : ∀ M' Y' th', zJ3 γ M' U A Y' th' o d → zAW p l e room_1 s m args below meth c γ 9 Q M' (k + 4) (n + 24) 4249 [some (.ref b), some (.ref (U 0)), some (.ref (A 0)), some (.ref o), some (.ref d), some (.int (zi i)), none, none, none] []) : zAW p l e room_1 s m args below meth c γ 9 Q M k n 4192 [some (.ref b), some (.ref (U 0)), some (.ref (A 0)), some (.ref o), some (.ref d), some (.int (zi i)), none, none, none] [] := by
  obtain ⟨hc, hk, hm, hUA, ⟨f0, ho⟩, ⟨g0, hd⟩, hUo, hUd, hAo, hAd, hod⟩ := J
  obtain ⟨fs0, ob0⟩ := hc.ob
  refine z_aload_n C dL_law_4192 rfl ?_
  refine z_aload_n C dL_law_4193 rfl ?_
  refine z_callSH C dL_law_4194 lkw_undo mwh_L_undo mst_L_undo (w_undo hc hk ho hUo) rfl (by first | decide | exact Nat.le_of_ble_eq_true rfl) ⟨by decide, by decide, by show _ ≤ 601024; omega, by show _ ≤ 7293034; omega⟩ (fun _ _ h => False.elim h) (fun v M' hp => ?_)
  obtain ⟨rfl, hr, f1, hc1, f2, hx1, hv⟩ := hp
  have hm1 := hm.frm (zUA_f f1 hUA hAo)
  obtain ⟨fs1, ob1⟩ := hm1.ob
  have ho1 := hx1
  have hd1 := f1.at (fun w => (List.mem_cons.mp w).elim (fun w => hod w.symm) (zU_no hUd)) hd
  refine z_istore C dL_law_4197 (by decide) ?_
  refine z_aload_n C dL_law_4199 rfl ?_
  refine z_callV C dL_law_4200 lk_L_397 mw_X9_undo mi_X9_undo ms_X9_undo rfl ob1 (m_undo hm1 hk) rfl (by first | decide | exact Nat.le_of_ble_eq_true rfl) ⟨by decide, by decide, by show _ ≤ 601024; omega, by show _ ≤ 7293034; omega⟩ (fun _ _ h => False.elim h) (fun v M' hp => ?_)
  obtain ⟨b1, rfl, fA, hmt, hmf⟩ := hp
  have hm2 := zYs_mo hmt hmf
  have hbv := fun w => (hmt w).2
  have fB : zFr _ _ ((List.range 15).map A) := fA
  have ho2 := fB.at (mAll.no hAo) ho1
  have hd2 := fB.at (mAll.no hAd) hd1
  have J2 : zJ3 γ _ U A _ _ o d := ⟨hc1.frm fB (fun i hi => mAll.no (fun j hj w => hUA i j hi hj w.symm)), (zYs_ok (fun w => ok_undo hk) hk), hm2, hUA, ⟨_, ho2⟩, ⟨_, hd2⟩, hUo, hUd, hAo, hAd, hod⟩
  obtain ⟨fs2, ob2⟩ := hm2.ob
  refine z_istore C dL_law_4203 (by decide) ?_
  refine z_aload_n C dL_law_4205 rfl ?_
  refine z_callV C dL_law_4206 lk_L_202 mw_X9_thrown mi_X9_thrown ms_X9_thrown rfl ob2 (m_thrown hm2) rfl (by first | decide | exact Nat.le_of_ble_eq_true rfl) ⟨by decide, by decide, by show _ ≤ 601024; omega, by show _ ≤ 7293034; omega⟩ (fun _ _ h => False.elim h) (fun v M' hp => ?_)
  obtain ⟨rfl, rfl⟩ := hp
  refine z_iload C dL_law_4209 rfl ?_
  refine z_icmp_eq (tgt := 4216) C dL_law_4211 (by decide) (fun h4211 => ?_) (fun h4211 => ?_)
  · refine z_iload C dL_law_4216 rfl ?_
    refine z_if_ne (tgt := 4233) C dL_law_4218 (by decide) (fun h4218 => ?_) (fun h4218 => ?_)
    · refine z_goto (tgt := 4249) C dL_law_4233 (by decide) ?_
      exact z_fg (by omega) (by omega) ⟨_, _, _, rfl⟩ (next _ _ _ J2)
    · have z0 := zq_0 hr h4218
      refine z_aload_n C dL_law_4221 rfl ?_
      refine z_iconst C dL_law_4222 ?_
      refine z_aldJ (i := 0) C dL_law_4223 ho2 ⟨by decide, by decide⟩ (by decide) ?_
      refine z_iload C dL_law_4224 rfl ?_
      refine z_i2l C dL_law_4226 ?_
      refine z_lcmp C dL_law_4227 ?_
      refine z_if_eq (tgt := 4233) C dL_law_4228 (by decide) (fun h4228 => ?_) (fun h4228 => ?_)
      · refine z_goto (tgt := 4249) C dL_law_4233 (by decide) ?_
        exact z_fg (by omega) (by omega) ⟨_, _, _, rfl⟩ (next _ _ _ J2)
      · exact absurd (by show lg_cmp (f2 0) (zi b1).toInt64 = 0; rw [hv z0, hbv z0]; exact lg_same _) h4228
  · exact absurd rfl h4211
set_option maxHeartbeats 4000000 in
set_option maxRecDepth 100000 in
theorem cs_undoDepth (C : zC p l s m args meth c γ cL_law 9 (some .boolean) RL xt) {b N : Nat} {ys : Nat → Int} (hXs : va_X b N (fun j => zi (ys j)) s s.heap) (hbs : b < γ.2.1.size) (hN : N ≤ 3072) (hys : ∀ j, zR (ys j)) {U A : Nat → Nat} {Y : zSys} {th : Int} {o d : Nat} (J : zJ3 γ M U A Y th o d) {i : Int} (hi : 0 ≤ i ∧ i + 6 ≤ N) (hkn : k + 4 ≤ 601024 ∧ n + 24 ≤ 7293034) (next : ∀ M' Y' th', zJ3 γ M' U A Y' th' o d → zAW p l e room_1 s m args below meth c γ 9 Q M' (k + 4) (n + 24) 4249 [some (.ref b), some (.ref (U 0)), some (.ref (A 0)), some (.ref o), some (.ref d), some (.int (zi i)), none, none, none] []) : zAW p l e room_1 s m args below meth c γ 9 Q M k n 4236 [some (.ref b), some (.ref (U 0)), some (.ref (A 0)), some (.ref o), some (.ref d), some (.int (zi i)), none, none, none] [] := by
  obtain ⟨hc, hk, hm, hUA, ⟨f0, ho⟩, ⟨g0, hd⟩, hUo, hUd, hAo, hAd, hod⟩ := J
  obtain ⟨fs0, ob0⟩ := hc.ob
  refine z_aload_n C dL_law_4236 rfl ?_
  refine z_callV C dL_law_4237 lk_L_398 mw_X8_undoDepth mi_X8_undoDepth ms_X8_undoDepth rfl ob0 (k_X8_undoDepth hc hk) rfl (by first | decide | exact Nat.le_of_ble_eq_true rfl) ⟨by decide, by decide, by show _ ≤ 601024; omega, by show _ ≤ 7293034; omega⟩ (fun _ _ h => False.elim h) (fun v M' hp => ?_)
  obtain ⟨hok, h0, rfl⟩ := hp
  have hm1 := hm.frm (zUA_f (fun b hb => hok.1 b (fun w => hb (List.mem_cons_of_mem _ w))) hUA hAo)
  obtain ⟨fs1, ob1⟩ := hm1.ob
  have hc1 := hok.2
  have ho1 := hok.1.at (zU_no hUo) ho
  have hd1 := hok.1.at (zU_no hUd) hd
  refine z_aload_n C dL_law_4240 rfl ?_
  refine z_callV C dL_law_4241 lk_L_401 mw_X9_undoDepth mi_X9_undoDepth ms_X9_undoDepth rfl ob1 (m_undoDepth hm1 hk.1) rfl (by first | decide | exact Nat.le_of_ble_eq_true rfl) ⟨by decide, by decide, by show _ ≤ 601024; omega, by show _ ≤ 7293034; omega⟩ (fun _ _ h => False.elim h) (fun v M' hp => ?_)
  obtain ⟨b1, rfl, fA, hm2, hbv⟩ := hp
  have fB : zFr _ _ ((List.range 15).map A) := fA
  have J2 : zJ3 γ _ U A Y _ o d := ⟨hc1.frm fB (fun i hi => mAll.no (fun j hj w => hUA i j hi hj w.symm)), hk, hm2, hUA, ⟨_, fB.at (mAll.no hAo) ho1⟩, ⟨_, fB.at (mAll.no hAd) hd1⟩, hUo, hUd, hAo, hAd, hod⟩
  refine z_icmp_eq (tgt := 4249) C dL_law_4244 (by decide) (fun h4244 => ?_) (fun h4244 => ?_)
  · exact z_fg (by omega) (by omega) ⟨_, _, _, rfl⟩ (next _ _ _ J2)
  · exact absurd (hbv rfl).symm h4244
end CSj

