/-! the law's cases: countOrder1, countOrder2, contextTotal, contextSymbols, order2Contexts, positiveCounts, timesTrained -/
section CSd
variable {p : Program} {l : Launch} {e : Env} {s : State} {m : MethodId} {args : Array Value} {below : List Frame} {meth : Method} {c : Code} {γ : zG} {Q : State → Prop} {M : zM} {k n : Nat} {xt : List ExceptionTableEntry}
set_option maxHeartbeats 4000000 in
set_option maxRecDepth 100000 in
theorem cs_countOrder1 (C : zC p l s m args meth c γ cL_law 9 (some .boolean) RL xt) {b N : Nat} {ys : Nat → Int} (hXs : va_X b N (fun j => zi (ys j)) s s.heap) (hbs : b < γ.2.1.size) (hN : N ≤ 3072) (hys : ∀ j, zR (ys j)) {U A : Nat → Nat} {Y : zSys} {th : Int} {o d : Nat} (J : zJ3 γ M U A Y th o d) {i : Int} (hi : 0 ≤ i ∧ i + 6 ≤ N) (hkn : k + 4 ≤ 601024 ∧ n + 24 ≤ 7293034) (next : ∀ M' Y' th', zJ3 γ M' U A Y' th' o d → zAW p l e room_1 s m args below meth c γ 9 Q M' (k + 4) (n + 24) 4249 [some (.ref b), some (.ref (U 0)), some (.ref (A 0)), some (.ref o), some (.ref d), some (.int (zi i)), none, none, none] []) : zAW p l e room_1 s m args below meth c γ 9 Q M k n 949 [some (.ref b), some (.ref (U 0)), some (.ref (A 0)), some (.ref o), some (.ref d), some (.int (zi i)), none, none, none] [] := by
  obtain ⟨hc, hk, hm, hUA, ⟨f0, ho⟩, ⟨g0, hd⟩, hUo, hUd, hAo, hAd, hod⟩ := J
  obtain ⟨fs0, ob0⟩ := hc.ob
  refine z_aload_n C dL_law_949 rfl ?_
  refine z_aload_n C dL_law_950 rfl ?_
  refine z_iload C dL_law_951 rfl ?_
  refine z_iconst C dL_law_953 ?_
  refine z_iaddZ C dL_law_954 ?_
  refine z_xld C hXs hbs (by omega) (by omega) dL_law_955 ?_
  refine z_aload_n C dL_law_956 rfl ?_
  refine z_iload C dL_law_957 rfl ?_
  refine z_iconst C dL_law_959 ?_
  refine z_iaddZ C dL_law_960 ?_
  refine z_xld C hXs hbs (by omega) (by omega) dL_law_961 ?_
  refine z_aload_n C dL_law_962 rfl ?_
  refine z_iload C dL_law_963 rfl ?_
  refine z_iconst C dL_law_965 ?_
  refine z_iaddZ C dL_law_966 ?_
  refine z_xld C hXs hbs (by omega) (by omega) dL_law_967 ?_
  refine z_aload_n C dL_law_968 rfl ?_
  refine z_callSH C dL_law_969 lkw_countOrder1 mwh_L_countOrder1 mst_L_countOrder1 (w_countOrder1 hc hk ho hUo (hys _) (hys _) (hys _)) rfl (by first | decide | exact Nat.le_of_ble_eq_true rfl) ⟨by decide, by decide, by show _ ≤ 601024; omega, by show _ ≤ 7293034; omega⟩ (fun _ _ h => False.elim h) (fun v M' hp => ?_)
  obtain ⟨rfl, hr, f1, hc1, f2, hx1, hv⟩ := hp
  have hm1 := hm.frm (zUA_f f1 hUA hAo)
  obtain ⟨fs1, ob1⟩ := hm1.ob
  have ho1 := hx1
  have hd1 := f1.at (fun w => (List.mem_cons.mp w).elim (fun w => hod w.symm) (zU_no hUd)) hd
  refine z_istore C dL_law_972 (by decide) ?_
  refine z_aload_n C dL_law_974 rfl ?_
  refine z_aload_n C dL_law_975 rfl ?_
  refine z_iload C dL_law_976 rfl ?_
  refine z_iconst C dL_law_978 ?_
  refine z_iaddZ C dL_law_979 ?_
  refine z_xld C hXs hbs (by omega) (by omega) dL_law_980 ?_
  refine z_aload_n C dL_law_981 rfl ?_
  refine z_iload C dL_law_982 rfl ?_
  refine z_iconst C dL_law_984 ?_
  refine z_iaddZ C dL_law_985 ?_
  refine z_xld C hXs hbs (by omega) (by omega) dL_law_986 ?_
  refine z_aload_n C dL_law_987 rfl ?_
  refine z_iload C dL_law_988 rfl ?_
  refine z_iconst C dL_law_990 ?_
  refine z_iaddZ C dL_law_991 ?_
  refine z_xld C hXs hbs (by omega) (by omega) dL_law_992 ?_
  refine z_callV C dL_law_993 lk_L_255 mw_X9_countOrder1 mi_X9_countOrder1 ms_X9_countOrder1 rfl ob1 (m_countOrder1 hm1 hk.1 (hys _) (hys _) (hys _)) rfl (by first | decide | exact Nat.le_of_ble_eq_true rfl) ⟨by decide, by decide, by show _ ≤ 601024; omega, by show _ ≤ 7293034; omega⟩ (fun _ _ h => False.elim h) (fun v M' hp => ?_)
  obtain ⟨b1, rfl, fA, hm2, hbv⟩ := hp
  have fB : zFr _ _ ((List.range 15).map A) := fA
  have ho2 := fB.at (mAll.no hAo) ho1
  have hd2 := fB.at (mAll.no hAd) hd1
  have J2 : zJ3 γ _ U A _ _ o d := ⟨hc1.frm fB (fun i hi => mAll.no (fun j hj w => hUA i j hi hj w.symm)), hk, hm2, hUA, ⟨_, ho2⟩, ⟨_, hd2⟩, hUo, hUd, hAo, hAd, hod⟩
  obtain ⟨fs2, ob2⟩ := hm2.ob
  refine z_istore C dL_law_996 (by decide) ?_
  refine z_aload_n C dL_law_998 rfl ?_
  refine z_callV C dL_law_999 lk_L_202 mw_X9_thrown mi_X9_thrown ms_X9_thrown rfl ob2 (m_thrown hm2) rfl (by first | decide | exact Nat.le_of_ble_eq_true rfl) ⟨by decide, by decide, by show _ ≤ 601024; omega, by show _ ≤ 7293034; omega⟩ (fun _ _ h => False.elim h) (fun v M' hp => ?_)
  obtain ⟨rfl, rfl⟩ := hp
  refine z_iload C dL_law_1002 rfl ?_
  refine z_icmp_eq (tgt := 1009) C dL_law_1004 (by decide) (fun h1004 => ?_) (fun h1004 => ?_)
  · refine z_iload C dL_law_1009 rfl ?_
    refine z_if_ne (tgt := 1026) C dL_law_1011 (by decide) (fun h1011 => ?_) (fun h1011 => ?_)
    · refine z_goto (tgt := 4249) C dL_law_1026 (by decide) ?_
      exact z_fg (by omega) (by omega) ⟨_, _, _, rfl⟩ (next _ _ _ J2)
    · have z0 := zq_0 hr h1011
      refine z_aload_n C dL_law_1014 rfl ?_
      refine z_iconst C dL_law_1015 ?_
      refine z_aldJ (i := 0) C dL_law_1016 ho2 ⟨by decide, by decide⟩ (by decide) ?_
      refine z_iload C dL_law_1017 rfl ?_
      refine z_i2l C dL_law_1019 ?_
      refine z_lcmp C dL_law_1020 ?_
      refine z_if_eq (tgt := 1026) C dL_law_1021 (by decide) (fun h1021 => ?_) (fun h1021 => ?_)
      · refine z_goto (tgt := 4249) C dL_law_1026 (by decide) ?_
        exact z_fg (by omega) (by omega) ⟨_, _, _, rfl⟩ (next _ _ _ J2)
      · exact absurd (by show lg_cmp (f2 0) (zi b1).toInt64 = 0; rw [hv z0, hbv z0]; exact lg_same _) h1021
  · exact absurd rfl h1004
set_option maxHeartbeats 4000000 in
set_option maxRecDepth 100000 in
theorem cs_countOrder2 (C : zC p l s m args meth c γ cL_law 9 (some .boolean) RL xt) {b N : Nat} {ys : Nat → Int} (hXs : va_X b N (fun j => zi (ys j)) s s.heap) (hbs : b < γ.2.1.size) (hN : N ≤ 3072) (hys : ∀ j, zR (ys j)) {U A : Nat → Nat} {Y : zSys} {th : Int} {o d : Nat} (J : zJ3 γ M U A Y th o d) {i : Int} (hi : 0 ≤ i ∧ i + 6 ≤ N) (hkn : k + 4 ≤ 601024 ∧ n + 24 ≤ 7293034) (next : ∀ M' Y' th', zJ3 γ M' U A Y' th' o d → zAW p l e room_1 s m args below meth c γ 9 Q M' (k + 4) (n + 24) 4249 [some (.ref b), some (.ref (U 0)), some (.ref (A 0)), some (.ref o), some (.ref d), some (.int (zi i)), none, none, none] []) : zAW p l e room_1 s m args below meth c γ 9 Q M k n 1029 [some (.ref b), some (.ref (U 0)), some (.ref (A 0)), some (.ref o), some (.ref d), some (.int (zi i)), none, none, none] [] := by
  obtain ⟨hc, hk, hm, hUA, ⟨f0, ho⟩, ⟨g0, hd⟩, hUo, hUd, hAo, hAd, hod⟩ := J
  obtain ⟨fs0, ob0⟩ := hc.ob
  refine z_aload_n C dL_law_1029 rfl ?_
  refine z_aload_n C dL_law_1030 rfl ?_
  refine z_iload C dL_law_1031 rfl ?_
  refine z_iconst C dL_law_1033 ?_
  refine z_iaddZ C dL_law_1034 ?_
  refine z_xld C hXs hbs (by omega) (by omega) dL_law_1035 ?_
  refine z_aload_n C dL_law_1036 rfl ?_
  refine z_iload C dL_law_1037 rfl ?_
  refine z_iconst C dL_law_1039 ?_
  refine z_iaddZ C dL_law_1040 ?_
  refine z_xld C hXs hbs (by omega) (by omega) dL_law_1041 ?_
  refine z_aload_n C dL_law_1042 rfl ?_
  refine z_iload C dL_law_1043 rfl ?_
  refine z_iconst C dL_law_1045 ?_
  refine z_iaddZ C dL_law_1046 ?_
  refine z_xld C hXs hbs (by omega) (by omega) dL_law_1047 ?_
  refine z_aload_n C dL_law_1048 rfl ?_
  refine z_iload C dL_law_1049 rfl ?_
  refine z_iconst C dL_law_1051 ?_
  refine z_iaddZ C dL_law_1052 ?_
  refine z_xld C hXs hbs (by omega) (by omega) dL_law_1053 ?_
  refine z_aload_n C dL_law_1054 rfl ?_
  refine z_callSH C dL_law_1055 lkw_countOrder2 mwh_L_countOrder2 mst_L_countOrder2 (w_countOrder2 hc hk ho hUo (hys _) (hys _) (hys _) (hys _)) rfl (by first | decide | exact Nat.le_of_ble_eq_true rfl) ⟨by decide, by decide, by show _ ≤ 601024; omega, by show _ ≤ 7293034; omega⟩ (fun _ _ h => False.elim h) (fun v M' hp => ?_)
  obtain ⟨rfl, hr, f1, hc1, f2, hx1, hv⟩ := hp
  have hm1 := hm.frm (zUA_f f1 hUA hAo)
  obtain ⟨fs1, ob1⟩ := hm1.ob
  have ho1 := hx1
  have hd1 := f1.at (fun w => (List.mem_cons.mp w).elim (fun w => hod w.symm) (zU_no hUd)) hd
  refine z_istore C dL_law_1058 (by decide) ?_
  refine z_aload_n C dL_law_1060 rfl ?_
  refine z_aload_n C dL_law_1061 rfl ?_
  refine z_iload C dL_law_1062 rfl ?_
  refine z_iconst C dL_law_1064 ?_
  refine z_iaddZ C dL_law_1065 ?_
  refine z_xld C hXs hbs (by omega) (by omega) dL_law_1066 ?_
  refine z_aload_n C dL_law_1067 rfl ?_
  refine z_iload C dL_law_1068 rfl ?_
  refine z_iconst C dL_law_1070 ?_
  refine z_iaddZ C dL_law_1071 ?_
  refine z_xld C hXs hbs (by omega) (by omega) dL_law_1072 ?_
  refine z_aload_n C dL_law_1073 rfl ?_
  refine z_iload C dL_law_1074 rfl ?_
  refine z_iconst C dL_law_1076 ?_
  refine z_iaddZ C dL_law_1077 ?_
  refine z_xld C hXs hbs (by omega) (by omega) dL_law_1078 ?_
  refine z_aload_n C dL_law_1079 rfl ?_
  refine z_iload C dL_law_1080 rfl ?_
  refine z_iconst C dL_law_1082 ?_
  refine z_iaddZ C dL_law_1083 ?_
  refine z_xld C hXs hbs (by omega) (by omega) dL_law_1084 ?_
  refine z_callV C dL_law_1085 lk_L_259 mw_X9_countOrder2 mi_X9_countOrder2 ms_X9_countOrder2 rfl ob1 (m_countOrder2 hm1 hk.1 (hys _) (hys _) (hys _) (hys _)) rfl (by first | decide | exact Nat.le_of_ble_eq_true rfl) ⟨by decide, by decide, by show _ ≤ 601024; omega, by show _ ≤ 7293034; omega⟩ (fun _ _ h => False.elim h) (fun v M' hp => ?_)
  obtain ⟨b1, rfl, fA, hm2, hbv⟩ := hp
  have fB : zFr _ _ ((List.range 15).map A) := fA
  have ho2 := fB.at (mAll.no hAo) ho1
  have hd2 := fB.at (mAll.no hAd) hd1
  have J2 : zJ3 γ _ U A _ _ o d := ⟨hc1.frm fB (fun i hi => mAll.no (fun j hj w => hUA i j hi hj w.symm)), hk, hm2, hUA, ⟨_, ho2⟩, ⟨_, hd2⟩, hUo, hUd, hAo, hAd, hod⟩
  obtain ⟨fs2, ob2⟩ := hm2.ob
  refine z_istore C dL_law_1088 (by decide) ?_
  refine z_aload_n C dL_law_1090 rfl ?_
  refine z_callV C dL_law_1091 lk_L_202 mw_X9_thrown mi_X9_thrown ms_X9_thrown rfl ob2 (m_thrown hm2) rfl (by first | decide | exact Nat.le_of_ble_eq_true rfl) ⟨by decide, by decide, by show _ ≤ 601024; omega, by show _ ≤ 7293034; omega⟩ (fun _ _ h => False.elim h) (fun v M' hp => ?_)
  obtain ⟨rfl, rfl⟩ := hp
  refine z_iload C dL_law_1094 rfl ?_
  refine z_icmp_eq (tgt := 1101) C dL_law_1096 (by decide) (fun h1096 => ?_) (fun h1096 => ?_)
  · refine z_iload C dL_law_1101 rfl ?_
    refine z_if_ne (tgt := 1118) C dL_law_1103 (by decide) (fun h1103 => ?_) (fun h1103 => ?_)
    · refine z_goto (tgt := 4249) C dL_law_1118 (by decide) ?_
      exact z_fg (by omega) (by omega) ⟨_, _, _, rfl⟩ (next _ _ _ J2)
    · have z0 := zq_0 hr h1103
      refine z_aload_n C dL_law_1106 rfl ?_
      refine z_iconst C dL_law_1107 ?_
      refine z_aldJ (i := 0) C dL_law_1108 ho2 ⟨by decide, by decide⟩ (by decide) ?_
      refine z_iload C dL_law_1109 rfl ?_
      refine z_i2l C dL_law_1111 ?_
      refine z_lcmp C dL_law_1112 ?_
      refine z_if_eq (tgt := 1118) C dL_law_1113 (by decide) (fun h1113 => ?_) (fun h1113 => ?_)
      · refine z_goto (tgt := 4249) C dL_law_1118 (by decide) ?_
        exact z_fg (by omega) (by omega) ⟨_, _, _, rfl⟩ (next _ _ _ J2)
      · exact absurd (by show lg_cmp (f2 0) (zi b1).toInt64 = 0; rw [hv z0, hbv z0]; exact lg_same _) h1113
  · exact absurd rfl h1096
set_option maxHeartbeats 4000000 in
set_option maxRecDepth 100000 in
theorem cs_contextTotal (C : zC p l s m args meth c γ cL_law 9 (some .boolean) RL xt) {b N : Nat} {ys : Nat → Int} (hXs : va_X b N (fun j => zi (ys j)) s s.heap) (hbs : b < γ.2.1.size) (hN : N ≤ 3072) (hys : ∀ j, zR (ys j)) {U A : Nat → Nat} {Y : zSys} {th : Int} {o d : Nat} (J : zJ3 γ M U A Y th o d) {i : Int} (hi : 0 ≤ i ∧ i + 6 ≤ N) (hkn : k + 4 ≤ 601024 ∧ n + 24 ≤ 7293034) (next : ∀ M' Y' th', zJ3 γ M' U A Y' th' o d → zAW p l e room_1 s m args below meth c γ 9 Q M' (k + 4) (n + 24) 4249 [some (.ref b), some (.ref (U 0)), some (.ref (A 0)), some (.ref o), some (.ref d), some (.int (zi i)), none, none, none] []) : zAW p l e room_1 s m args below meth c γ 9 Q M k n 1121 [some (.ref b), some (.ref (U 0)), some (.ref (A 0)), some (.ref o), some (.ref d), some (.int (zi i)), none, none, none] [] := by
  obtain ⟨hc, hk, hm, hUA, ⟨f0, ho⟩, ⟨g0, hd⟩, hUo, hUd, hAo, hAd, hod⟩ := J
  obtain ⟨fs0, ob0⟩ := hc.ob
  refine z_aload_n C dL_law_1121 rfl ?_
  refine z_aload_n C dL_law_1122 rfl ?_
  refine z_iload C dL_law_1123 rfl ?_
  refine z_iconst C dL_law_1125 ?_
  refine z_iaddZ C dL_law_1126 ?_
  refine z_xld C hXs hbs (by omega) (by omega) dL_law_1127 ?_
  refine z_aload_n C dL_law_1128 rfl ?_
  refine z_iload C dL_law_1129 rfl ?_
  refine z_iconst C dL_law_1131 ?_
  refine z_iaddZ C dL_law_1132 ?_
  refine z_xld C hXs hbs (by omega) (by omega) dL_law_1133 ?_
  refine z_aload_n C dL_law_1134 rfl ?_
  refine z_iload C dL_law_1135 rfl ?_
  refine z_iconst C dL_law_1137 ?_
  refine z_iaddZ C dL_law_1138 ?_
  refine z_xld C hXs hbs (by omega) (by omega) dL_law_1139 ?_
  refine z_aload_n C dL_law_1140 rfl ?_
  refine z_callSH C dL_law_1141 lkw_contextTotal mwh_L_contextTotal mst_L_contextTotal (w_contextTotal hc hk ho hUo (hys _) (hys _) (hys _)) rfl (by first | decide | exact Nat.le_of_ble_eq_true rfl) ⟨by decide, by decide, by show _ ≤ 601024; omega, by show _ ≤ 7293034; omega⟩ (fun _ _ h => False.elim h) (fun v M' hp => ?_)
  obtain ⟨rfl, hr, f1, hc1, f2, hx1, hv⟩ := hp
  have hm1 := hm.frm (zUA_f f1 hUA hAo)
  obtain ⟨fs1, ob1⟩ := hm1.ob
  have ho1 := hx1
  have hd1 := f1.at (fun w => (List.mem_cons.mp w).elim (fun w => hod w.symm) (zU_no hUd)) hd
  refine z_istore C dL_law_1144 (by decide) ?_
  refine z_aload_n C dL_law_1146 rfl ?_
  refine z_aload_n C dL_law_1147 rfl ?_
  refine z_iload C dL_law_1148 rfl ?_
  refine z_iconst C dL_law_1150 ?_
  refine z_iaddZ C dL_law_1151 ?_
  refine z_xld C hXs hbs (by omega) (by omega) dL_law_1152 ?_
  refine z_aload_n C dL_law_1153 rfl ?_
  refine z_iload C dL_law_1154 rfl ?_
  refine z_iconst C dL_law_1156 ?_
  refine z_iaddZ C dL_law_1157 ?_
  refine z_xld C hXs hbs (by omega) (by omega) dL_law_1158 ?_
  refine z_aload_n C dL_law_1159 rfl ?_
  refine z_iload C dL_law_1160 rfl ?_
  refine z_iconst C dL_law_1162 ?_
  refine z_iaddZ C dL_law_1163 ?_
  refine z_xld C hXs hbs (by omega) (by omega) dL_law_1164 ?_
  refine z_callV C dL_law_1165 lk_L_262 mw_X9_contextTotal mi_X9_contextTotal ms_X9_contextTotal rfl ob1 (m_contextTotal hm1 hk.1 (hys _) (hys _) (hys _)) rfl (by first | decide | exact Nat.le_of_ble_eq_true rfl) ⟨by decide, by decide, by show _ ≤ 601024; omega, by show _ ≤ 7293034; omega⟩ (fun _ _ h => False.elim h) (fun v M' hp => ?_)
  obtain ⟨b1, rfl, fA, hm2, hbv⟩ := hp
  have fB : zFr _ _ ((List.range 15).map A) := fA
  have ho2 := fB.at (mAll.no hAo) ho1
  have hd2 := fB.at (mAll.no hAd) hd1
  have J2 : zJ3 γ _ U A _ _ o d := ⟨hc1.frm fB (fun i hi => mAll.no (fun j hj w => hUA i j hi hj w.symm)), hk, hm2, hUA, ⟨_, ho2⟩, ⟨_, hd2⟩, hUo, hUd, hAo, hAd, hod⟩
  obtain ⟨fs2, ob2⟩ := hm2.ob
  refine z_istore C dL_law_1168 (by decide) ?_
  refine z_aload_n C dL_law_1170 rfl ?_
  refine z_callV C dL_law_1171 lk_L_202 mw_X9_thrown mi_X9_thrown ms_X9_thrown rfl ob2 (m_thrown hm2) rfl (by first | decide | exact Nat.le_of_ble_eq_true rfl) ⟨by decide, by decide, by show _ ≤ 601024; omega, by show _ ≤ 7293034; omega⟩ (fun _ _ h => False.elim h) (fun v M' hp => ?_)
  obtain ⟨rfl, rfl⟩ := hp
  refine z_iload C dL_law_1174 rfl ?_
  refine z_icmp_eq (tgt := 1181) C dL_law_1176 (by decide) (fun h1176 => ?_) (fun h1176 => ?_)
  · refine z_iload C dL_law_1181 rfl ?_
    refine z_if_ne (tgt := 1198) C dL_law_1183 (by decide) (fun h1183 => ?_) (fun h1183 => ?_)
    · refine z_goto (tgt := 4249) C dL_law_1198 (by decide) ?_
      exact z_fg (by omega) (by omega) ⟨_, _, _, rfl⟩ (next _ _ _ J2)
    · have z0 := zq_0 hr h1183
      refine z_aload_n C dL_law_1186 rfl ?_
      refine z_iconst C dL_law_1187 ?_
      refine z_aldJ (i := 0) C dL_law_1188 ho2 ⟨by decide, by decide⟩ (by decide) ?_
      refine z_iload C dL_law_1189 rfl ?_
      refine z_i2l C dL_law_1191 ?_
      refine z_lcmp C dL_law_1192 ?_
      refine z_if_eq (tgt := 1198) C dL_law_1193 (by decide) (fun h1193 => ?_) (fun h1193 => ?_)
      · refine z_goto (tgt := 4249) C dL_law_1198 (by decide) ?_
        exact z_fg (by omega) (by omega) ⟨_, _, _, rfl⟩ (next _ _ _ J2)
      · exact absurd (by show lg_cmp (f2 0) (zi b1).toInt64 = 0; rw [hv z0, hbv z0]; exact lg_same _) h1193
  · exact absurd rfl h1176
set_option maxHeartbeats 4000000 in
set_option maxRecDepth 100000 in
theorem cs_contextSymbols (C : zC p l s m args meth c γ cL_law 9 (some .boolean) RL xt) {b N : Nat} {ys : Nat → Int} (hXs : va_X b N (fun j => zi (ys j)) s s.heap) (hbs : b < γ.2.1.size) (hN : N ≤ 3072) (hys : ∀ j, zR (ys j)) {U A : Nat → Nat} {Y : zSys} {th : Int} {o d : Nat} (J : zJ3 γ M U A Y th o d) {i : Int} (hi : 0 ≤ i ∧ i + 6 ≤ N) (hkn : k + 4 ≤ 601024 ∧ n + 24 ≤ 7293034) (next : ∀ M' Y' th', zJ3 γ M' U A Y' th' o d → zAW p l e room_1 s m args below meth c γ 9 Q M' (k + 4) (n + 24) 4249 [some (.ref b), some (.ref (U 0)), some (.ref (A 0)), some (.ref o), some (.ref d), some (.int (zi i)), none, none, none] []) : zAW p l e room_1 s m args below meth c γ 9 Q M k n 1201 [some (.ref b), some (.ref (U 0)), some (.ref (A 0)), some (.ref o), some (.ref d), some (.int (zi i)), none, none, none] [] := by
  obtain ⟨hc, hk, hm, hUA, ⟨f0, ho⟩, ⟨g0, hd⟩, hUo, hUd, hAo, hAd, hod⟩ := J
  obtain ⟨fs0, ob0⟩ := hc.ob
  refine z_aload_n C dL_law_1201 rfl ?_
  refine z_aload_n C dL_law_1202 rfl ?_
  refine z_iload C dL_law_1203 rfl ?_
  refine z_iconst C dL_law_1205 ?_
  refine z_iaddZ C dL_law_1206 ?_
  refine z_xld C hXs hbs (by omega) (by omega) dL_law_1207 ?_
  refine z_aload_n C dL_law_1208 rfl ?_
  refine z_iload C dL_law_1209 rfl ?_
  refine z_iconst C dL_law_1211 ?_
  refine z_iaddZ C dL_law_1212 ?_
  refine z_xld C hXs hbs (by omega) (by omega) dL_law_1213 ?_
  refine z_aload_n C dL_law_1214 rfl ?_
  refine z_iload C dL_law_1215 rfl ?_
  refine z_iconst C dL_law_1217 ?_
  refine z_iaddZ C dL_law_1218 ?_
  refine z_xld C hXs hbs (by omega) (by omega) dL_law_1219 ?_
  refine z_aload_n C dL_law_1220 rfl ?_
  refine z_callSH C dL_law_1221 lkw_contextSymbols mwh_L_contextSymbols mst_L_contextSymbols (w_contextSymbols hc hk ho hUo (hys _) (hys _) (hys _)) rfl (by first | decide | exact Nat.le_of_ble_eq_true rfl) ⟨by decide, by decide, by show _ ≤ 601024; omega, by show _ ≤ 7293034; omega⟩ (fun _ _ h => False.elim h) (fun v M' hp => ?_)
  obtain ⟨rfl, hr, f1, hc1, f2, hx1, hv⟩ := hp
  have hm1 := hm.frm (zUA_f f1 hUA hAo)
  obtain ⟨fs1, ob1⟩ := hm1.ob
  have ho1 := hx1
  have hd1 := f1.at (fun w => (List.mem_cons.mp w).elim (fun w => hod w.symm) (zU_no hUd)) hd
  refine z_istore C dL_law_1224 (by decide) ?_
  refine z_aload_n C dL_law_1226 rfl ?_
  refine z_aload_n C dL_law_1227 rfl ?_
  refine z_iload C dL_law_1228 rfl ?_
  refine z_iconst C dL_law_1230 ?_
  refine z_iaddZ C dL_law_1231 ?_
  refine z_xld C hXs hbs (by omega) (by omega) dL_law_1232 ?_
  refine z_aload_n C dL_law_1233 rfl ?_
  refine z_iload C dL_law_1234 rfl ?_
  refine z_iconst C dL_law_1236 ?_
  refine z_iaddZ C dL_law_1237 ?_
  refine z_xld C hXs hbs (by omega) (by omega) dL_law_1238 ?_
  refine z_aload_n C dL_law_1239 rfl ?_
  refine z_iload C dL_law_1240 rfl ?_
  refine z_iconst C dL_law_1242 ?_
  refine z_iaddZ C dL_law_1243 ?_
  refine z_xld C hXs hbs (by omega) (by omega) dL_law_1244 ?_
  refine z_callV C dL_law_1245 lk_L_265 mw_X9_contextSymbols mi_X9_contextSymbols ms_X9_contextSymbols rfl ob1 (m_contextSymbols hm1 hk.1 (hys _) (hys _) (hys _)) rfl (by first | decide | exact Nat.le_of_ble_eq_true rfl) ⟨by decide, by decide, by show _ ≤ 601024; omega, by show _ ≤ 7293034; omega⟩ (fun _ _ h => False.elim h) (fun v M' hp => ?_)
  obtain ⟨b1, rfl, fA, hm2, hbv⟩ := hp
  have fB : zFr _ _ ((List.range 15).map A) := fA
  have ho2 := fB.at (mAll.no hAo) ho1
  have hd2 := fB.at (mAll.no hAd) hd1
  have J2 : zJ3 γ _ U A _ _ o d := ⟨hc1.frm fB (fun i hi => mAll.no (fun j hj w => hUA i j hi hj w.symm)), hk, hm2, hUA, ⟨_, ho2⟩, ⟨_, hd2⟩, hUo, hUd, hAo, hAd, hod⟩
  obtain ⟨fs2, ob2⟩ := hm2.ob
  refine z_istore C dL_law_1248 (by decide) ?_
  refine z_aload_n C dL_law_1250 rfl ?_
  refine z_callV C dL_law_1251 lk_L_202 mw_X9_thrown mi_X9_thrown ms_X9_thrown rfl ob2 (m_thrown hm2) rfl (by first | decide | exact Nat.le_of_ble_eq_true rfl) ⟨by decide, by decide, by show _ ≤ 601024; omega, by show _ ≤ 7293034; omega⟩ (fun _ _ h => False.elim h) (fun v M' hp => ?_)
  obtain ⟨rfl, rfl⟩ := hp
  refine z_iload C dL_law_1254 rfl ?_
  refine z_icmp_eq (tgt := 1261) C dL_law_1256 (by decide) (fun h1256 => ?_) (fun h1256 => ?_)
  · refine z_iload C dL_law_1261 rfl ?_
    refine z_if_ne (tgt := 1278) C dL_law_1263 (by decide) (fun h1263 => ?_) (fun h1263 => ?_)
    · refine z_goto (tgt := 4249) C dL_law_1278 (by decide) ?_
      exact z_fg (by omega) (by omega) ⟨_, _, _, rfl⟩ (next _ _ _ J2)
    · have z0 := zq_0 hr h1263
      refine z_aload_n C dL_law_1266 rfl ?_
      refine z_iconst C dL_law_1267 ?_
      refine z_aldJ (i := 0) C dL_law_1268 ho2 ⟨by decide, by decide⟩ (by decide) ?_
      refine z_iload C dL_law_1269 rfl ?_
      refine z_i2l C dL_law_1271 ?_
      refine z_lcmp C dL_law_1272 ?_
      refine z_if_eq (tgt := 1278) C dL_law_1273 (by decide) (fun h1273 => ?_) (fun h1273 => ?_)
      · refine z_goto (tgt := 4249) C dL_law_1278 (by decide) ?_
        exact z_fg (by omega) (by omega) ⟨_, _, _, rfl⟩ (next _ _ _ J2)
      · exact absurd (by show lg_cmp (f2 0) (zi b1).toInt64 = 0; rw [hv z0, hbv z0]; exact lg_same _) h1273
  · exact absurd rfl h1256
set_option maxHeartbeats 4000000 in
set_option maxRecDepth 100000 in
theorem cs_order2Contexts (C : zC p l s m args meth c γ cL_law 9 (some .boolean) RL xt) {b N : Nat} {ys : Nat → Int} (hXs : va_X b N (fun j => zi (ys j)) s s.heap) (hbs : b < γ.2.1.size) (hN : N ≤ 3072) (hys : ∀ j, zR (ys j)) {U A : Nat → Nat} {Y : zSys} {th : Int} {o d : Nat} (J : zJ3 γ M U A Y th o d) {i : Int} (hi : 0 ≤ i ∧ i + 6 ≤ N) (hkn : k + 4 ≤ 601024 ∧ n + 24 ≤ 7293034) (next : ∀ M' Y' th', zJ3 γ M' U A Y' th' o d → zAW p l e room_1 s m args below meth c γ 9 Q M' (k + 4) (n + 24) 4249 [some (.ref b), some (.ref (U 0)), some (.ref (A 0)), some (.ref o), some (.ref d), some (.int (zi i)), none, none, none] []) : zAW p l e room_1 s m args below meth c γ 9 Q M k n 1281 [some (.ref b), some (.ref (U 0)), some (.ref (A 0)), some (.ref o), some (.ref d), some (.int (zi i)), none, none, none] [] := by
  obtain ⟨hc, hk, hm, hUA, ⟨f0, ho⟩, ⟨g0, hd⟩, hUo, hUd, hAo, hAd, hod⟩ := J
  obtain ⟨fs0, ob0⟩ := hc.ob
  refine z_aload_n C dL_law_1281 rfl ?_
  refine z_aload_n C dL_law_1282 rfl ?_
  refine z_iload C dL_law_1283 rfl ?_
  refine z_iconst C dL_law_1285 ?_
  refine z_iaddZ C dL_law_1286 ?_
  refine z_xld C hXs hbs (by omega) (by omega) dL_law_1287 ?_
  refine z_aload_n C dL_law_1288 rfl ?_
  refine z_callSH C dL_law_1289 lkw_order2Contexts mwh_L_order2Contexts mst_L_order2Contexts (w_order2Contexts hc hk ho hUo (hys _)) rfl (by first | decide | exact Nat.le_of_ble_eq_true rfl) ⟨by decide, by decide, by show _ ≤ 601024; omega, by show _ ≤ 7293034; omega⟩ (fun _ _ h => False.elim h) (fun v M' hp => ?_)
  obtain ⟨rfl, hr, f1, hc1, f2, hx1, hv⟩ := hp
  have hm1 := hm.frm (zUA_f f1 hUA hAo)
  obtain ⟨fs1, ob1⟩ := hm1.ob
  have ho1 := hx1
  have hd1 := f1.at (fun w => (List.mem_cons.mp w).elim (fun w => hod w.symm) (zU_no hUd)) hd
  refine z_istore C dL_law_1292 (by decide) ?_
  refine z_aload_n C dL_law_1294 rfl ?_
  refine z_aload_n C dL_law_1295 rfl ?_
  refine z_iload C dL_law_1296 rfl ?_
  refine z_iconst C dL_law_1298 ?_
  refine z_iaddZ C dL_law_1299 ?_
  refine z_xld C hXs hbs (by omega) (by omega) dL_law_1300 ?_
  refine z_callV C dL_law_1301 lk_L_268 mw_X9_order2Contexts mi_X9_order2Contexts ms_X9_order2Contexts rfl ob1 (m_order2Contexts hm1 hk.1 (hys _)) rfl (by first | decide | exact Nat.le_of_ble_eq_true rfl) ⟨by decide, by decide, by show _ ≤ 601024; omega, by show _ ≤ 7293034; omega⟩ (fun _ _ h => False.elim h) (fun v M' hp => ?_)
  obtain ⟨b1, rfl, fA, hm2, hbv⟩ := hp
  have fB : zFr _ _ ((List.range 15).map A) := fA
  have ho2 := fB.at (mAll.no hAo) ho1
  have hd2 := fB.at (mAll.no hAd) hd1
  have J2 : zJ3 γ _ U A _ _ o d := ⟨hc1.frm fB (fun i hi => mAll.no (fun j hj w => hUA i j hi hj w.symm)), hk, hm2, hUA, ⟨_, ho2⟩, ⟨_, hd2⟩, hUo, hUd, hAo, hAd, hod⟩
  obtain ⟨fs2, ob2⟩ := hm2.ob
  refine z_istore C dL_law_1304 (by decide) ?_
  refine z_aload_n C dL_law_1306 rfl ?_
  refine z_callV C dL_law_1307 lk_L_202 mw_X9_thrown mi_X9_thrown ms_X9_thrown rfl ob2 (m_thrown hm2) rfl (by first | decide | exact Nat.le_of_ble_eq_true rfl) ⟨by decide, by decide, by show _ ≤ 601024; omega, by show _ ≤ 7293034; omega⟩ (fun _ _ h => False.elim h) (fun v M' hp => ?_)
  obtain ⟨rfl, rfl⟩ := hp
  refine z_iload C dL_law_1310 rfl ?_
  refine z_icmp_eq (tgt := 1317) C dL_law_1312 (by decide) (fun h1312 => ?_) (fun h1312 => ?_)
  · refine z_iload C dL_law_1317 rfl ?_
    refine z_if_ne (tgt := 1334) C dL_law_1319 (by decide) (fun h1319 => ?_) (fun h1319 => ?_)
    · refine z_goto (tgt := 4249) C dL_law_1334 (by decide) ?_
      exact z_fg (by omega) (by omega) ⟨_, _, _, rfl⟩ (next _ _ _ J2)
    · have z0 := zq_0 hr h1319
      refine z_aload_n C dL_law_1322 rfl ?_
      refine z_iconst C dL_law_1323 ?_
      refine z_aldJ (i := 0) C dL_law_1324 ho2 ⟨by decide, by decide⟩ (by decide) ?_
      refine z_iload C dL_law_1325 rfl ?_
      refine z_i2l C dL_law_1327 ?_
      refine z_lcmp C dL_law_1328 ?_
      refine z_if_eq (tgt := 1334) C dL_law_1329 (by decide) (fun h1329 => ?_) (fun h1329 => ?_)
      · refine z_goto (tgt := 4249) C dL_law_1334 (by decide) ?_
        exact z_fg (by omega) (by omega) ⟨_, _, _, rfl⟩ (next _ _ _ J2)
      · exact absurd (by show lg_cmp (f2 0) (zi b1).toInt64 = 0; rw [hv z0, hbv z0]; exact lg_same _) h1329
  · exact absurd rfl h1312
set_option maxHeartbeats 4000000 in
set_option maxRecDepth 100000 in
theorem cs_positiveCounts (C : zC p l s m args meth c γ cL_law 9 (some .boolean) RL xt) {b N : Nat} {ys : Nat → Int} (hXs : va_X b N (fun j => zi (ys j)) s s.heap) (hbs : b < γ.2.1.size) (hN : N ≤ 3072) (hys : ∀ j, zR (ys j)) {U A : Nat → Nat} {Y : zSys} {th : Int} {o d : Nat} (J : zJ3 γ M U A Y th o d) {i : Int} (hi : 0 ≤ i ∧ i + 6 ≤ N) (hkn : k + 4 ≤ 601024 ∧ n + 24 ≤ 7293034) (next : ∀ M' Y' th', zJ3 γ M' U A Y' th' o d → zAW p l e room_1 s m args below meth c γ 9 Q M' (k + 4) (n + 24) 4249 [some (.ref b), some (.ref (U 0)), some (.ref (A 0)), some (.ref o), some (.ref d), some (.int (zi i)), none, none, none] []) : zAW p l e room_1 s m args below meth c γ 9 Q M k n 1337 [some (.ref b), some (.ref (U 0)), some (.ref (A 0)), some (.ref o), some (.ref d), some (.int (zi i)), none, none, none] [] := by
  obtain ⟨hc, hk, hm, hUA, ⟨f0, ho⟩, ⟨g0, hd⟩, hUo, hUd, hAo, hAd, hod⟩ := J
  obtain ⟨fs0, ob0⟩ := hc.ob
  refine z_aload_n C dL_law_1337 rfl ?_
  refine z_aload_n C dL_law_1338 rfl ?_
  refine z_iload C dL_law_1339 rfl ?_
  refine z_iconst C dL_law_1341 ?_
  refine z_iaddZ C dL_law_1342 ?_
  refine z_xld C hXs hbs (by omega) (by omega) dL_law_1343 ?_
  refine z_aload_n C dL_law_1344 rfl ?_
  refine z_callSH C dL_law_1345 lkw_positiveCounts mwh_L_positiveCounts mst_L_positiveCounts (w_positiveCounts hc hk ho hUo (hys _)) rfl (by first | decide | exact Nat.le_of_ble_eq_true rfl) ⟨by decide, by decide, by show _ ≤ 601024; omega, by show _ ≤ 7293034; omega⟩ (fun _ _ h => False.elim h) (fun v M' hp => ?_)
  obtain ⟨rfl, hr, f1, hc1, f2, hx1, hv⟩ := hp
  have hm1 := hm.frm (zUA_f f1 hUA hAo)
  obtain ⟨fs1, ob1⟩ := hm1.ob
  have ho1 := hx1
  have hd1 := f1.at (fun w => (List.mem_cons.mp w).elim (fun w => hod w.symm) (zU_no hUd)) hd
  refine z_istore C dL_law_1348 (by decide) ?_
  refine z_aload_n C dL_law_1350 rfl ?_
  refine z_aload_n C dL_law_1351 rfl ?_
  refine z_iload C dL_law_1352 rfl ?_
  refine z_iconst C dL_law_1354 ?_
  refine z_iaddZ C dL_law_1355 ?_
  refine z_xld C hXs hbs (by omega) (by omega) dL_law_1356 ?_
  refine z_callV C dL_law_1357 lk_L_271 mw_X9_positiveCounts mi_X9_positiveCounts ms_X9_positiveCounts rfl ob1 (m_positiveCounts hm1 hk.1 (hys _)) rfl (by first | decide | exact Nat.le_of_ble_eq_true rfl) ⟨by decide, by decide, by show _ ≤ 601024; omega, by show _ ≤ 7293034; omega⟩ (fun _ _ h => False.elim h) (fun v M' hp => ?_)
  obtain ⟨b1, rfl, fA, hm2, hbv⟩ := hp
  have fB : zFr _ _ ((List.range 15).map A) := fA
  have ho2 := fB.at (mAll.no hAo) ho1
  have hd2 := fB.at (mAll.no hAd) hd1
  have J2 : zJ3 γ _ U A _ _ o d := ⟨hc1.frm fB (fun i hi => mAll.no (fun j hj w => hUA i j hi hj w.symm)), hk, hm2, hUA, ⟨_, ho2⟩, ⟨_, hd2⟩, hUo, hUd, hAo, hAd, hod⟩
  obtain ⟨fs2, ob2⟩ := hm2.ob
  refine z_istore C dL_law_1360 (by decide) ?_
  refine z_aload_n C dL_law_1362 rfl ?_
  refine z_callV C dL_law_1363 lk_L_202 mw_X9_thrown mi_X9_thrown ms_X9_thrown rfl ob2 (m_thrown hm2) rfl (by first | decide | exact Nat.le_of_ble_eq_true rfl) ⟨by decide, by decide, by show _ ≤ 601024; omega, by show _ ≤ 7293034; omega⟩ (fun _ _ h => False.elim h) (fun v M' hp => ?_)
  obtain ⟨rfl, rfl⟩ := hp
  refine z_iload C dL_law_1366 rfl ?_
  refine z_icmp_eq (tgt := 1373) C dL_law_1368 (by decide) (fun h1368 => ?_) (fun h1368 => ?_)
  · refine z_iload C dL_law_1373 rfl ?_
    refine z_if_ne (tgt := 1390) C dL_law_1375 (by decide) (fun h1375 => ?_) (fun h1375 => ?_)
    · refine z_goto (tgt := 4249) C dL_law_1390 (by decide) ?_
      exact z_fg (by omega) (by omega) ⟨_, _, _, rfl⟩ (next _ _ _ J2)
    · have z0 := zq_0 hr h1375
      refine z_aload_n C dL_law_1378 rfl ?_
      refine z_iconst C dL_law_1379 ?_
      refine z_aldJ (i := 0) C dL_law_1380 ho2 ⟨by decide, by decide⟩ (by decide) ?_
      refine z_iload C dL_law_1381 rfl ?_
      refine z_i2l C dL_law_1383 ?_
      refine z_lcmp C dL_law_1384 ?_
      refine z_if_eq (tgt := 1390) C dL_law_1385 (by decide) (fun h1385 => ?_) (fun h1385 => ?_)
      · refine z_goto (tgt := 4249) C dL_law_1390 (by decide) ?_
        exact z_fg (by omega) (by omega) ⟨_, _, _, rfl⟩ (next _ _ _ J2)
      · exact absurd (by show lg_cmp (f2 0) (zi b1).toInt64 = 0; rw [hv z0, hbv z0]; exact lg_same _) h1385
  · exact absurd rfl h1368
set_option maxHeartbeats 4000000 in
set_option maxRecDepth 100000 in
theorem cs_timesTrained (C : zC p l s m args meth c γ cL_law 9 (some .boolean) RL xt) {b N : Nat} {ys : Nat → Int} (hXs : va_X b N (fun j => zi (ys j)) s s.heap) (hbs : b < γ.2.1.size) (hN : N ≤ 3072) (hys : ∀ j, zR (ys j)) {U A : Nat → Nat} {Y : zSys} {th : Int} {o d : Nat} (J : zJ3 γ M U A Y th o d) {i : Int} (hi : 0 ≤ i ∧ i + 6 ≤ N) (hkn : k + 4 ≤ 601024 ∧ n + 24 ≤ 7293034) (next : ∀ M' Y' th', zJ3 γ M' U A Y' th' o d → zAW p l e room_1 s m args below meth c γ 9 Q M' (k + 4) (n + 24) 4249 [some (.ref b), some (.ref (U 0)), some (.ref (A 0)), some (.ref o), some (.ref d), some (.int (zi i)), none, none, none] []) : zAW p l e room_1 s m args below meth c γ 9 Q M k n 1393 [some (.ref b), some (.ref (U 0)), some (.ref (A 0)), some (.ref o), some (.ref d), some (.int (zi i)), none, none, none] [] := by
  obtain ⟨hc, hk, hm, hUA, ⟨f0, ho⟩, ⟨g0, hd⟩, hUo, hUd, hAo, hAd, hod⟩ := J
  obtain ⟨fs0, ob0⟩ := hc.ob
  refine z_aload_n C dL_law_1393 rfl ?_
  refine z_aload_n C dL_law_1394 rfl ?_
  refine z_iload C dL_law_1395 rfl ?_
  refine z_iconst C dL_law_1397 ?_
  refine z_iaddZ C dL_law_1398 ?_
  refine z_xld C hXs hbs (by omega) (by omega) dL_law_1399 ?_
  refine z_aload_n C dL_law_1400 rfl ?_
  refine z_iload C dL_law_1401 rfl ?_
  refine z_iconst C dL_law_1403 ?_
  refine z_iaddZ C dL_law_1404 ?_
  refine z_xld C hXs hbs (by omega) (by omega) dL_law_1405 ?_
  refine z_aload_n C dL_law_1406 rfl ?_
  refine z_callSH C dL_law_1407 lkw_timesTrained mwh_L_timesTrained mst_L_timesTrained (w_timesTrained hc hk ho hUo (hys _) (hys _)) rfl (by first | decide | exact Nat.le_of_ble_eq_true rfl) ⟨by decide, by decide, by show _ ≤ 601024; omega, by show _ ≤ 7293034; omega⟩ (fun _ _ h => False.elim h) (fun v M' hp => ?_)
  obtain ⟨rfl, hr, f1, hc1, f2, hx1, hv⟩ := hp
  have hm1 := hm.frm (zUA_f f1 hUA hAo)
  obtain ⟨fs1, ob1⟩ := hm1.ob
  have ho1 := hx1
  have hd1 := f1.at (fun w => (List.mem_cons.mp w).elim (fun w => hod w.symm) (zU_no hUd)) hd
  refine z_istore C dL_law_1410 (by decide) ?_
  refine z_aload_n C dL_law_1412 rfl ?_
  refine z_aload_n C dL_law_1413 rfl ?_
  refine z_iload C dL_law_1414 rfl ?_
  refine z_iconst C dL_law_1416 ?_
  refine z_iaddZ C dL_law_1417 ?_
  refine z_xld C hXs hbs (by omega) (by omega) dL_law_1418 ?_
  refine z_aload_n C dL_law_1419 rfl ?_
  refine z_iload C dL_law_1420 rfl ?_
  refine z_iconst C dL_law_1422 ?_
  refine z_iaddZ C dL_law_1423 ?_
  refine z_xld C hXs hbs (by omega) (by omega) dL_law_1424 ?_
  refine z_callV C dL_law_1425 lk_L_274 mw_X9_timesTrained mi_X9_timesTrained ms_X9_timesTrained rfl ob1 (m_timesTrained hm1 hk.1 (hys _) (hys _)) rfl (by first | decide | exact Nat.le_of_ble_eq_true rfl) ⟨by decide, by decide, by show _ ≤ 601024; omega, by show _ ≤ 7293034; omega⟩ (fun _ _ h => False.elim h) (fun v M' hp => ?_)
  obtain ⟨b1, rfl, fA, hm2, hbv⟩ := hp
  have fB : zFr _ _ ((List.range 15).map A) := fA
  have ho2 := fB.at (mAll.no hAo) ho1
  have hd2 := fB.at (mAll.no hAd) hd1
  have J2 : zJ3 γ _ U A _ _ o d := ⟨hc1.frm fB (fun i hi => mAll.no (fun j hj w => hUA i j hi hj w.symm)), hk, hm2, hUA, ⟨_, ho2⟩, ⟨_, hd2⟩, hUo, hUd, hAo, hAd, hod⟩
  obtain ⟨fs2, ob2⟩ := hm2.ob
  refine z_istore C dL_law_1428 (by decide) ?_
  refine z_aload_n C dL_law_1430 rfl ?_
  refine z_callV C dL_law_1431 lk_L_202 mw_X9_thrown mi_X9_thrown ms_X9_thrown rfl ob2 (m_thrown hm2) rfl (by first | decide | exact Nat.le_of_ble_eq_true rfl) ⟨by decide, by decide, by show _ ≤ 601024; omega, by show _ ≤ 7293034; omega⟩ (fun _ _ h => False.elim h) (fun v M' hp => ?_)
  obtain ⟨rfl, rfl⟩ := hp
  refine z_iload C dL_law_1434 rfl ?_
  refine z_icmp_eq (tgt := 1441) C dL_law_1436 (by decide) (fun h1436 => ?_) (fun h1436 => ?_)
  · refine z_iload C dL_law_1441 rfl ?_
    refine z_if_ne (tgt := 1458) C dL_law_1443 (by decide) (fun h1443 => ?_) (fun h1443 => ?_)
    · refine z_goto (tgt := 4249) C dL_law_1458 (by decide) ?_
      exact z_fg (by omega) (by omega) ⟨_, _, _, rfl⟩ (next _ _ _ J2)
    · have z0 := zq_0 hr h1443
      refine z_aload_n C dL_law_1446 rfl ?_
      refine z_iconst C dL_law_1447 ?_
      refine z_aldJ (i := 0) C dL_law_1448 ho2 ⟨by decide, by decide⟩ (by decide) ?_
      refine z_iload C dL_law_1449 rfl ?_
      refine z_i2l C dL_law_1451 ?_
      refine z_lcmp C dL_law_1452 ?_
      refine z_if_eq (tgt := 1458) C dL_law_1453 (by decide) (fun h1453 => ?_) (fun h1453 => ?_)
      · refine z_goto (tgt := 4249) C dL_law_1458 (by decide) ?_
        exact z_fg (by omega) (by omega) ⟨_, _, _, rfl⟩ (next _ _ _ J2)
      · exact absurd (by show lg_cmp (f2 0) (zi b1).toInt64 = 0; rw [hv z0, hbv z0]; exact lg_same _) h1453
  · exact absurd rfl h1436
end CSd

