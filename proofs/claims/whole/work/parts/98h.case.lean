/-! the law's cases: guessesAfterTraining, trainingsNeeded, yearsToForget, agreements, addReader, addDocument, train -/
section CSh
variable {p : Program} {l : Launch} {e : Env} {s : State} {m : MethodId} {args : Array Value} {below : List Frame} {meth : Method} {c : Code} {γ : zG} {Q : State → Prop} {M : zM} {k n : Nat} {xt : List ExceptionTableEntry}
set_option maxHeartbeats 4000000 in
set_option maxRecDepth 100000 in
theorem cs_guessesAfterTraining (C : zC p l s m args meth c γ cL_law 9 (some .boolean) RL xt) {b N : Nat} {ys : Nat → Int} (hXs : va_X b N (fun j => zi (ys j)) s s.heap) (hbs : b < γ.2.1.size) (hN : N ≤ 3072) (hys : ∀ j, zR (ys j)) {U A : Nat → Nat} {Y : zSys} {th : Int} {o d : Nat} (J : zJ3 γ M U A Y th o d) {i : Int} (hi : 0 ≤ i ∧ i + 6 ≤ N) (hkn : k + 4 ≤ 601024 ∧ n + 24 ≤ 7293034) (next : ∀ M' Y' th', zJ3 γ M' U A Y' th' o d → zAW p l e room_1 s m args below meth c γ 9 Q M' (k + 4) (n + 24) 4249 [some (.ref b), some (.ref (U 0)), some (.ref (A 0)), some (.ref o), some (.ref d), some (.int (zi i)), none, none, none] []) : zAW p l e room_1 s m args below meth c γ 9 Q M k n 3107 [some (.ref b), some (.ref (U 0)), some (.ref (A 0)), some (.ref o), some (.ref d), some (.int (zi i)), none, none, none] [] := by
  obtain ⟨hc, hk, hm, hUA, ⟨f0, ho⟩, ⟨g0, hd⟩, hUo, hUd, hAo, hAd, hod⟩ := J
  obtain ⟨fs0, ob0⟩ := hc.ob
  refine z_aload_n C dL_law_3107 rfl ?_
  refine z_aload_n C dL_law_3108 rfl ?_
  refine z_iload C dL_law_3109 rfl ?_
  refine z_iconst C dL_law_3111 ?_
  refine z_iaddZ C dL_law_3112 ?_
  refine z_xld C hXs hbs (by omega) (by omega) dL_law_3113 ?_
  refine z_aload_n C dL_law_3114 rfl ?_
  refine z_iload C dL_law_3115 rfl ?_
  refine z_iconst C dL_law_3117 ?_
  refine z_iaddZ C dL_law_3118 ?_
  refine z_xld C hXs hbs (by omega) (by omega) dL_law_3119 ?_
  refine z_aload_n C dL_law_3120 rfl ?_
  refine z_iload C dL_law_3121 rfl ?_
  refine z_iconst C dL_law_3123 ?_
  refine z_iaddZ C dL_law_3124 ?_
  refine z_xld C hXs hbs (by omega) (by omega) dL_law_3125 ?_
  refine z_aload_n C dL_law_3126 rfl ?_
  refine z_callSH C dL_law_3127 lkw_guessesAfterTraining mwh_L_guessesAfterTraining mst_L_guessesAfterTraining (w_guessesAfterTraining hc hk ho hUo (hys _) (hys _) (hys _)) rfl (by first | decide | exact Nat.le_of_ble_eq_true rfl) ⟨by decide, by decide, by show _ ≤ 601024; omega, by show _ ≤ 7293034; omega⟩ (fun _ _ h => False.elim h) (fun v M' hp => ?_)
  obtain ⟨rfl, hr, f1, hc1, f2, hx1, hv⟩ := hp
  have hm1 := hm.frm (zUA_f f1 hUA hAo)
  obtain ⟨fs1, ob1⟩ := hm1.ob
  have ho1 := hx1
  have hd1 := f1.at (fun w => (List.mem_cons.mp w).elim (fun w => hod w.symm) (zU_no hUd)) hd
  refine z_istore C dL_law_3130 (by decide) ?_
  refine z_aload_n C dL_law_3132 rfl ?_
  refine z_aload_n C dL_law_3133 rfl ?_
  refine z_iload C dL_law_3134 rfl ?_
  refine z_iconst C dL_law_3136 ?_
  refine z_iaddZ C dL_law_3137 ?_
  refine z_xld C hXs hbs (by omega) (by omega) dL_law_3138 ?_
  refine z_aload_n C dL_law_3139 rfl ?_
  refine z_iload C dL_law_3140 rfl ?_
  refine z_iconst C dL_law_3142 ?_
  refine z_iaddZ C dL_law_3143 ?_
  refine z_xld C hXs hbs (by omega) (by omega) dL_law_3144 ?_
  refine z_aload_n C dL_law_3145 rfl ?_
  refine z_iload C dL_law_3146 rfl ?_
  refine z_iconst C dL_law_3148 ?_
  refine z_iaddZ C dL_law_3149 ?_
  refine z_xld C hXs hbs (by omega) (by omega) dL_law_3150 ?_
  refine z_callV C dL_law_3151 lk_L_342 mw_X9_guessesAfterTraining mi_X9_guessesAfterTraining ms_X9_guessesAfterTraining rfl ob1 (m_guessesAfterTraining hm1 hk.1 (hys _) (hys _) (hys _)) rfl (by first | decide | exact Nat.le_of_ble_eq_true rfl) ⟨by decide, by decide, by show _ ≤ 601024; omega, by show _ ≤ 7293034; omega⟩ (fun _ _ h => False.elim h) (fun v M' hp => ?_)
  obtain ⟨b1, rfl, fA, hm2, hbv⟩ := hp
  have fB : zFr _ _ ((List.range 15).map A) := fA
  have ho2 := fB.at (mAll.no hAo) ho1
  have hd2 := fB.at (mAll.no hAd) hd1
  have J2 : zJ3 γ _ U A _ _ o d := ⟨hc1.frm fB (fun i hi => mAll.no (fun j hj w => hUA i j hi hj w.symm)), hk, hm2, hUA, ⟨_, ho2⟩, ⟨_, hd2⟩, hUo, hUd, hAo, hAd, hod⟩
  obtain ⟨fs2, ob2⟩ := hm2.ob
  refine z_istore C dL_law_3154 (by decide) ?_
  refine z_aload_n C dL_law_3156 rfl ?_
  refine z_callV C dL_law_3157 lk_L_202 mw_X9_thrown mi_X9_thrown ms_X9_thrown rfl ob2 (m_thrown hm2) rfl (by first | decide | exact Nat.le_of_ble_eq_true rfl) ⟨by decide, by decide, by show _ ≤ 601024; omega, by show _ ≤ 7293034; omega⟩ (fun _ _ h => False.elim h) (fun v M' hp => ?_)
  obtain ⟨rfl, rfl⟩ := hp
  refine z_iload C dL_law_3160 rfl ?_
  refine z_icmp_eq (tgt := 3167) C dL_law_3162 (by decide) (fun h3162 => ?_) (fun h3162 => ?_)
  · refine z_iload C dL_law_3167 rfl ?_
    refine z_if_ne (tgt := 3184) C dL_law_3169 (by decide) (fun h3169 => ?_) (fun h3169 => ?_)
    · refine z_goto (tgt := 4249) C dL_law_3184 (by decide) ?_
      exact z_fg (by omega) (by omega) ⟨_, _, _, rfl⟩ (next _ _ _ J2)
    · have z0 := zq_0 hr h3169
      refine z_aload_n C dL_law_3172 rfl ?_
      refine z_iconst C dL_law_3173 ?_
      refine z_aldJ (i := 0) C dL_law_3174 ho2 ⟨by decide, by decide⟩ (by decide) ?_
      refine z_iload C dL_law_3175 rfl ?_
      refine z_i2l C dL_law_3177 ?_
      refine z_lcmp C dL_law_3178 ?_
      refine z_if_eq (tgt := 3184) C dL_law_3179 (by decide) (fun h3179 => ?_) (fun h3179 => ?_)
      · refine z_goto (tgt := 4249) C dL_law_3184 (by decide) ?_
        exact z_fg (by omega) (by omega) ⟨_, _, _, rfl⟩ (next _ _ _ J2)
      · exact absurd (by show lg_cmp (f2 0) (zi b1).toInt64 = 0; rw [hv z0, hbv z0]; exact lg_same _) h3179
  · exact absurd rfl h3162
set_option maxHeartbeats 4000000 in
set_option maxRecDepth 100000 in
theorem cs_trainingsNeeded (C : zC p l s m args meth c γ cL_law 9 (some .boolean) RL xt) {b N : Nat} {ys : Nat → Int} (hXs : va_X b N (fun j => zi (ys j)) s s.heap) (hbs : b < γ.2.1.size) (hN : N ≤ 3072) (hys : ∀ j, zR (ys j)) {U A : Nat → Nat} {Y : zSys} {th : Int} {o d : Nat} (J : zJ3 γ M U A Y th o d) {i : Int} (hi : 0 ≤ i ∧ i + 6 ≤ N) (hkn : k + 4 ≤ 601024 ∧ n + 24 ≤ 7293034) (next : ∀ M' Y' th', zJ3 γ M' U A Y' th' o d → zAW p l e room_1 s m args below meth c γ 9 Q M' (k + 4) (n + 24) 4249 [some (.ref b), some (.ref (U 0)), some (.ref (A 0)), some (.ref o), some (.ref d), some (.int (zi i)), none, none, none] []) : zAW p l e room_1 s m args below meth c γ 9 Q M k n 3187 [some (.ref b), some (.ref (U 0)), some (.ref (A 0)), some (.ref o), some (.ref d), some (.int (zi i)), none, none, none] [] := by
  obtain ⟨hc, hk, hm, hUA, ⟨f0, ho⟩, ⟨g0, hd⟩, hUo, hUd, hAo, hAd, hod⟩ := J
  obtain ⟨fs0, ob0⟩ := hc.ob
  refine z_aload_n C dL_law_3187 rfl ?_
  refine z_aload_n C dL_law_3188 rfl ?_
  refine z_iload C dL_law_3189 rfl ?_
  refine z_iconst C dL_law_3191 ?_
  refine z_iaddZ C dL_law_3192 ?_
  refine z_xld C hXs hbs (by omega) (by omega) dL_law_3193 ?_
  refine z_aload_n C dL_law_3194 rfl ?_
  refine z_iload C dL_law_3195 rfl ?_
  refine z_iconst C dL_law_3197 ?_
  refine z_iaddZ C dL_law_3198 ?_
  refine z_xld C hXs hbs (by omega) (by omega) dL_law_3199 ?_
  refine z_aload_n C dL_law_3200 rfl ?_
  refine z_iload C dL_law_3201 rfl ?_
  refine z_iconst C dL_law_3203 ?_
  refine z_iaddZ C dL_law_3204 ?_
  refine z_xld C hXs hbs (by omega) (by omega) dL_law_3205 ?_
  refine z_aload_n C dL_law_3206 rfl ?_
  refine z_callSH C dL_law_3207 lkw_trainingsNeeded mwh_L_trainingsNeeded mst_L_trainingsNeeded (w_trainingsNeeded hc hk ho hUo (hys _) (hys _) (hys _)) rfl (by first | decide | exact Nat.le_of_ble_eq_true rfl) ⟨by decide, by decide, by show _ ≤ 601024; omega, by show _ ≤ 7293034; omega⟩ (fun _ _ h => False.elim h) (fun v M' hp => ?_)
  obtain ⟨rfl, hr, f1, hc1, f2, hx1, hv⟩ := hp
  have hm1 := hm.frm (zUA_f f1 hUA hAo)
  obtain ⟨fs1, ob1⟩ := hm1.ob
  have ho1 := hx1
  have hd1 := f1.at (fun w => (List.mem_cons.mp w).elim (fun w => hod w.symm) (zU_no hUd)) hd
  refine z_istore C dL_law_3210 (by decide) ?_
  refine z_aload_n C dL_law_3212 rfl ?_
  refine z_aload_n C dL_law_3213 rfl ?_
  refine z_iload C dL_law_3214 rfl ?_
  refine z_iconst C dL_law_3216 ?_
  refine z_iaddZ C dL_law_3217 ?_
  refine z_xld C hXs hbs (by omega) (by omega) dL_law_3218 ?_
  refine z_aload_n C dL_law_3219 rfl ?_
  refine z_iload C dL_law_3220 rfl ?_
  refine z_iconst C dL_law_3222 ?_
  refine z_iaddZ C dL_law_3223 ?_
  refine z_xld C hXs hbs (by omega) (by omega) dL_law_3224 ?_
  refine z_aload_n C dL_law_3225 rfl ?_
  refine z_iload C dL_law_3226 rfl ?_
  refine z_iconst C dL_law_3228 ?_
  refine z_iaddZ C dL_law_3229 ?_
  refine z_xld C hXs hbs (by omega) (by omega) dL_law_3230 ?_
  refine z_callV C dL_law_3231 lk_L_345 mw_X9_trainingsNeeded mi_X9_trainingsNeeded ms_X9_trainingsNeeded rfl ob1 (m_trainingsNeeded hm1 hk.1 (hys _) (hys _) (hys _)) rfl (by first | decide | exact Nat.le_of_ble_eq_true rfl) ⟨by decide, by decide, by show _ ≤ 601024; omega, by show _ ≤ 7293034; omega⟩ (fun _ _ h => False.elim h) (fun v M' hp => ?_)
  obtain ⟨b1, rfl, fA, hm2, hbv⟩ := hp
  have fB : zFr _ _ ((List.range 15).map A) := fA
  have ho2 := fB.at (mAll.no hAo) ho1
  have hd2 := fB.at (mAll.no hAd) hd1
  have J2 : zJ3 γ _ U A _ _ o d := ⟨hc1.frm fB (fun i hi => mAll.no (fun j hj w => hUA i j hi hj w.symm)), hk, hm2, hUA, ⟨_, ho2⟩, ⟨_, hd2⟩, hUo, hUd, hAo, hAd, hod⟩
  obtain ⟨fs2, ob2⟩ := hm2.ob
  refine z_istore C dL_law_3234 (by decide) ?_
  refine z_aload_n C dL_law_3236 rfl ?_
  refine z_callV C dL_law_3237 lk_L_202 mw_X9_thrown mi_X9_thrown ms_X9_thrown rfl ob2 (m_thrown hm2) rfl (by first | decide | exact Nat.le_of_ble_eq_true rfl) ⟨by decide, by decide, by show _ ≤ 601024; omega, by show _ ≤ 7293034; omega⟩ (fun _ _ h => False.elim h) (fun v M' hp => ?_)
  obtain ⟨rfl, rfl⟩ := hp
  refine z_iload C dL_law_3240 rfl ?_
  refine z_icmp_eq (tgt := 3247) C dL_law_3242 (by decide) (fun h3242 => ?_) (fun h3242 => ?_)
  · refine z_iload C dL_law_3247 rfl ?_
    refine z_if_ne (tgt := 3264) C dL_law_3249 (by decide) (fun h3249 => ?_) (fun h3249 => ?_)
    · refine z_goto (tgt := 4249) C dL_law_3264 (by decide) ?_
      exact z_fg (by omega) (by omega) ⟨_, _, _, rfl⟩ (next _ _ _ J2)
    · have z0 := zq_0 hr h3249
      refine z_aload_n C dL_law_3252 rfl ?_
      refine z_iconst C dL_law_3253 ?_
      refine z_aldJ (i := 0) C dL_law_3254 ho2 ⟨by decide, by decide⟩ (by decide) ?_
      refine z_iload C dL_law_3255 rfl ?_
      refine z_i2l C dL_law_3257 ?_
      refine z_lcmp C dL_law_3258 ?_
      refine z_if_eq (tgt := 3264) C dL_law_3259 (by decide) (fun h3259 => ?_) (fun h3259 => ?_)
      · refine z_goto (tgt := 4249) C dL_law_3264 (by decide) ?_
        exact z_fg (by omega) (by omega) ⟨_, _, _, rfl⟩ (next _ _ _ J2)
      · exact absurd (by show lg_cmp (f2 0) (zi b1).toInt64 = 0; rw [hv z0, hbv z0]; exact lg_same _) h3259
  · exact absurd rfl h3242
set_option maxHeartbeats 4000000 in
set_option maxRecDepth 100000 in
theorem cs_yearsToForget (C : zC p l s m args meth c γ cL_law 9 (some .boolean) RL xt) {b N : Nat} {ys : Nat → Int} (hXs : va_X b N (fun j => zi (ys j)) s s.heap) (hbs : b < γ.2.1.size) (hN : N ≤ 3072) (hys : ∀ j, zR (ys j)) {U A : Nat → Nat} {Y : zSys} {th : Int} {o d : Nat} (J : zJ3 γ M U A Y th o d) {i : Int} (hi : 0 ≤ i ∧ i + 6 ≤ N) (hkn : k + 4 ≤ 601024 ∧ n + 24 ≤ 7293034) (next : ∀ M' Y' th', zJ3 γ M' U A Y' th' o d → zAW p l e room_1 s m args below meth c γ 9 Q M' (k + 4) (n + 24) 4249 [some (.ref b), some (.ref (U 0)), some (.ref (A 0)), some (.ref o), some (.ref d), some (.int (zi i)), none, none, none] []) : zAW p l e room_1 s m args below meth c γ 9 Q M k n 3267 [some (.ref b), some (.ref (U 0)), some (.ref (A 0)), some (.ref o), some (.ref d), some (.int (zi i)), none, none, none] [] := by
  obtain ⟨hc, hk, hm, hUA, ⟨f0, ho⟩, ⟨g0, hd⟩, hUo, hUd, hAo, hAd, hod⟩ := J
  obtain ⟨fs0, ob0⟩ := hc.ob
  refine z_aload_n C dL_law_3267 rfl ?_
  refine z_aload_n C dL_law_3268 rfl ?_
  refine z_iload C dL_law_3269 rfl ?_
  refine z_iconst C dL_law_3271 ?_
  refine z_iaddZ C dL_law_3272 ?_
  refine z_xld C hXs hbs (by omega) (by omega) dL_law_3273 ?_
  refine z_aload_n C dL_law_3274 rfl ?_
  refine z_callSH C dL_law_3275 lkw_yearsToForget mwh_L_yearsToForget mst_L_yearsToForget (w_yearsToForget hc hk ho hUo (hys _)) rfl (by first | decide | exact Nat.le_of_ble_eq_true rfl) ⟨by decide, by decide, by show _ ≤ 601024; omega, by show _ ≤ 7293034; omega⟩ (fun _ _ h => False.elim h) (fun v M' hp => ?_)
  obtain ⟨rfl, hr, f1, hc1, f2, hx1, hv⟩ := hp
  have hm1 := hm.frm (zUA_f f1 hUA hAo)
  obtain ⟨fs1, ob1⟩ := hm1.ob
  have ho1 := hx1
  have hd1 := f1.at (fun w => (List.mem_cons.mp w).elim (fun w => hod w.symm) (zU_no hUd)) hd
  refine z_istore C dL_law_3278 (by decide) ?_
  refine z_aload_n C dL_law_3280 rfl ?_
  refine z_aload_n C dL_law_3281 rfl ?_
  refine z_iload C dL_law_3282 rfl ?_
  refine z_iconst C dL_law_3284 ?_
  refine z_iaddZ C dL_law_3285 ?_
  refine z_xld C hXs hbs (by omega) (by omega) dL_law_3286 ?_
  refine z_callV C dL_law_3287 lk_L_348 mw_X9_yearsToForget mi_X9_yearsToForget ms_X9_yearsToForget rfl ob1 (m_yearsToForget hm1 hk.1 (hys _)) rfl (by first | decide | exact Nat.le_of_ble_eq_true rfl) ⟨by decide, by decide, by show _ ≤ 601024; omega, by show _ ≤ 7293034; omega⟩ (fun _ _ h => False.elim h) (fun v M' hp => ?_)
  obtain ⟨b1, rfl, fA, hm2, hbv⟩ := hp
  have fB : zFr _ _ ((List.range 15).map A) := fA
  have ho2 := fB.at (mAll.no hAo) ho1
  have hd2 := fB.at (mAll.no hAd) hd1
  have J2 : zJ3 γ _ U A _ _ o d := ⟨hc1.frm fB (fun i hi => mAll.no (fun j hj w => hUA i j hi hj w.symm)), hk, hm2, hUA, ⟨_, ho2⟩, ⟨_, hd2⟩, hUo, hUd, hAo, hAd, hod⟩
  obtain ⟨fs2, ob2⟩ := hm2.ob
  refine z_istore C dL_law_3290 (by decide) ?_
  refine z_aload_n C dL_law_3292 rfl ?_
  refine z_callV C dL_law_3293 lk_L_202 mw_X9_thrown mi_X9_thrown ms_X9_thrown rfl ob2 (m_thrown hm2) rfl (by first | decide | exact Nat.le_of_ble_eq_true rfl) ⟨by decide, by decide, by show _ ≤ 601024; omega, by show _ ≤ 7293034; omega⟩ (fun _ _ h => False.elim h) (fun v M' hp => ?_)
  obtain ⟨rfl, rfl⟩ := hp
  refine z_iload C dL_law_3296 rfl ?_
  refine z_icmp_eq (tgt := 3303) C dL_law_3298 (by decide) (fun h3298 => ?_) (fun h3298 => ?_)
  · refine z_iload C dL_law_3303 rfl ?_
    refine z_if_ne (tgt := 3320) C dL_law_3305 (by decide) (fun h3305 => ?_) (fun h3305 => ?_)
    · refine z_goto (tgt := 4249) C dL_law_3320 (by decide) ?_
      exact z_fg (by omega) (by omega) ⟨_, _, _, rfl⟩ (next _ _ _ J2)
    · have z0 := zq_0 hr h3305
      refine z_aload_n C dL_law_3308 rfl ?_
      refine z_iconst C dL_law_3309 ?_
      refine z_aldJ (i := 0) C dL_law_3310 ho2 ⟨by decide, by decide⟩ (by decide) ?_
      refine z_iload C dL_law_3311 rfl ?_
      refine z_i2l C dL_law_3313 ?_
      refine z_lcmp C dL_law_3314 ?_
      refine z_if_eq (tgt := 3320) C dL_law_3315 (by decide) (fun h3315 => ?_) (fun h3315 => ?_)
      · refine z_goto (tgt := 4249) C dL_law_3320 (by decide) ?_
        exact z_fg (by omega) (by omega) ⟨_, _, _, rfl⟩ (next _ _ _ J2)
      · exact absurd (by show lg_cmp (f2 0) (zi b1).toInt64 = 0; rw [hv z0, hbv z0]; exact lg_same _) h3315
  · exact absurd rfl h3298
set_option maxHeartbeats 4000000 in
set_option maxRecDepth 100000 in
theorem cs_agreements (C : zC p l s m args meth c γ cL_law 9 (some .boolean) RL xt) {b N : Nat} {ys : Nat → Int} (hXs : va_X b N (fun j => zi (ys j)) s s.heap) (hbs : b < γ.2.1.size) (hN : N ≤ 3072) (hys : ∀ j, zR (ys j)) {U A : Nat → Nat} {Y : zSys} {th : Int} {o d : Nat} (J : zJ3 γ M U A Y th o d) {i : Int} (hi : 0 ≤ i ∧ i + 6 ≤ N) (hkn : k + 4 ≤ 601024 ∧ n + 24 ≤ 7293034) (next : ∀ M' Y' th', zJ3 γ M' U A Y' th' o d → zAW p l e room_1 s m args below meth c γ 9 Q M' (k + 4) (n + 24) 4249 [some (.ref b), some (.ref (U 0)), some (.ref (A 0)), some (.ref o), some (.ref d), some (.int (zi i)), none, none, none] []) : zAW p l e room_1 s m args below meth c γ 9 Q M k n 3323 [some (.ref b), some (.ref (U 0)), some (.ref (A 0)), some (.ref o), some (.ref d), some (.int (zi i)), none, none, none] [] := by
  obtain ⟨hc, hk, hm, hUA, ⟨f0, ho⟩, ⟨g0, hd⟩, hUo, hUd, hAo, hAd, hod⟩ := J
  obtain ⟨fs0, ob0⟩ := hc.ob
  refine z_aload_n C dL_law_3323 rfl ?_
  refine z_aload_n C dL_law_3324 rfl ?_
  refine z_iload C dL_law_3325 rfl ?_
  refine z_iconst C dL_law_3327 ?_
  refine z_iaddZ C dL_law_3328 ?_
  refine z_xld C hXs hbs (by omega) (by omega) dL_law_3329 ?_
  refine z_aload_n C dL_law_3330 rfl ?_
  refine z_iload C dL_law_3331 rfl ?_
  refine z_iconst C dL_law_3333 ?_
  refine z_iaddZ C dL_law_3334 ?_
  refine z_xld C hXs hbs (by omega) (by omega) dL_law_3335 ?_
  refine z_aload_n C dL_law_3336 rfl ?_
  refine z_callSH C dL_law_3337 lkw_agreements mwh_L_agreements mst_L_agreements (w_agreements hc hk ho hUo (hys _) (hys _)) rfl (by first | decide | exact Nat.le_of_ble_eq_true rfl) ⟨by decide, by decide, by show _ ≤ 601024; omega, by show _ ≤ 7293034; omega⟩ (fun _ _ h => False.elim h) (fun v M' hp => ?_)
  obtain ⟨rfl, hr, f1, hc1, f2, hx1, hv⟩ := hp
  have hm1 := hm.frm (zUA_f f1 hUA hAo)
  obtain ⟨fs1, ob1⟩ := hm1.ob
  have ho1 := hx1
  have hd1 := f1.at (fun w => (List.mem_cons.mp w).elim (fun w => hod w.symm) (zU_no hUd)) hd
  refine z_istore C dL_law_3340 (by decide) ?_
  refine z_aload_n C dL_law_3342 rfl ?_
  refine z_aload_n C dL_law_3343 rfl ?_
  refine z_iload C dL_law_3344 rfl ?_
  refine z_iconst C dL_law_3346 ?_
  refine z_iaddZ C dL_law_3347 ?_
  refine z_xld C hXs hbs (by omega) (by omega) dL_law_3348 ?_
  refine z_aload_n C dL_law_3349 rfl ?_
  refine z_iload C dL_law_3350 rfl ?_
  refine z_iconst C dL_law_3352 ?_
  refine z_iaddZ C dL_law_3353 ?_
  refine z_xld C hXs hbs (by omega) (by omega) dL_law_3354 ?_
  refine z_callV C dL_law_3355 lk_L_351 mw_X9_agreements mi_X9_agreements ms_X9_agreements rfl ob1 (m_agreements hm1 hk.1 (hys _) (hys _)) rfl (by first | decide | exact Nat.le_of_ble_eq_true rfl) ⟨by decide, by decide, by show _ ≤ 601024; omega, by show _ ≤ 7293034; omega⟩ (fun _ _ h => False.elim h) (fun v M' hp => ?_)
  obtain ⟨b1, rfl, fA, hm2, hbv⟩ := hp
  have fB : zFr _ _ ((List.range 15).map A) := fA
  have ho2 := fB.at (mAll.no hAo) ho1
  have hd2 := fB.at (mAll.no hAd) hd1
  have J2 : zJ3 γ _ U A _ _ o d := ⟨hc1.frm fB (fun i hi => mAll.no (fun j hj w => hUA i j hi hj w.symm)), hk, hm2, hUA, ⟨_, ho2⟩, ⟨_, hd2⟩, hUo, hUd, hAo, hAd, hod⟩
  obtain ⟨fs2, ob2⟩ := hm2.ob
  refine z_istore C dL_law_3358 (by decide) ?_
  refine z_aload_n C dL_law_3360 rfl ?_
  refine z_callV C dL_law_3361 lk_L_202 mw_X9_thrown mi_X9_thrown ms_X9_thrown rfl ob2 (m_thrown hm2) rfl (by first | decide | exact Nat.le_of_ble_eq_true rfl) ⟨by decide, by decide, by show _ ≤ 601024; omega, by show _ ≤ 7293034; omega⟩ (fun _ _ h => False.elim h) (fun v M' hp => ?_)
  obtain ⟨rfl, rfl⟩ := hp
  refine z_iload C dL_law_3364 rfl ?_
  refine z_icmp_eq (tgt := 3371) C dL_law_3366 (by decide) (fun h3366 => ?_) (fun h3366 => ?_)
  · refine z_iload C dL_law_3371 rfl ?_
    refine z_if_ne (tgt := 3388) C dL_law_3373 (by decide) (fun h3373 => ?_) (fun h3373 => ?_)
    · refine z_goto (tgt := 4249) C dL_law_3388 (by decide) ?_
      exact z_fg (by omega) (by omega) ⟨_, _, _, rfl⟩ (next _ _ _ J2)
    · have z0 := zq_0 hr h3373
      refine z_aload_n C dL_law_3376 rfl ?_
      refine z_iconst C dL_law_3377 ?_
      refine z_aldJ (i := 0) C dL_law_3378 ho2 ⟨by decide, by decide⟩ (by decide) ?_
      refine z_iload C dL_law_3379 rfl ?_
      refine z_i2l C dL_law_3381 ?_
      refine z_lcmp C dL_law_3382 ?_
      refine z_if_eq (tgt := 3388) C dL_law_3383 (by decide) (fun h3383 => ?_) (fun h3383 => ?_)
      · refine z_goto (tgt := 4249) C dL_law_3388 (by decide) ?_
        exact z_fg (by omega) (by omega) ⟨_, _, _, rfl⟩ (next _ _ _ J2)
      · exact absurd (by show lg_cmp (f2 0) (zi b1).toInt64 = 0; rw [hv z0, hbv z0]; exact lg_same _) h3383
  · exact absurd rfl h3366
set_option maxHeartbeats 4000000 in
set_option maxRecDepth 100000 in
theorem cs_addReader (C : zC p l s m args meth c γ cL_law 9 (some .boolean) RL xt) {b N : Nat} {ys : Nat → Int} (hXs : va_X b N (fun j => zi (ys j)) s s.heap) (hbs : b < γ.2.1.size) (hN : N ≤ 3072) (hys : ∀ j, zR (ys j)) {U A : Nat → Nat} {Y : zSys} {th : Int} {o d : Nat} (J : zJ3 γ M U A Y th o d) {i : Int} (hi : 0 ≤ i ∧ i + 6 ≤ N) (hkn : k + 4 ≤ 601024 ∧ n + 24 ≤ 7293034) (next : ∀ M' Y' th', zJ3 γ M' U A Y' th' o d → zAW p l e room_1 s m args below meth c γ 9 Q M' (k + 4) (n + 24) 4249 [some (.ref b), some (.ref (U 0)), some (.ref (A 0)), some (.ref o), some (.ref d), some (.int (zi i)), none, none, none] []) : zAW p l e room_1 s m args below meth c γ 9 Q M k n 3391 [some (.ref b), some (.ref (U 0)), some (.ref (A 0)), some (.ref o), some (.ref d), some (.int (zi i)), none, none, none] [] := by
  obtain ⟨hc, hk, hm, hUA, ⟨f0, ho⟩, ⟨g0, hd⟩, hUo, hUd, hAo, hAd, hod⟩ := J
  obtain ⟨fs0, ob0⟩ := hc.ob
  refine z_aload_n C dL_law_3391 rfl ?_
  refine z_aload_n C dL_law_3392 rfl ?_
  refine z_iload C dL_law_3393 rfl ?_
  refine z_iconst C dL_law_3395 ?_
  refine z_iaddZ C dL_law_3396 ?_
  refine z_xld C hXs hbs (by omega) (by omega) dL_law_3397 ?_
  refine z_aload_n C dL_law_3398 rfl ?_
  refine z_callSH C dL_law_3399 lkw_addReader mwh_L_addReader mst_L_addReader (w_addReader hc hk ho hUo (hys _)) rfl (by first | decide | exact Nat.le_of_ble_eq_true rfl) ⟨by decide, by decide, by show _ ≤ 601024; omega, by show _ ≤ 7293034; omega⟩ (fun _ _ h => False.elim h) (fun v M' hp => ?_)
  obtain ⟨rfl, hr, f1, hc1, f2, hx1, hv⟩ := hp
  have hm1 := hm.frm (zUA_f f1 hUA hAo)
  obtain ⟨fs1, ob1⟩ := hm1.ob
  have ho1 := hx1
  have hd1 := f1.at (fun w => (List.mem_cons.mp w).elim (fun w => hod w.symm) (zU_no hUd)) hd
  refine z_istore C dL_law_3402 (by decide) ?_
  refine z_aload_n C dL_law_3404 rfl ?_
  refine z_aload_n C dL_law_3405 rfl ?_
  refine z_iload C dL_law_3406 rfl ?_
  refine z_iconst C dL_law_3408 ?_
  refine z_iaddZ C dL_law_3409 ?_
  refine z_xld C hXs hbs (by omega) (by omega) dL_law_3410 ?_
  refine z_callV C dL_law_3411 lk_L_354 mw_X9_addReader mi_X9_addReader ms_X9_addReader rfl ob1 (m_addReader hm1 hk (hys _)) rfl (by first | decide | exact Nat.le_of_ble_eq_true rfl) ⟨by decide, by decide, by show _ ≤ 601024; omega, by show _ ≤ 7293034; omega⟩ (fun _ _ h => False.elim h) (fun v M' hp => ?_)
  obtain ⟨b1, rfl, fA, hmt, hmf⟩ := hp
  have hm2 := zYs_mo hmt hmf
  have hbv := fun w => (hmt w).2
  have fB : zFr _ _ ((List.range 15).map A) := fA
  have ho2 := fB.at (mAll.no hAo) ho1
  have hd2 := fB.at (mAll.no hAd) hd1
  have J2 : zJ3 γ _ U A _ _ o d := ⟨hc1.frm fB (fun i hi => mAll.no (fun j hj w => hUA i j hi hj w.symm)), (zYs_ok (fun w => ok_addReader hk w) hk), hm2, hUA, ⟨_, ho2⟩, ⟨_, hd2⟩, hUo, hUd, hAo, hAd, hod⟩
  obtain ⟨fs2, ob2⟩ := hm2.ob
  refine z_istore C dL_law_3414 (by decide) ?_
  refine z_aload_n C dL_law_3416 rfl ?_
  refine z_callV C dL_law_3417 lk_L_202 mw_X9_thrown mi_X9_thrown ms_X9_thrown rfl ob2 (m_thrown hm2) rfl (by first | decide | exact Nat.le_of_ble_eq_true rfl) ⟨by decide, by decide, by show _ ≤ 601024; omega, by show _ ≤ 7293034; omega⟩ (fun _ _ h => False.elim h) (fun v M' hp => ?_)
  obtain ⟨rfl, rfl⟩ := hp
  refine z_iload C dL_law_3420 rfl ?_
  refine z_icmp_eq (tgt := 3427) C dL_law_3422 (by decide) (fun h3422 => ?_) (fun h3422 => ?_)
  · refine z_iload C dL_law_3427 rfl ?_
    refine z_if_ne (tgt := 3444) C dL_law_3429 (by decide) (fun h3429 => ?_) (fun h3429 => ?_)
    · refine z_goto (tgt := 4249) C dL_law_3444 (by decide) ?_
      exact z_fg (by omega) (by omega) ⟨_, _, _, rfl⟩ (next _ _ _ J2)
    · have z0 := zq_0 hr h3429
      refine z_aload_n C dL_law_3432 rfl ?_
      refine z_iconst C dL_law_3433 ?_
      refine z_aldJ (i := 0) C dL_law_3434 ho2 ⟨by decide, by decide⟩ (by decide) ?_
      refine z_iload C dL_law_3435 rfl ?_
      refine z_i2l C dL_law_3437 ?_
      refine z_lcmp C dL_law_3438 ?_
      refine z_if_eq (tgt := 3444) C dL_law_3439 (by decide) (fun h3439 => ?_) (fun h3439 => ?_)
      · refine z_goto (tgt := 4249) C dL_law_3444 (by decide) ?_
        exact z_fg (by omega) (by omega) ⟨_, _, _, rfl⟩ (next _ _ _ J2)
      · exact absurd (by show lg_cmp (f2 0) (zi b1).toInt64 = 0; rw [hv z0, hbv z0]; exact lg_same _) h3439
  · exact absurd rfl h3422
set_option maxHeartbeats 4000000 in
set_option maxRecDepth 100000 in
theorem cs_addDocument (C : zC p l s m args meth c γ cL_law 9 (some .boolean) RL xt) {b N : Nat} {ys : Nat → Int} (hXs : va_X b N (fun j => zi (ys j)) s s.heap) (hbs : b < γ.2.1.size) (hN : N ≤ 3072) (hys : ∀ j, zR (ys j)) {U A : Nat → Nat} {Y : zSys} {th : Int} {o d : Nat} (J : zJ3 γ M U A Y th o d) {i : Int} (hi : 0 ≤ i ∧ i + 6 ≤ N) (hkn : k + 4 ≤ 601024 ∧ n + 24 ≤ 7293034) (next : ∀ M' Y' th', zJ3 γ M' U A Y' th' o d → zAW p l e room_1 s m args below meth c γ 9 Q M' (k + 4) (n + 24) 4249 [some (.ref b), some (.ref (U 0)), some (.ref (A 0)), some (.ref o), some (.ref d), some (.int (zi i)), none, none, none] []) : zAW p l e room_1 s m args below meth c γ 9 Q M k n 3447 [some (.ref b), some (.ref (U 0)), some (.ref (A 0)), some (.ref o), some (.ref d), some (.int (zi i)), none, none, none] [] := by
  obtain ⟨hc, hk, hm, hUA, ⟨f0, ho⟩, ⟨g0, hd⟩, hUo, hUd, hAo, hAd, hod⟩ := J
  obtain ⟨fs0, ob0⟩ := hc.ob
  refine z_aload_n C dL_law_3447 rfl ?_
  refine z_aload_n C dL_law_3448 rfl ?_
  refine z_callSH C dL_law_3449 lkw_addDocument mwh_L_addDocument mst_L_addDocument (w_addDocument hc hk ho hUo) rfl (by first | decide | exact Nat.le_of_ble_eq_true rfl) ⟨by decide, by decide, by show _ ≤ 601024; omega, by show _ ≤ 7293034; omega⟩ (fun _ _ h => False.elim h) (fun v M' hp => ?_)
  obtain ⟨rfl, hr, f1, hc1, f2, hx1, hv⟩ := hp
  have hm1 := hm.frm (zUA_f f1 hUA hAo)
  obtain ⟨fs1, ob1⟩ := hm1.ob
  have ho1 := hx1
  have hd1 := f1.at (fun w => (List.mem_cons.mp w).elim (fun w => hod w.symm) (zU_no hUd)) hd
  refine z_istore C dL_law_3452 (by decide) ?_
  refine z_aload_n C dL_law_3454 rfl ?_
  refine z_callV C dL_law_3455 lk_L_357 mw_X9_addDocument mi_X9_addDocument ms_X9_addDocument rfl ob1 (m_addDocument hm1 hk) rfl (by first | decide | exact Nat.le_of_ble_eq_true rfl) ⟨by decide, by decide, by show _ ≤ 601024; omega, by show _ ≤ 7293034; omega⟩ (fun _ _ h => False.elim h) (fun v M' hp => ?_)
  obtain ⟨b1, rfl, fA, hmt, hmf⟩ := hp
  have hm2 := zYs_mo hmt hmf
  have hbv := fun w => (hmt w).2
  have fB : zFr _ _ ((List.range 15).map A) := fA
  have ho2 := fB.at (mAll.no hAo) ho1
  have hd2 := fB.at (mAll.no hAd) hd1
  have J2 : zJ3 γ _ U A _ _ o d := ⟨hc1.frm fB (fun i hi => mAll.no (fun j hj w => hUA i j hi hj w.symm)), (zYs_ok (fun w => ok_addDocument hk w) hk), hm2, hUA, ⟨_, ho2⟩, ⟨_, hd2⟩, hUo, hUd, hAo, hAd, hod⟩
  obtain ⟨fs2, ob2⟩ := hm2.ob
  refine z_istore C dL_law_3458 (by decide) ?_
  refine z_aload_n C dL_law_3460 rfl ?_
  refine z_callV C dL_law_3461 lk_L_202 mw_X9_thrown mi_X9_thrown ms_X9_thrown rfl ob2 (m_thrown hm2) rfl (by first | decide | exact Nat.le_of_ble_eq_true rfl) ⟨by decide, by decide, by show _ ≤ 601024; omega, by show _ ≤ 7293034; omega⟩ (fun _ _ h => False.elim h) (fun v M' hp => ?_)
  obtain ⟨rfl, rfl⟩ := hp
  refine z_iload C dL_law_3464 rfl ?_
  refine z_icmp_eq (tgt := 3471) C dL_law_3466 (by decide) (fun h3466 => ?_) (fun h3466 => ?_)
  · refine z_iload C dL_law_3471 rfl ?_
    refine z_if_ne (tgt := 3488) C dL_law_3473 (by decide) (fun h3473 => ?_) (fun h3473 => ?_)
    · refine z_goto (tgt := 4249) C dL_law_3488 (by decide) ?_
      exact z_fg (by omega) (by omega) ⟨_, _, _, rfl⟩ (next _ _ _ J2)
    · have z0 := zq_0 hr h3473
      refine z_aload_n C dL_law_3476 rfl ?_
      refine z_iconst C dL_law_3477 ?_
      refine z_aldJ (i := 0) C dL_law_3478 ho2 ⟨by decide, by decide⟩ (by decide) ?_
      refine z_iload C dL_law_3479 rfl ?_
      refine z_i2l C dL_law_3481 ?_
      refine z_lcmp C dL_law_3482 ?_
      refine z_if_eq (tgt := 3488) C dL_law_3483 (by decide) (fun h3483 => ?_) (fun h3483 => ?_)
      · refine z_goto (tgt := 4249) C dL_law_3488 (by decide) ?_
        exact z_fg (by omega) (by omega) ⟨_, _, _, rfl⟩ (next _ _ _ J2)
      · exact absurd (by show lg_cmp (f2 0) (zi b1).toInt64 = 0; rw [hv z0, hbv z0]; exact lg_same _) h3483
  · exact absurd rfl h3466
set_option maxHeartbeats 4000000 in
set_option maxRecDepth 100000 in
theorem cs_train (C : zC p l s m args meth c γ cL_law 9 (some .boolean) RL xt) {b N : Nat} {ys : Nat → Int} (hXs : va_X b N (fun j => zi (ys j)) s s.heap) (hbs : b < γ.2.1.size) (hN : N ≤ 3072) (hys : ∀ j, zR (ys j)) {U A : Nat → Nat} {Y : zSys} {th : Int} {o d : Nat} (J : zJ3 γ M U A Y th o d) {i : Int} (hi : 0 ≤ i ∧ i + 6 ≤ N) (hkn : k + 4 ≤ 601024 ∧ n + 24 ≤ 7293034) (next : ∀ M' Y' th', zJ3 γ M' U A Y' th' o d → zAW p l e room_1 s m args below meth c γ 9 Q M' (k + 4) (n + 24) 4249 [some (.ref b), some (.ref (U 0)), some (.ref (A 0)), some (.ref o), some (.ref d), some (.int (zi i)), none, none, none] []) : zAW p l e room_1 s m args below meth c γ 9 Q M k n 3491 [some (.ref b), some (.ref (U 0)), some (.ref (A 0)), some (.ref o), some (.ref d), some (.int (zi i)), none, none, none] [] := by
  obtain ⟨hc, hk, hm, hUA, ⟨f0, ho⟩, ⟨g0, hd⟩, hUo, hUd, hAo, hAd, hod⟩ := J
  obtain ⟨fs0, ob0⟩ := hc.ob
  refine z_aload_n C dL_law_3491 rfl ?_
  refine z_aload_n C dL_law_3492 rfl ?_
  refine z_iload C dL_law_3493 rfl ?_
  refine z_iconst C dL_law_3495 ?_
  refine z_iaddZ C dL_law_3496 ?_
  refine z_xld C hXs hbs (by omega) (by omega) dL_law_3497 ?_
  refine z_aload_n C dL_law_3498 rfl ?_
  refine z_iload C dL_law_3499 rfl ?_
  refine z_iconst C dL_law_3501 ?_
  refine z_iaddZ C dL_law_3502 ?_
  refine z_xld C hXs hbs (by omega) (by omega) dL_law_3503 ?_
  refine z_aload_n C dL_law_3504 rfl ?_
  refine z_callSH C dL_law_3505 lkw_train mwh_L_train mst_L_train (w_train hc hk ho hUo (hys _) (hys _)) rfl (by first | decide | exact Nat.le_of_ble_eq_true rfl) ⟨by decide, by decide, by show _ ≤ 601024; omega, by show _ ≤ 7293034; omega⟩ (fun _ _ h => False.elim h) (fun v M' hp => ?_)
  obtain ⟨rfl, hr, f1, hc1, f2, hx1, hv⟩ := hp
  have hm1 := hm.frm (zUA_f f1 hUA hAo)
  obtain ⟨fs1, ob1⟩ := hm1.ob
  have ho1 := hx1
  have hd1 := f1.at (fun w => (List.mem_cons.mp w).elim (fun w => hod w.symm) (zU_no hUd)) hd
  refine z_istore C dL_law_3508 (by decide) ?_
  refine z_aload_n C dL_law_3510 rfl ?_
  refine z_aload_n C dL_law_3511 rfl ?_
  refine z_iload C dL_law_3512 rfl ?_
  refine z_iconst C dL_law_3514 ?_
  refine z_iaddZ C dL_law_3515 ?_
  refine z_xld C hXs hbs (by omega) (by omega) dL_law_3516 ?_
  refine z_aload_n C dL_law_3517 rfl ?_
  refine z_iload C dL_law_3518 rfl ?_
  refine z_iconst C dL_law_3520 ?_
  refine z_iaddZ C dL_law_3521 ?_
  refine z_xld C hXs hbs (by omega) (by omega) dL_law_3522 ?_
  refine z_callV C dL_law_3523 lk_L_360 mw_X9_train mi_X9_train ms_X9_train rfl ob1 (m_train hm1 hk (hys _) (hys _)) rfl (by first | decide | exact Nat.le_of_ble_eq_true rfl) ⟨by decide, by decide, by show _ ≤ 601024; omega, by show _ ≤ 7293034; omega⟩ (fun _ _ h => False.elim h) (fun v M' hp => ?_)
  obtain ⟨b1, rfl, fA, hmt, hmf⟩ := hp
  have hm2 := zYs_mo hmt hmf
  have hbv := fun w => (hmt w).2
  have fB : zFr _ _ ((List.range 15).map A) := fA
  have ho2 := fB.at (mAll.no hAo) ho1
  have hd2 := fB.at (mAll.no hAd) hd1
  have J2 : zJ3 γ _ U A _ _ o d := ⟨hc1.frm fB (fun i hi => mAll.no (fun j hj w => hUA i j hi hj w.symm)), (zYs_ok (fun w => ok_train hk w) hk), hm2, hUA, ⟨_, ho2⟩, ⟨_, hd2⟩, hUo, hUd, hAo, hAd, hod⟩
  obtain ⟨fs2, ob2⟩ := hm2.ob
  refine z_istore C dL_law_3526 (by decide) ?_
  refine z_aload_n C dL_law_3528 rfl ?_
  refine z_callV C dL_law_3529 lk_L_202 mw_X9_thrown mi_X9_thrown ms_X9_thrown rfl ob2 (m_thrown hm2) rfl (by first | decide | exact Nat.le_of_ble_eq_true rfl) ⟨by decide, by decide, by show _ ≤ 601024; omega, by show _ ≤ 7293034; omega⟩ (fun _ _ h => False.elim h) (fun v M' hp => ?_)
  obtain ⟨rfl, rfl⟩ := hp
  refine z_iload C dL_law_3532 rfl ?_
  refine z_icmp_eq (tgt := 3539) C dL_law_3534 (by decide) (fun h3534 => ?_) (fun h3534 => ?_)
  · refine z_iload C dL_law_3539 rfl ?_
    refine z_if_ne (tgt := 3556) C dL_law_3541 (by decide) (fun h3541 => ?_) (fun h3541 => ?_)
    · refine z_goto (tgt := 4249) C dL_law_3556 (by decide) ?_
      exact z_fg (by omega) (by omega) ⟨_, _, _, rfl⟩ (next _ _ _ J2)
    · have z0 := zq_0 hr h3541
      refine z_aload_n C dL_law_3544 rfl ?_
      refine z_iconst C dL_law_3545 ?_
      refine z_aldJ (i := 0) C dL_law_3546 ho2 ⟨by decide, by decide⟩ (by decide) ?_
      refine z_iload C dL_law_3547 rfl ?_
      refine z_i2l C dL_law_3549 ?_
      refine z_lcmp C dL_law_3550 ?_
      refine z_if_eq (tgt := 3556) C dL_law_3551 (by decide) (fun h3551 => ?_) (fun h3551 => ?_)
      · refine z_goto (tgt := 4249) C dL_law_3556 (by decide) ?_
        exact z_fg (by omega) (by omega) ⟨_, _, _, rfl⟩ (next _ _ _ J2)
      · exact absurd (by show lg_cmp (f2 0) (zi b1).toInt64 = 0; rw [hv z0, hbv z0]; exact lg_same _) h3551
  · exact absurd rfl h3534
end CSh

