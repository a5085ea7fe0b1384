/-! wrappers: contextSymbols, order2Contexts, positiveCounts, timesTrained, trainedSymbols, trainingGap -/
set_option maxHeartbeats 4000000 in
set_option maxRecDepth 100000 in
theorem w_contextSymbols {l : Launch} {γ : zG} {M : zM} {U : Nat → Nat} {Y : zSys} {o : Nat} {f0 : Nat → Int64} {rr bb pp : Int} (hc : hFc γ M U Y) (hk : yOk Y) (ho : M o = some (zaJ γ 1 f0)) (hoU : ∀ i, i < 532 → U i ≠ o) (r_rr : zR rr) (r_bb : zR bb) (r_pp : zR pp) :
    zConH l γ yL_contextSymbols cL_contextSymbols 6 (some .int) [(0, 12, 15, 29), (0, 12, 19, 19)] [.ref (U 0), .int (zi rr), .int (zi bb), .int (zi pp), .ref o] M 12 300 4 24 (wJ γ M U o Y (q_contextSymbols (yS Y) rr bb pp) ((zi (q_contextSymbols (yS Y) rr bb pp).2).toInt64)) (fun _ _ => False) := by
  refine zEnterH [some (.ref (U 0)), some (.int (zi rr)), some (.int (zi bb)), some (.int (zi pp)), some (.ref o), none] (by decide +kernel) rfl rfl (Nat.le_of_ble_eq_true rfl) ?_
  intro p e s m args below meth c Q C hin hQ
  obtain ⟨hI, pn, Z, iF, oF, hZ, hF, -, -, -⟩ := id hc
  unfold hFo at hF
  have hkx : ∀ E M', fX γ M U Y (q_contextSymbols (yS Y) rr bb pp) xIOB xIAE E M' → zXW p l e { frames := 12, cells := 4, slots := 24, locals := 300 } s m args below meth c γ 6 Q M' 2 12 7 [some (.ref (U 0)), some (.int (zi rr)), some (.int (zi bb)), some (.int (zi pp)), some (.ref o), none] E := by
    intro E M' hp
    obtain ⟨hok, ⟨h1, rfl⟩ | ⟨h2, rfl⟩⟩ := hp
    · refine z_caught C [] (0, 12, 15, 29) [(0, 12, 19, 19)] rfl (fun z hz => by cases hz) ⟨by decide, by decide⟩ (by decide) cl_IOB (by decide) (fun qx => ?_)
      refine z_astore C dL_contextSymbols_15 (by decide) ?_
      refine z_iconst C dL_contextSymbols_17 ?_
      refine z_iret C hQ dL_contextSymbols_18 rfl (by decide) (by decide) ?_
      exact wJ.x hok ho hoU h1 (by decide)
    · refine z_caught C [(0, 12, 15, 29)] (0, 12, 19, 19) [] rfl (fun z hz => by rw [List.mem_singleton.mp hz]; exact ⟨by decide, _, cl_IOB, by decide⟩) ⟨by decide, by decide⟩ (by decide) cl_IAE (by decide) (fun qx => ?_)
      refine z_astore C dL_contextSymbols_19 (by decide) ?_
      refine z_iconst C dL_contextSymbols_21 ?_
      refine z_iret C hQ dL_contextSymbols_22 rfl (by decide) (by decide) ?_
      exact wJ.x hok ho hoU h2 (by decide)
  refine z_aload C dL_contextSymbols_0 rfl ?_
  refine z_iconst C dL_contextSymbols_2 ?_
  refine z_aload_n C dL_contextSymbols_3 rfl ?_
  refine z_iload_n C dL_contextSymbols_4 rfl ?_
  refine z_iload_n C dL_contextSymbols_5 rfl ?_
  refine z_iload_n C dL_contextSymbols_6 rfl ?_
  refine z_callV C dL_contextSymbols_7 lk_L_59 mw_X8_contextSymbols mi_X8_contextSymbols ms_X8_contextSymbols rfl hF (k_X8_contextSymbols hc hk r_rr r_bb r_pp) rfl (by first | decide | exact Nat.le_of_ble_eq_true rfl) ⟨by decide, by decide, by decide, by decide⟩ hkx (fun v M' hp => ?_)
  obtain ⟨hok, h0, rfl⟩ := hp
  have ho1 := hok.1.at (zU_no hoU) ho
  refine z_i2l C dL_contextSymbols_10 ?_
  refine z_astJ (i := 0) C dL_contextSymbols_11 ho1 ⟨by decide, by decide⟩ (by decide) ?_
  refine z_goto (tgt := 23) C dL_contextSymbols_12 (by decide) ?_
  refine z_iconst C dL_contextSymbols_23 ?_
  refine z_iret C hQ dL_contextSymbols_24 rfl (by decide) (by decide) ?_
  exact wJ.r hok hoU h0
set_option maxHeartbeats 4000000 in
set_option maxRecDepth 100000 in
theorem w_order2Contexts {l : Launch} {γ : zG} {M : zM} {U : Nat → Nat} {Y : zSys} {o : Nat} {f0 : Nat → Int64} {rr : Int} (hc : hFc γ M U Y) (hk : yOk Y) (ho : M o = some (zaJ γ 1 f0)) (hoU : ∀ i, i < 532 → U i ≠ o) (r_rr : zR rr) :
    zConH l γ yL_order2Contexts cL_order2Contexts 4 (some .int) [(0, 9, 12, 29)] [.ref (U 0), .int (zi rr), .ref o] M 12 300 4 24 (wJ γ M U o Y (q_order2Contexts (yS Y) rr) ((zi (q_order2Contexts (yS Y) rr).2).toInt64)) (fun _ _ => False) := by
  refine zEnterH [some (.ref (U 0)), some (.int (zi rr)), some (.ref o), none] (by decide +kernel) rfl rfl (Nat.le_of_ble_eq_true rfl) ?_
  intro p e s m args below meth c Q C hin hQ
  obtain ⟨hI, pn, Z, iF, oF, hZ, hF, -, -, -⟩ := id hc
  unfold hFo at hF
  have n2 : (q_order2Contexts (yS Y) rr).1 ≠ 2 := by
    simp only [q_order2Contexts, zqR, zqD, zqS]
    (repeat' split) <;> first | exact (by decide : (0 : Int) ≠ 2) | exact (by decide : (1 : Int) ≠ 2)
  have hkx : ∀ E M', fX γ M U Y (q_order2Contexts (yS Y) rr) xIOB xIAE E M' → zXW p l e { frames := 12, cells := 4, slots := 24, locals := 300 } s m args below meth c γ 4 Q M' 1 6 4 [some (.ref (U 0)), some (.int (zi rr)), some (.ref o), none] E := by
    intro E M' hp
    obtain ⟨hok, ⟨h1, rfl⟩ | ⟨h2, rfl⟩⟩ := hp
    · refine z_caught C [] (0, 9, 12, 29) [] rfl (fun z hz => by cases hz) ⟨by decide, by decide⟩ (by decide) cl_IOB (by decide) (fun qx => ?_)
      refine z_astore_n C dL_order2Contexts_12 (by decide) ?_
      refine z_iconst C dL_order2Contexts_13 ?_
      refine z_iret C hQ dL_order2Contexts_14 rfl (by decide) (by decide) ?_
      exact wJ.x hok ho hoU h1 (by decide)
    · exact absurd h2 n2
  refine z_aload_n C dL_order2Contexts_0 rfl ?_
  refine z_iconst C dL_order2Contexts_1 ?_
  refine z_aload_n C dL_order2Contexts_2 rfl ?_
  refine z_iload_n C dL_order2Contexts_3 rfl ?_
  refine z_callV C dL_order2Contexts_4 lk_L_62 mw_X8_order2Contexts mi_X8_order2Contexts ms_X8_order2Contexts rfl hF (k_X8_order2Contexts hc hk r_rr) rfl (by first | decide | exact Nat.le_of_ble_eq_true rfl) ⟨by decide, by decide, by decide, by decide⟩ hkx (fun v M' hp => ?_)
  obtain ⟨hok, h0, rfl⟩ := hp
  have ho1 := hok.1.at (zU_no hoU) ho
  refine z_i2l C dL_order2Contexts_7 ?_
  refine z_astJ (i := 0) C dL_order2Contexts_8 ho1 ⟨by decide, by decide⟩ (by decide) ?_
  refine z_goto (tgt := 15) C dL_order2Contexts_9 (by decide) ?_
  refine z_iconst C dL_order2Contexts_15 ?_
  refine z_iret C hQ dL_order2Contexts_16 rfl (by decide) (by decide) ?_
  exact wJ.r hok hoU h0
set_option maxHeartbeats 4000000 in
set_option maxRecDepth 100000 in
theorem w_positiveCounts {l : Launch} {γ : zG} {M : zM} {U : Nat → Nat} {Y : zSys} {o : Nat} {f0 : Nat → Int64} {rr : Int} (hc : hFc γ M U Y) (hk : yOk Y) (ho : M o = some (zaJ γ 1 f0)) (hoU : ∀ i, i < 532 → U i ≠ o) (r_rr : zR rr) :
    zConH l γ yL_positiveCounts cL_positiveCounts 4 (some .int) [(0, 9, 12, 29)] [.ref (U 0), .int (zi rr), .ref o] M 12 300 4 24 (wJ γ M U o Y (q_positiveCounts (yS Y) rr) ((zi (q_positiveCounts (yS Y) rr).2).toInt64)) (fun _ _ => False) := by
  refine zEnterH [some (.ref (U 0)), some (.int (zi rr)), some (.ref o), none] (by decide +kernel) rfl rfl (Nat.le_of_ble_eq_true rfl) ?_
  intro p e s m args below meth c Q C hin hQ
  obtain ⟨hI, pn, Z, iF, oF, hZ, hF, -, -, -⟩ := id hc
  unfold hFo at hF
  have n2 : (q_positiveCounts (yS Y) rr).1 ≠ 2 := by
    simp only [q_positiveCounts, zqR, zqD, zqS]
    (repeat' split) <;> first | exact (by decide : (0 : Int) ≠ 2) | exact (by decide : (1 : Int) ≠ 2)
  have hkx : ∀ E M', fX γ M U Y (q_positiveCounts (yS Y) rr) xIOB xIAE E M' → zXW p l e { frames := 12, cells := 4, slots := 24, locals := 300 } s m args below meth c γ 4 Q M' 1 6 4 [some (.ref (U 0)), some (.int (zi rr)), some (.ref o), none] E := by
    intro E M' hp
    obtain ⟨hok, ⟨h1, rfl⟩ | ⟨h2, rfl⟩⟩ := hp
    · refine z_caught C [] (0, 9, 12, 29) [] rfl (fun z hz => by cases hz) ⟨by decide, by decide⟩ (by decide) cl_IOB (by decide) (fun qx => ?_)
      refine z_astore_n C dL_positiveCounts_12 (by decide) ?_
      refine z_iconst C dL_positiveCounts_13 ?_
      refine z_iret C hQ dL_positiveCounts_14 rfl (by decide) (by decide) ?_
      exact wJ.x hok ho hoU h1 (by decide)
    · exact absurd h2 n2
  refine z_aload_n C dL_positiveCounts_0 rfl ?_
  refine z_iconst C dL_positiveCounts_1 ?_
  refine z_aload_n C dL_positiveCounts_2 rfl ?_
  refine z_iload_n C dL_positiveCounts_3 rfl ?_
  refine z_callV C dL_positiveCounts_4 lk_L_65 mw_X8_positiveCounts mi_X8_positiveCounts ms_X8_positiveCounts rfl hF (k_X8_positiveCounts hc hk r_rr) rfl (by first | decide | exact Nat.le_of_ble_eq_true rfl) ⟨by decide, by decide, by decide, by decide⟩ hkx (fun v M' hp => ?_)
  obtain ⟨hok, h0, rfl⟩ := hp
  have ho1 := hok.1.at (zU_no hoU) ho
  refine z_i2l C dL_positiveCounts_7 ?_
  refine z_astJ (i := 0) C dL_positiveCounts_8 ho1 ⟨by decide, by decide⟩ (by decide) ?_
  refine z_goto (tgt := 15) C dL_positiveCounts_9 (by decide) ?_
  refine z_iconst C dL_positiveCounts_15 ?_
  refine z_iret C hQ dL_positiveCounts_16 rfl (by decide) (by decide) ?_
  exact wJ.r hok hoU h0
set_option maxHeartbeats 4000000 in
set_option maxRecDepth 100000 in
theorem w_timesTrained {l : Launch} {γ : zG} {M : zM} {U : Nat → Nat} {Y : zSys} {o : Nat} {f0 : Nat → Int64} {rr dd : Int} (hc : hFc γ M U Y) (hk : yOk Y) (ho : M o = some (zaJ γ 1 f0)) (hoU : ∀ i, i < 532 → U i ≠ o) (r_rr : zR rr) (r_dd : zR dd) :
    zConH l γ yL_timesTrained cL_timesTrained 5 (some .int) [(0, 10, 13, 29)] [.ref (U 0), .int (zi rr), .int (zi dd), .ref o] M 12 300 4 24 (wJ γ M U o Y (q_timesTrained (yS Y) rr dd) ((zi (q_timesTrained (yS Y) rr dd).2).toInt64)) (fun _ _ => False) := by
  refine zEnterH [some (.ref (U 0)), some (.int (zi rr)), some (.int (zi dd)), some (.ref o), none] (by decide +kernel) rfl rfl (Nat.le_of_ble_eq_true rfl) ?_
  intro p e s m args below meth c Q C hin hQ
  obtain ⟨hI, pn, Z, iF, oF, hZ, hF, -, -, -⟩ := id hc
  unfold hFo at hF
  have n2 : (q_timesTrained (yS Y) rr dd).1 ≠ 2 := by
    simp only [q_timesTrained, zqR, zqD, zqS]
    (repeat' split) <;> first | exact (by decide : (0 : Int) ≠ 2) | exact (by decide : (1 : Int) ≠ 2)
  have hkx : ∀ E M', fX γ M U Y (q_timesTrained (yS Y) rr dd) xIOB xIAE E M' → zXW p l e { frames := 12, cells := 4, slots := 24, locals := 300 } s m args below meth c γ 5 Q M' 2 12 5 [some (.ref (U 0)), some (.int (zi rr)), some (.int (zi dd)), some (.ref o), none] E := by
    intro E M' hp
    obtain ⟨hok, ⟨h1, rfl⟩ | ⟨h2, rfl⟩⟩ := hp
    · refine z_caught C [] (0, 10, 13, 29) [] rfl (fun z hz => by cases hz) ⟨by decide, by decide⟩ (by decide) cl_IOB (by decide) (fun qx => ?_)
      refine z_astore C dL_timesTrained_13 (by decide) ?_
      refine z_iconst C dL_timesTrained_15 ?_
      refine z_iret C hQ dL_timesTrained_16 rfl (by decide) (by decide) ?_
      exact wJ.x hok ho hoU h1 (by decide)
    · exact absurd h2 n2
  refine z_aload_n C dL_timesTrained_0 rfl ?_
  refine z_iconst C dL_timesTrained_1 ?_
  refine z_aload_n C dL_timesTrained_2 rfl ?_
  refine z_iload_n C dL_timesTrained_3 rfl ?_
  refine z_iload_n C dL_timesTrained_4 rfl ?_
  refine z_callV C dL_timesTrained_5 lk_L_68 mw_X8_timesTrained mi_X8_timesTrained ms_X8_timesTrained rfl hF (k_X8_timesTrained hc hk r_rr r_dd) rfl (by first | decide | exact Nat.le_of_ble_eq_true rfl) ⟨by decide, by decide, by decide, by decide⟩ hkx (fun v M' hp => ?_)
  obtain ⟨hok, h0, rfl⟩ := hp
  have ho1 := hok.1.at (zU_no hoU) ho
  refine z_i2l C dL_timesTrained_8 ?_
  refine z_astJ (i := 0) C dL_timesTrained_9 ho1 ⟨by decide, by decide⟩ (by decide) ?_
  refine z_goto (tgt := 17) C dL_timesTrained_10 (by decide) ?_
  refine z_iconst C dL_timesTrained_17 ?_
  refine z_iret C hQ dL_timesTrained_18 rfl (by decide) (by decide) ?_
  exact wJ.r hok hoU h0
set_option maxHeartbeats 4000000 in
set_option maxRecDepth 100000 in
theorem w_trainedSymbols {l : Launch} {γ : zG} {M : zM} {U : Nat → Nat} {Y : zSys} {o : Nat} {f0 : Nat → Int64} {rr : Int} (hc : hFc γ M U Y) (hk : yOk Y) (ho : M o = some (zaJ γ 1 f0)) (hoU : ∀ i, i < 532 → U i ≠ o) (r_rr : zR rr) :
    zConH l γ yL_trainedSymbols cL_trainedSymbols 4 (some .int) [(0, 9, 12, 29)] [.ref (U 0), .int (zi rr), .ref o] M 12 300 4 24 (wJ γ M U o Y (q_trainedSymbols (yS Y) rr) ((zi (q_trainedSymbols (yS Y) rr).2).toInt64)) (fun _ _ => False) := by
  refine zEnterH [some (.ref (U 0)), some (.int (zi rr)), some (.ref o), none] (by decide +kernel) rfl rfl (Nat.le_of_ble_eq_true rfl) ?_
  intro p e s m args below meth c Q C hin hQ
  obtain ⟨hI, pn, Z, iF, oF, hZ, hF, -, -, -⟩ := id hc
  unfold hFo at hF
  have n2 : (q_trainedSymbols (yS Y) rr).1 ≠ 2 := by
    simp only [q_trainedSymbols, zqR, zqD, zqS]
    (repeat' split) <;> first | exact (by decide : (0 : Int) ≠ 2) | exact (by decide : (1 : Int) ≠ 2)
  have hkx : ∀ E M', fX γ M U Y (q_trainedSymbols (yS Y) rr) xIOB xIAE E M' → zXW p l e { frames := 12, cells := 4, slots := 24, locals := 300 } s m args below meth c γ 4 Q M' 1 6 4 [some (.ref (U 0)), some (.int (zi rr)), some (.ref o), none] E := by
    intro E M' hp
    obtain ⟨hok, ⟨h1, rfl⟩ | ⟨h2, rfl⟩⟩ := hp
    · refine z_caught C [] (0, 9, 12, 29) [] rfl (fun z hz => by cases hz) ⟨by decide, by decide⟩ (by decide) cl_IOB (by decide) (fun qx => ?_)
      refine z_astore_n C dL_trainedSymbols_12 (by decide) ?_
      refine z_iconst C dL_trainedSymbols_13 ?_
      refine z_iret C hQ dL_trainedSymbols_14 rfl (by decide) (by decide) ?_
      exact wJ.x hok ho hoU h1 (by decide)
    · exact absurd h2 n2
  refine z_aload_n C dL_trainedSymbols_0 rfl ?_
  refine z_iconst C dL_trainedSymbols_1 ?_
  refine z_aload_n C dL_trainedSymbols_2 rfl ?_
  refine z_iload_n C dL_trainedSymbols_3 rfl ?_
  refine z_callV C dL_trainedSymbols_4 lk_L_71 mw_X8_trainedSymbols mi_X8_trainedSymbols ms_X8_trainedSymbols rfl hF (k_X8_trainedSymbols hc hk r_rr) rfl (by first | decide | exact Nat.le_of_ble_eq_true rfl) ⟨by decide, by decide, by decide, by decide⟩ hkx (fun v M' hp => ?_)
  obtain ⟨hok, h0, rfl⟩ := hp
  have ho1 := hok.1.at (zU_no hoU) ho
  refine z_i2l C dL_trainedSymbols_7 ?_
  refine z_astJ (i := 0) C dL_trainedSymbols_8 ho1 ⟨by decide, by decide⟩ (by decide) ?_
  refine z_goto (tgt := 15) C dL_trainedSymbols_9 (by decide) ?_
  refine z_iconst C dL_trainedSymbols_15 ?_
  refine z_iret C hQ dL_trainedSymbols_16 rfl (by decide) (by decide) ?_
  exact wJ.r hok hoU h0
set_option maxHeartbeats 4000000 in
set_option maxRecDepth 100000 in
theorem w_trainingGap {l : Launch} {γ : zG} {M : zM} {U : Nat → Nat} {Y : zSys} {o : Nat} {f0 : Nat → Int64} {rr : Int} (hc : hFc γ M U Y) (hk : yOk Y) (ho : M o = some (zaJ γ 1 f0)) (hoU : ∀ i, i < 532 → U i ≠ o) (r_rr : zR rr) :
    zConH l γ yL_trainingGap cL_trainingGap 4 (some .int) [(0, 9, 12, 29)] [.ref (U 0), .int (zi rr), .ref o] M 12 300 4 24 (wJ γ M U o Y (q_trainingGap (yS Y) rr) ((zi (q_trainingGap (yS Y) rr).2).toInt64)) (fun _ _ => False) := by
  refine zEnterH [some (.ref (U 0)), some (.int (zi rr)), some (.ref o), none] (by decide +kernel) rfl rfl (Nat.le_of_ble_eq_true rfl) ?_
  intro p e s m args below meth c Q C hin hQ
  obtain ⟨hI, pn, Z, iF, oF, hZ, hF, -, -, -⟩ := id hc
  unfold hFo at hF
  have n2 : (q_trainingGap (yS Y) rr).1 ≠ 2 := by
    simp only [q_trainingGap, zqR, zqD, zqS]
    (repeat' split) <;> first | exact (by decide : (0 : Int) ≠ 2) | exact (by decide : (1 : Int) ≠ 2)
  have hkx : ∀ E M', fX γ M U Y (q_trainingGap (yS Y) rr) xIOB xIAE E M' → zXW p l e { frames := 12, cells := 4, slots := 24, locals := 300 } s m args below meth c γ 4 Q M' 1 6 4 [some (.ref (U 0)), some (.int (zi rr)), some (.ref o), none] E := by
    intro E M' hp
    obtain ⟨hok, ⟨h1, rfl⟩ | ⟨h2, rfl⟩⟩ := hp
    · refine z_caught C [] (0, 9, 12, 29) [] rfl (fun z hz => by cases hz) ⟨by decide, by decide⟩ (by decide) cl_IOB (by decide) (fun qx => ?_)
      refine z_astore_n C dL_trainingGap_12 (by decide) ?_
      refine z_iconst C dL_trainingGap_13 ?_
      refine z_iret C hQ dL_trainingGap_14 rfl (by decide) (by decide) ?_
      exact wJ.x hok ho hoU h1 (by decide)
    · exact absurd h2 n2
  refine z_aload_n C dL_trainingGap_0 rfl ?_
  refine z_iconst C dL_trainingGap_1 ?_
  refine z_aload_n C dL_trainingGap_2 rfl ?_
  refine z_iload_n C dL_trainingGap_3 rfl ?_
  refine z_callV C dL_trainingGap_4 lk_L_74 mw_X8_trainingGap mi_X8_trainingGap ms_X8_trainingGap rfl hF (k_X8_trainingGap hc hk r_rr) rfl (by first | decide | exact Nat.le_of_ble_eq_true rfl) ⟨by decide, by decide, by decide, by decide⟩ hkx (fun v M' hp => ?_)
  obtain ⟨hok, h0, rfl⟩ := hp
  have ho1 := hok.1.at (zU_no hoU) ho
  refine z_i2l C dL_trainingGap_7 ?_
  refine z_astJ (i := 0) C dL_trainingGap_8 ho1 ⟨by decide, by decide⟩ (by decide) ?_
  refine z_goto (tgt := 15) C dL_trainingGap_9 (by decide) ?_
  refine z_iconst C dL_trainingGap_15 ?_
  refine z_iret C hQ dL_trainingGap_16 rfl (by decide) (by decide) ?_
  exact wJ.r hok hoU h0

