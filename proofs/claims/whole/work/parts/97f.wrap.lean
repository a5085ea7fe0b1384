/-! wrappers: probability, codeLength, rankAt, totalGuesses, adaptiveGuesses, firstGuessHits -/
set_option maxHeartbeats 4000000 in
set_option maxRecDepth 100000 in
theorem w_probability {l : Launch} {γ : zG} {M : zM} {U : Nat → Nat} {Y : zSys} {o : Nat} {f0 : Nat → UInt64} {rr bb pp ss : Int} (hc : hFc γ M U Y) (hk : yOk Y) (ho : M o = some (zaD γ 1 f0)) (hoU : ∀ i, i < 532 → U i ≠ o) (r_rr : zR rr) (r_bb : zR bb) (r_pp : zR pp) (r_ss : zR ss) :
    zConH l γ yL_probability cL_probability 7 (some .int) [(0, 13, 16, 29), (0, 13, 20, 19)] [.ref (U 0), .int (zi rr), .int (zi bb), .int (zi pp), .int (zi ss), .ref o] M 12 300 4 24 (wD γ M U o Y (q_probability (yS Y) rr bb pp ss) (x_probability (yS Y) rr bb pp ss)) (fun _ _ => False) := by
  refine zEnterH [some (.ref (U 0)), some (.int (zi rr)), some (.int (zi bb)), some (.int (zi pp)), some (.int (zi ss)), some (.ref o), none] (by decide +kernel) rfl rfl (Nat.le_of_ble_eq_true rfl) ?_
  intro p e s m args below meth c Q C hin hQ
  obtain ⟨hI, pn, Z, iF, oF, hZ, hF, -, -, -⟩ := id hc
  unfold hFo at hF
  have hkx : ∀ E M', fX γ M U Y (q_probability (yS Y) rr bb pp ss) xIOB xIAE E M' → zXW p l e { frames := 12, cells := 4, slots := 24, locals := 300 } s m args below meth c γ 7 Q M' 3 18 9 [some (.ref (U 0)), some (.int (zi rr)), some (.int (zi bb)), some (.int (zi pp)), some (.int (zi ss)), some (.ref o), none] E := by
    intro E M' hp
    obtain ⟨hok, ⟨h1, rfl⟩ | ⟨h2, rfl⟩⟩ := hp
    · refine z_caught C [] (0, 13, 16, 29) [(0, 13, 20, 19)] rfl (fun z hz => by cases hz) ⟨by decide, by decide⟩ (by decide) cl_IOB (by decide) (fun qx => ?_)
      refine z_astore C dL_probability_16 (by decide) ?_
      refine z_iconst C dL_probability_18 ?_
      refine z_iret C hQ dL_probability_19 rfl (by decide) (by decide) ?_
      exact wD.x hok ho hoU h1 (by decide)
    · refine z_caught C [(0, 13, 16, 29)] (0, 13, 20, 19) [] rfl (fun z hz => by rw [List.mem_singleton.mp hz]; exact ⟨by decide, _, cl_IOB, by decide⟩) ⟨by decide, by decide⟩ (by decide) cl_IAE (by decide) (fun qx => ?_)
      refine z_astore C dL_probability_20 (by decide) ?_
      refine z_iconst C dL_probability_22 ?_
      refine z_iret C hQ dL_probability_23 rfl (by decide) (by decide) ?_
      exact wD.x hok ho hoU h2 (by decide)
  refine z_aload C dL_probability_0 rfl ?_
  refine z_iconst C dL_probability_2 ?_
  refine z_aload_n C dL_probability_3 rfl ?_
  refine z_iload_n C dL_probability_4 rfl ?_
  refine z_iload_n C dL_probability_5 rfl ?_
  refine z_iload_n C dL_probability_6 rfl ?_
  refine z_iload C dL_probability_7 rfl ?_
  refine z_callV C dL_probability_9 lk_L_96 mw_X8_probability mi_X8_probability ms_X8_probability rfl hF (k_X8_probability hc hk r_rr r_bb r_pp r_ss) rfl (by first | decide | exact Nat.le_of_ble_eq_true rfl) ⟨by decide, by decide, by decide, by decide⟩ hkx (fun v M' hp => ?_)
  obtain ⟨hok, h0, rfl⟩ := hp
  have ho1 := hok.1.at (zU_no hoU) ho
  refine z_astD (i := 0) C dL_probability_12 ho1 ⟨by decide, by decide⟩ (by decide) ?_
  refine z_goto (tgt := 24) C dL_probability_13 (by decide) ?_
  refine z_iconst C dL_probability_24 ?_
  refine z_iret C hQ dL_probability_25 rfl (by decide) (by decide) ?_
  exact wD.r hok hoU h0
set_option maxHeartbeats 4000000 in
set_option maxRecDepth 100000 in
theorem w_codeLength {l : Launch} {γ : zG} {M : zM} {U : Nat → Nat} {Y : zSys} {o : Nat} {f0 : Nat → Int64} {rr bb pp ss : Int} (hc : hFc γ M U Y) (hk : yOk Y) (ho : M o = some (zaJ γ 1 f0)) (hoU : ∀ i, i < 532 → U i ≠ o) (r_rr : zR rr) (r_bb : zR bb) (r_pp : zR pp) (r_ss : zR ss) :
    zConH l γ yL_codeLength cL_codeLength 7 (some .int) [(0, 14, 17, 29), (0, 14, 21, 19)] [.ref (U 0), .int (zi rr), .int (zi bb), .int (zi pp), .int (zi ss), .ref o] M 12 300 4 24 (wJ γ M U o Y (q_codeLength (yS Y) rr bb pp ss) ((zi (q_codeLength (yS Y) rr bb pp ss).2).toInt64)) (fun _ _ => False) := by
  refine zEnterH [some (.ref (U 0)), some (.int (zi rr)), some (.int (zi bb)), some (.int (zi pp)), some (.int (zi ss)), some (.ref o), none] (by decide +kernel) rfl rfl (Nat.le_of_ble_eq_true rfl) ?_
  intro p e s m args below meth c Q C hin hQ
  obtain ⟨hI, pn, Z, iF, oF, hZ, hF, -, -, -⟩ := id hc
  unfold hFo at hF
  have hkx : ∀ E M', fX γ M U Y (q_codeLength (yS Y) rr bb pp ss) xIOB xIAE E M' → zXW p l e { frames := 12, cells := 4, slots := 24, locals := 300 } s m args below meth c γ 7 Q M' 3 18 9 [some (.ref (U 0)), some (.int (zi rr)), some (.int (zi bb)), some (.int (zi pp)), some (.int (zi ss)), some (.ref o), none] E := by
    intro E M' hp
    obtain ⟨hok, ⟨h1, rfl⟩ | ⟨h2, rfl⟩⟩ := hp
    · refine z_caught C [] (0, 14, 17, 29) [(0, 14, 21, 19)] rfl (fun z hz => by cases hz) ⟨by decide, by decide⟩ (by decide) cl_IOB (by decide) (fun qx => ?_)
      refine z_astore C dL_codeLength_17 (by decide) ?_
      refine z_iconst C dL_codeLength_19 ?_
      refine z_iret C hQ dL_codeLength_20 rfl (by decide) (by decide) ?_
      exact wJ.x hok ho hoU h1 (by decide)
    · refine z_caught C [(0, 14, 17, 29)] (0, 14, 21, 19) [] rfl (fun z hz => by rw [List.mem_singleton.mp hz]; exact ⟨by decide, _, cl_IOB, by decide⟩) ⟨by decide, by decide⟩ (by decide) cl_IAE (by decide) (fun qx => ?_)
      refine z_astore C dL_codeLength_21 (by decide) ?_
      refine z_iconst C dL_codeLength_23 ?_
      refine z_iret C hQ dL_codeLength_24 rfl (by decide) (by decide) ?_
      exact wJ.x hok ho hoU h2 (by decide)
  refine z_aload C dL_codeLength_0 rfl ?_
  refine z_iconst C dL_codeLength_2 ?_
  refine z_aload_n C dL_codeLength_3 rfl ?_
  refine z_iload_n C dL_codeLength_4 rfl ?_
  refine z_iload_n C dL_codeLength_5 rfl ?_
  refine z_iload_n C dL_codeLength_6 rfl ?_
  refine z_iload C dL_codeLength_7 rfl ?_
  refine z_callV C dL_codeLength_9 lk_L_100 mw_X8_codeLength mi_X8_codeLength ms_X8_codeLength rfl hF (k_X8_codeLength hc hk r_rr r_bb r_pp r_ss) rfl (by first | decide | exact Nat.le_of_ble_eq_true rfl) ⟨by decide, by decide, by decide, by decide⟩ hkx (fun v M' hp => ?_)
  obtain ⟨hok, h0, rfl⟩ := hp
  have ho1 := hok.1.at (zU_no hoU) ho
  refine z_i2l C dL_codeLength_12 ?_
  refine z_astJ (i := 0) C dL_codeLength_13 ho1 ⟨by decide, by decide⟩ (by decide) ?_
  refine z_goto (tgt := 25) C dL_codeLength_14 (by decide) ?_
  refine z_iconst C dL_codeLength_25 ?_
  refine z_iret C hQ dL_codeLength_26 rfl (by decide) (by decide) ?_
  exact wJ.r hok hoU h0
set_option maxHeartbeats 4000000 in
set_option maxRecDepth 100000 in
theorem w_rankAt {l : Launch} {γ : zG} {M : zM} {U : Nat → Nat} {Y : zSys} {o : Nat} {f0 : Nat → Int64} {rr dd ii : Int} (hc : hFc γ M U Y) (hk : yOk Y) (ho : M o = some (zaJ γ 1 f0)) (hoU : ∀ i, i < 532 → U i ≠ o) (r_rr : zR rr) (r_dd : zR dd) (r_ii : zR ii) :
    zConH l γ yL_rankAt cL_rankAt 6 (some .int) [(0, 12, 15, 29), (0, 12, 19, 31)] [.ref (U 0), .int (zi rr), .int (zi dd), .int (zi ii), .ref o] M 12 300 4 24 (wJ γ M U o Y (q_rankAt (yS Y) rr dd ii) ((zi (q_rankAt (yS Y) rr dd ii).2).toInt64)) (fun _ _ => False) := by
  refine zEnterH [some (.ref (U 0)), some (.int (zi rr)), some (.int (zi dd)), some (.int (zi ii)), some (.ref o), none] (by decide +kernel) rfl rfl (Nat.le_of_ble_eq_true rfl) ?_
  intro p e s m args below meth c Q C hin hQ
  obtain ⟨hI, pn, Z, iF, oF, hZ, hF, -, -, -⟩ := id hc
  unfold hFo at hF
  have hkx : ∀ E M', fX γ M U Y (q_rankAt (yS Y) rr dd ii) xIOB nsN E M' → zXW p l e { frames := 12, cells := 4, slots := 24, locals := 300 } s m args below meth c γ 6 Q M' 3 18 7 [some (.ref (U 0)), some (.int (zi rr)), some (.int (zi dd)), some (.int (zi ii)), some (.ref o), none] E := by
    intro E M' hp
    obtain ⟨hok, ⟨h1, rfl⟩ | ⟨h2, rfl⟩⟩ := hp
    · refine z_caught C [] (0, 12, 15, 29) [(0, 12, 19, 31)] rfl (fun z hz => by cases hz) ⟨by decide, by decide⟩ (by decide) cl_IOB (by decide) (fun qx => ?_)
      refine z_astore C dL_rankAt_15 (by decide) ?_
      refine z_iconst C dL_rankAt_17 ?_
      refine z_iret C hQ dL_rankAt_18 rfl (by decide) (by decide) ?_
      exact wJ.x hok ho hoU h1 (by decide)
    · refine z_caught C [(0, 12, 15, 29)] (0, 12, 19, 31) [] rfl (fun z hz => by rw [List.mem_singleton.mp hz]; exact ⟨by decide, _, cl_IOB, by decide⟩) ⟨by decide, by decide⟩ (by decide) cl_NSE (by decide) (fun qx => ?_)
      refine z_astore C dL_rankAt_19 (by decide) ?_
      refine z_iconst C dL_rankAt_21 ?_
      refine z_iret C hQ dL_rankAt_22 rfl (by decide) (by decide) ?_
      exact wJ.x hok ho hoU h2 (by decide)
  refine z_aload C dL_rankAt_0 rfl ?_
  refine z_iconst C dL_rankAt_2 ?_
  refine z_aload_n C dL_rankAt_3 rfl ?_
  refine z_iload_n C dL_rankAt_4 rfl ?_
  refine z_iload_n C dL_rankAt_5 rfl ?_
  refine z_iload_n C dL_rankAt_6 rfl ?_
  refine z_callV C dL_rankAt_7 lk_L_103 mw_X8_rankAt mi_X8_rankAt ms_X8_rankAt rfl hF (k_X8_rankAt hc hk r_rr r_dd r_ii) rfl (by first | decide | exact Nat.le_of_ble_eq_true rfl) ⟨by decide, by decide, by decide, by decide⟩ hkx (fun v M' hp => ?_)
  obtain ⟨hok, h0, rfl⟩ := hp
  have ho1 := hok.1.at (zU_no hoU) ho
  refine z_i2l C dL_rankAt_10 ?_
  refine z_astJ (i := 0) C dL_rankAt_11 ho1 ⟨by decide, by decide⟩ (by decide) ?_
  refine z_goto (tgt := 23) C dL_rankAt_12 (by decide) ?_
  refine z_iconst C dL_rankAt_23 ?_
  refine z_iret C hQ dL_rankAt_24 rfl (by decide) (by decide) ?_
  exact wJ.r hok hoU h0
set_option maxHeartbeats 4000000 in
set_option maxRecDepth 100000 in
theorem w_totalGuesses {l : Launch} {γ : zG} {M : zM} {U : Nat → Nat} {Y : zSys} {o : Nat} {f0 : Nat → Int64} {rr dd : Int} (hc : hFc γ M U Y) (hk : yOk Y) (ho : M o = some (zaJ γ 1 f0)) (hoU : ∀ i, i < 532 → U i ≠ o) (r_rr : zR rr) (r_dd : zR dd) :
    zConH l γ yL_totalGuesses cL_totalGuesses 5 (some .int) [(0, 10, 13, 29)] [.ref (U 0), .int (zi rr), .int (zi dd), .ref o] M 12 300 4 24 (wJ γ M U o Y (q_totalGuesses (yS Y) rr dd) ((zi (q_totalGuesses (yS Y) rr dd).2).toInt64)) (fun _ _ => False) := by
  refine zEnterH [some (.ref (U 0)), some (.int (zi rr)), some (.int (zi dd)), some (.ref o), none] (by decide +kernel) rfl rfl (Nat.le_of_ble_eq_true rfl) ?_
  intro p e s m args below meth c Q C hin hQ
  obtain ⟨hI, pn, Z, iF, oF, hZ, hF, -, -, -⟩ := id hc
  unfold hFo at hF
  have n2 : (q_totalGuesses (yS Y) rr dd).1 ≠ 2 := by
    simp only [q_totalGuesses, zqR, zqD, zqS]
    (repeat' split) <;> first | exact (by decide : (0 : Int) ≠ 2) | exact (by decide : (1 : Int) ≠ 2)
  have hkx : ∀ E M', fX γ M U Y (q_totalGuesses (yS Y) rr dd) xIOB xIAE E M' → zXW p l e { frames := 12, cells := 4, slots := 24, locals := 300 } s m args below meth c γ 5 Q M' 2 12 5 [some (.ref (U 0)), some (.int (zi rr)), some (.int (zi dd)), some (.ref o), none] E := by
    intro E M' hp
    obtain ⟨hok, ⟨h1, rfl⟩ | ⟨h2, rfl⟩⟩ := hp
    · refine z_caught C [] (0, 10, 13, 29) [] rfl (fun z hz => by cases hz) ⟨by decide, by decide⟩ (by decide) cl_IOB (by decide) (fun qx => ?_)
      refine z_astore C dL_totalGuesses_13 (by decide) ?_
      refine z_iconst C dL_totalGuesses_15 ?_
      refine z_iret C hQ dL_totalGuesses_16 rfl (by decide) (by decide) ?_
      exact wJ.x hok ho hoU h1 (by decide)
    · exact absurd h2 n2
  refine z_aload_n C dL_totalGuesses_0 rfl ?_
  refine z_iconst C dL_totalGuesses_1 ?_
  refine z_aload_n C dL_totalGuesses_2 rfl ?_
  refine z_iload_n C dL_totalGuesses_3 rfl ?_
  refine z_iload_n C dL_totalGuesses_4 rfl ?_
  refine z_callV C dL_totalGuesses_5 lk_L_106 mw_X8_totalGuesses mi_X8_totalGuesses ms_X8_totalGuesses rfl hF (k_X8_totalGuesses hc hk r_rr r_dd) rfl (by first | decide | exact Nat.le_of_ble_eq_true rfl) ⟨by decide, by decide, by decide, by decide⟩ hkx (fun v M' hp => ?_)
  obtain ⟨hok, h0, rfl⟩ := hp
  have ho1 := hok.1.at (zU_no hoU) ho
  refine z_i2l C dL_totalGuesses_8 ?_
  refine z_astJ (i := 0) C dL_totalGuesses_9 ho1 ⟨by decide, by decide⟩ (by decide) ?_
  refine z_goto (tgt := 17) C dL_totalGuesses_10 (by decide) ?_
  refine z_iconst C dL_totalGuesses_17 ?_
  refine z_iret C hQ dL_totalGuesses_18 rfl (by decide) (by decide) ?_
  exact wJ.r hok hoU h0
set_option maxHeartbeats 4000000 in
set_option maxRecDepth 100000 in
theorem w_adaptiveGuesses {l : Launch} {γ : zG} {M : zM} {U : Nat → Nat} {Y : zSys} {o : Nat} {f0 : Nat → Int64} {rr dd : Int} (hc : hFc γ M U Y) (hk : yOk Y) (ho : M o = some (zaJ γ 1 f0)) (hoU : ∀ i, i < 532 → U i ≠ o) (r_rr : zR rr) (r_dd : zR dd) :
    zConH l γ yL_adaptiveGuesses cL_adaptiveGuesses 5 (some .int) [(0, 10, 13, 29)] [.ref (U 0), .int (zi rr), .int (zi dd), .ref o] M 12 300 4 24 (wJ γ M U o Y (q_adaptiveGuesses (yS Y) rr dd) ((zi (q_adaptiveGuesses (yS Y) rr dd).2).toInt64)) (fun _ _ => False) := by
  refine zEnterH [some (.ref (U 0)), some (.int (zi rr)), some (.int (zi dd)), some (.ref o), none] (by decide +kernel) rfl rfl (Nat.le_of_ble_eq_true rfl) ?_
  intro p e s m args below meth c Q C hin hQ
  obtain ⟨hI, pn, Z, iF, oF, hZ, hF, -, -, -⟩ := id hc
  unfold hFo at hF
  have n2 : (q_adaptiveGuesses (yS Y) rr dd).1 ≠ 2 := by
    simp only [q_adaptiveGuesses, zqR, zqD, zqS]
    (repeat' split) <;> first | exact (by decide : (0 : Int) ≠ 2) | exact (by decide : (1 : Int) ≠ 2)
  have hkx : ∀ E M', fX γ M U Y (q_adaptiveGuesses (yS Y) rr dd) xIOB xIAE E M' → zXW p l e { frames := 12, cells := 4, slots := 24, locals := 300 } s m args below meth c γ 5 Q M' 2 12 5 [some (.ref (U 0)), some (.int (zi rr)), some (.int (zi dd)), some (.ref o), none] E := by
    intro E M' hp
    obtain ⟨hok, ⟨h1, rfl⟩ | ⟨h2, rfl⟩⟩ := hp
    · refine z_caught C [] (0, 10, 13, 29) [] rfl (fun z hz => by cases hz) ⟨by decide, by decide⟩ (by decide) cl_IOB (by decide) (fun qx => ?_)
      refine z_astore C dL_adaptiveGuesses_13 (by decide) ?_
      refine z_iconst C dL_adaptiveGuesses_15 ?_
      refine z_iret C hQ dL_adaptiveGuesses_16 rfl (by decide) (by decide) ?_
      exact wJ.x hok ho hoU h1 (by decide)
    · exact absurd h2 n2
  refine z_aload_n C dL_adaptiveGuesses_0 rfl ?_
  refine z_iconst C dL_adaptiveGuesses_1 ?_
  refine z_aload_n C dL_adaptiveGuesses_2 rfl ?_
  refine z_iload_n C dL_adaptiveGuesses_3 rfl ?_
  refine z_iload_n C dL_adaptiveGuesses_4 rfl ?_
  refine z_callV C dL_adaptiveGuesses_5 lk_L_109 mw_X8_adaptiveGuesses mi_X8_adaptiveGuesses ms_X8_adaptiveGuesses rfl hF (k_X8_adaptiveGuesses hc hk r_rr r_dd) rfl (by first | decide | exact Nat.le_of_ble_eq_true rfl) ⟨by decide, by decide, by decide, by decide⟩ hkx (fun v M' hp => ?_)
  obtain ⟨hok, h0, rfl⟩ := hp
  have ho1 := hok.1.at (zU_no hoU) ho
  refine z_i2l C dL_adaptiveGuesses_8 ?_
  refine z_astJ (i := 0) C dL_adaptiveGuesses_9 ho1 ⟨by decide, by decide⟩ (by decide) ?_
  refine z_goto (tgt := 17) C dL_adaptiveGuesses_10 (by decide) ?_
  refine z_iconst C dL_adaptiveGuesses_17 ?_
  refine z_iret C hQ dL_adaptiveGuesses_18 rfl (by decide) (by decide) ?_
  exact wJ.r hok hoU h0
set_option maxHeartbeats 4000000 in
set_option maxRecDepth 100000 in
theorem w_firstGuessHits {l : Launch} {γ : zG} {M : zM} {U : Nat → Nat} {Y : zSys} {o : Nat} {f0 : Nat → Int64} {rr dd : Int} (hc : hFc γ M U Y) (hk : yOk Y) (ho : M o = some (zaJ γ 1 f0)) (hoU : ∀ i, i < 532 → U i ≠ o) (r_rr : zR rr) (r_dd : zR dd) :
    zConH l γ yL_firstGuessHits cL_firstGuessHits 5 (some .int) [(0, 10, 13, 29)] [.ref (U 0), .int (zi rr), .int (zi dd), .ref o] M 12 300 4 24 (wJ γ M U o Y (q_firstGuessHits (yS Y) rr dd) ((zi (q_firstGuessHits (yS Y) rr dd).2).toInt64)) (fun _ _ => False) := by
  refine zEnterH [some (.ref (U 0)), some (.int (zi rr)), some (.int (zi dd)), some (.ref o), none] (by decide +kernel) rfl rfl (Nat.le_of_ble_eq_true rfl) ?_
  intro p e s m args below meth c Q C hin hQ
  obtain ⟨hI, pn, Z, iF, oF, hZ, hF, -, -, -⟩ := id hc
  unfold hFo at hF
  have n2 : (q_firstGuessHits (yS Y) rr dd).1 ≠ 2 := by
    simp only [q_firstGuessHits, zqR, zqD, zqS]
    (repeat' split) <;> first | exact (by decide : (0 : Int) ≠ 2) | exact (by decide : (1 : Int) ≠ 2)
  have hkx : ∀ E M', fX γ M U Y (q_firstGuessHits (yS Y) rr dd) xIOB xIAE E M' → zXW p l e { frames := 12, cells := 4, slots := 24, locals := 300 } s m args below meth c γ 5 Q M' 2 12 5 [some (.ref (U 0)), some (.int (zi rr)), some (.int (zi dd)), some (.ref o), none] E := by
    intro E M' hp
    obtain ⟨hok, ⟨h1, rfl⟩ | ⟨h2, rfl⟩⟩ := hp
    · refine z_caught C [] (0, 10, 13, 29) [] rfl (fun z hz => by cases hz) ⟨by decide, by decide⟩ (by decide) cl_IOB (by decide) (fun qx => ?_)
      refine z_astore C dL_firstGuessHits_13 (by decide) ?_
      refine z_iconst C dL_firstGuessHits_15 ?_
      refine z_iret C hQ dL_firstGuessHits_16 rfl (by decide) (by decide) ?_
      exact wJ.x hok ho hoU h1 (by decide)
    · exact absurd h2 n2
  refine z_aload_n C dL_firstGuessHits_0 rfl ?_
  refine z_iconst C dL_firstGuessHits_1 ?_
  refine z_aload_n C dL_firstGuessHits_2 rfl ?_
  refine z_iload_n C dL_firstGuessHits_3 rfl ?_
  refine z_iload_n C dL_firstGuessHits_4 rfl ?_
  refine z_callV C dL_firstGuessHits_5 lk_L_112 mw_X8_firstGuessHits mi_X8_firstGuessHits ms_X8_firstGuessHits rfl hF (k_X8_firstGuessHits hc hk r_rr r_dd) rfl (by first | decide | exact Nat.le_of_ble_eq_true rfl) ⟨by decide, by decide, by decide, by decide⟩ hkx (fun v M' hp => ?_)
  obtain ⟨hok, h0, rfl⟩ := hp
  have ho1 := hok.1.at (zU_no hoU) ho
  refine z_i2l C dL_firstGuessHits_8 ?_
  refine z_astJ (i := 0) C dL_firstGuessHits_9 ho1 ⟨by decide, by decide⟩ (by decide) ?_
  refine z_goto (tgt := 17) C dL_firstGuessHits_10 (by decide) ?_
  refine z_iconst C dL_firstGuessHits_17 ?_
  refine z_iret C hQ dL_firstGuessHits_18 rfl (by decide) (by decide) ?_
  exact wJ.r hok hoU h0

