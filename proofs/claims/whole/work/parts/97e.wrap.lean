/-! wrappers: symbolAtRank, rank, foundOrder, escapes, numerator, denominator -/
set_option maxHeartbeats 4000000 in
set_option maxRecDepth 100000 in
theorem w_symbolAtRank {l : Launch} {γ : zG} {M : zM} {U : Nat → Nat} {Y : zSys} {o : Nat} {f0 : Nat → Int64} {rr bb pp kk : Int} (hc : hFc γ M U Y) (hk : yOk Y) (ho : M o = some (zaJ γ 1 f0)) (hoU : ∀ i, i < 532 → U i ≠ o) (r_rr : zR rr) (r_bb : zR bb) (r_pp : zR pp) (r_kk : zR kk) :
    zConH l γ yL_symbolAtRank cL_symbolAtRank 7 (some .int) [(0, 14, 17, 29), (0, 14, 21, 19)] [.ref (U 0), .int (zi rr), .int (zi bb), .int (zi pp), .int (zi kk), .ref o] M 12 300 4 24 (wJ γ M U o Y (q_symbolAtRank (yS Y) rr bb pp kk) ((zi (q_symbolAtRank (yS Y) rr bb pp kk).2).toInt64)) (fun _ _ => False) := by
  refine zEnterH [some (.ref (U 0)), some (.int (zi rr)), some (.int (zi bb)), some (.int (zi pp)), some (.int (zi kk)), some (.ref o), none] (by decide +kernel) rfl rfl (Nat.le_of_ble_eq_true rfl) ?_
  intro p e s m args below meth c Q C hin hQ
  obtain ⟨hI, pn, Z, iF, oF, hZ, hF, -, -, -⟩ := id hc
  unfold hFo at hF
  have hkx : ∀ E M', fX γ M U Y (q_symbolAtRank (yS Y) rr bb pp kk) xIOB xIAE E M' → zXW p l e { frames := 12, cells := 4, slots := 24, locals := 300 } s m args below meth c γ 7 Q M' 3 18 9 [some (.ref (U 0)), some (.int (zi rr)), some (.int (zi bb)), some (.int (zi pp)), some (.int (zi kk)), some (.ref o), none] E := by
    intro E M' hp
    obtain ⟨hok, ⟨h1, rfl⟩ | ⟨h2, rfl⟩⟩ := hp
    · refine z_caught C [] (0, 14, 17, 29) [(0, 14, 21, 19)] rfl (fun z hz => by cases hz) ⟨by decide, by decide⟩ (by decide) cl_IOB (by decide) (fun qx => ?_)
      refine z_astore C dL_symbolAtRank_17 (by decide) ?_
      refine z_iconst C dL_symbolAtRank_19 ?_
      refine z_iret C hQ dL_symbolAtRank_20 rfl (by decide) (by decide) ?_
      exact wJ.x hok ho hoU h1 (by decide)
    · refine z_caught C [(0, 14, 17, 29)] (0, 14, 21, 19) [] rfl (fun z hz => by rw [List.mem_singleton.mp hz]; exact ⟨by decide, _, cl_IOB, by decide⟩) ⟨by decide, by decide⟩ (by decide) cl_IAE (by decide) (fun qx => ?_)
      refine z_astore C dL_symbolAtRank_21 (by decide) ?_
      refine z_iconst C dL_symbolAtRank_23 ?_
      refine z_iret C hQ dL_symbolAtRank_24 rfl (by decide) (by decide) ?_
      exact wJ.x hok ho hoU h2 (by decide)
  refine z_aload C dL_symbolAtRank_0 rfl ?_
  refine z_iconst C dL_symbolAtRank_2 ?_
  refine z_aload_n C dL_symbolAtRank_3 rfl ?_
  refine z_iload_n C dL_symbolAtRank_4 rfl ?_
  refine z_iload_n C dL_symbolAtRank_5 rfl ?_
  refine z_iload_n C dL_symbolAtRank_6 rfl ?_
  refine z_iload C dL_symbolAtRank_7 rfl ?_
  refine z_callV C dL_symbolAtRank_9 lk_L_77 mw_X8_symbolAtRank mi_X8_symbolAtRank ms_X8_symbolAtRank rfl hF (k_X8_symbolAtRank hc hk r_rr r_bb r_pp r_kk) rfl (by first | decide | exact Nat.le_of_ble_eq_true rfl) ⟨by decide, by decide, by decide, by decide⟩ hkx (fun v M' hp => ?_)
  obtain ⟨hok, h0, rfl⟩ := hp
  have ho1 := hok.1.at (zU_no hoU) ho
  refine z_i2l C dL_symbolAtRank_12 ?_
  refine z_astJ (i := 0) C dL_symbolAtRank_13 ho1 ⟨by decide, by decide⟩ (by decide) ?_
  refine z_goto (tgt := 25) C dL_symbolAtRank_14 (by decide) ?_
  refine z_iconst C dL_symbolAtRank_25 ?_
  refine z_iret C hQ dL_symbolAtRank_26 rfl (by decide) (by decide) ?_
  exact wJ.r hok hoU h0
set_option maxHeartbeats 4000000 in
set_option maxRecDepth 100000 in
theorem w_rank {l : Launch} {γ : zG} {M : zM} {U : Nat → Nat} {Y : zSys} {o : Nat} {f0 : Nat → Int64} {rr bb pp ss : Int} (hc : hFc γ M U Y) (hk : yOk Y) (ho : M o = some (zaJ γ 1 f0)) (hoU : ∀ i, i < 532 → U i ≠ o) (r_rr : zR rr) (r_bb : zR bb) (r_pp : zR pp) (r_ss : zR ss) :
    zConH l γ yL_rank cL_rank 7 (some .int) [(0, 14, 17, 29), (0, 14, 21, 19)] [.ref (U 0), .int (zi rr), .int (zi bb), .int (zi pp), .int (zi ss), .ref o] M 12 300 4 24 (wJ γ M U o Y (q_rank (yS Y) rr bb pp ss) ((zi (q_rank (yS Y) rr bb pp ss).2).toInt64)) (fun _ _ => False) := by
  refine zEnterH [some (.ref (U 0)), some (.int (zi rr)), some (.int (zi bb)), some (.int (zi pp)), some (.int (zi ss)), some (.ref o), none] (by decide +kernel) rfl rfl (Nat.le_of_ble_eq_true rfl) ?_
  intro p e s m args below meth c Q C hin hQ
  obtain ⟨hI, pn, Z, iF, oF, hZ, hF, -, -, -⟩ := id hc
  unfold hFo at hF
  have hkx : ∀ E M', fX γ M U Y (q_rank (yS Y) rr bb pp ss) xIOB xIAE E M' → zXW p l e { frames := 12, cells := 4, slots := 24, locals := 300 } s m args below meth c γ 7 Q M' 3 18 9 [some (.ref (U 0)), some (.int (zi rr)), some (.int (zi bb)), some (.int (zi pp)), some (.int (zi ss)), some (.ref o), none] E := by
    intro E M' hp
    obtain ⟨hok, ⟨h1, rfl⟩ | ⟨h2, rfl⟩⟩ := hp
    · refine z_caught C [] (0, 14, 17, 29) [(0, 14, 21, 19)] rfl (fun z hz => by cases hz) ⟨by decide, by decide⟩ (by decide) cl_IOB (by decide) (fun qx => ?_)
      refine z_astore C dL_rank_17 (by decide) ?_
      refine z_iconst C dL_rank_19 ?_
      refine z_iret C hQ dL_rank_20 rfl (by decide) (by decide) ?_
      exact wJ.x hok ho hoU h1 (by decide)
    · refine z_caught C [(0, 14, 17, 29)] (0, 14, 21, 19) [] rfl (fun z hz => by rw [List.mem_singleton.mp hz]; exact ⟨by decide, _, cl_IOB, by decide⟩) ⟨by decide, by decide⟩ (by decide) cl_IAE (by decide) (fun qx => ?_)
      refine z_astore C dL_rank_21 (by decide) ?_
      refine z_iconst C dL_rank_23 ?_
      refine z_iret C hQ dL_rank_24 rfl (by decide) (by decide) ?_
      exact wJ.x hok ho hoU h2 (by decide)
  refine z_aload C dL_rank_0 rfl ?_
  refine z_iconst C dL_rank_2 ?_
  refine z_aload_n C dL_rank_3 rfl ?_
  refine z_iload_n C dL_rank_4 rfl ?_
  refine z_iload_n C dL_rank_5 rfl ?_
  refine z_iload_n C dL_rank_6 rfl ?_
  refine z_iload C dL_rank_7 rfl ?_
  refine z_callV C dL_rank_9 lk_L_80 mw_X8_rank mi_X8_rank ms_X8_rank rfl hF (k_X8_rank hc hk r_rr r_bb r_pp r_ss) rfl (by first | decide | exact Nat.le_of_ble_eq_true rfl) ⟨by decide, by decide, by decide, by decide⟩ hkx (fun v M' hp => ?_)
  obtain ⟨hok, h0, rfl⟩ := hp
  have ho1 := hok.1.at (zU_no hoU) ho
  refine z_i2l C dL_rank_12 ?_
  refine z_astJ (i := 0) C dL_rank_13 ho1 ⟨by decide, by decide⟩ (by decide) ?_
  refine z_goto (tgt := 25) C dL_rank_14 (by decide) ?_
  refine z_iconst C dL_rank_25 ?_
  refine z_iret C hQ dL_rank_26 rfl (by decide) (by decide) ?_
  exact wJ.r hok hoU h0
set_option maxHeartbeats 4000000 in
set_option maxRecDepth 100000 in
theorem w_foundOrder {l : Launch} {γ : zG} {M : zM} {U : Nat → Nat} {Y : zSys} {o : Nat} {f0 : Nat → Int64} {rr bb pp ss : Int} (hc : hFc γ M U Y) (hk : yOk Y) (ho : M o = some (zaJ γ 1 f0)) (hoU : ∀ i, i < 532 → U i ≠ o) (r_rr : zR rr) (r_bb : zR bb) (r_pp : zR pp) (r_ss : zR ss) :
    zConH l γ yL_foundOrder cL_foundOrder 7 (some .int) [(0, 14, 17, 29), (0, 14, 21, 19)] [.ref (U 0), .int (zi rr), .int (zi bb), .int (zi pp), .int (zi ss), .ref o] M 12 300 4 24 (wJ γ M U o Y (q_foundOrder (yS Y) rr bb pp ss) ((zi (q_foundOrder (yS Y) rr bb pp ss).2).toInt64)) (fun _ _ => False) := by
  refine zEnterH [some (.ref (U 0)), some (.int (zi rr)), some (.int (zi bb)), some (.int (zi pp)), some (.int (zi ss)), some (.ref o), none] (by decide +kernel) rfl rfl (Nat.le_of_ble_eq_true rfl) ?_
  intro p e s m args below meth c Q C hin hQ
  obtain ⟨hI, pn, Z, iF, oF, hZ, hF, -, -, -⟩ := id hc
  unfold hFo at hF
  have hkx : ∀ E M', fX γ M U Y (q_foundOrder (yS Y) rr bb pp ss) xIOB xIAE E M' → zXW p l e { frames := 12, cells := 4, slots := 24, locals := 300 } s m args below meth c γ 7 Q M' 3 18 9 [some (.ref (U 0)), some (.int (zi rr)), some (.int (zi bb)), some (.int (zi pp)), some (.int (zi ss)), some (.ref o), none] E := by
    intro E M' hp
    obtain ⟨hok, ⟨h1, rfl⟩ | ⟨h2, rfl⟩⟩ := hp
    · refine z_caught C [] (0, 14, 17, 29) [(0, 14, 21, 19)] rfl (fun z hz => by cases hz) ⟨by decide, by decide⟩ (by decide) cl_IOB (by decide) (fun qx => ?_)
      refine z_astore C dL_foundOrder_17 (by decide) ?_
      refine z_iconst C dL_foundOrder_19 ?_
      refine z_iret C hQ dL_foundOrder_20 rfl (by decide) (by decide) ?_
      exact wJ.x hok ho hoU h1 (by decide)
    · refine z_caught C [(0, 14, 17, 29)] (0, 14, 21, 19) [] rfl (fun z hz => by rw [List.mem_singleton.mp hz]; exact ⟨by decide, _, cl_IOB, by decide⟩) ⟨by decide, by decide⟩ (by decide) cl_IAE (by decide) (fun qx => ?_)
      refine z_astore C dL_foundOrder_21 (by decide) ?_
      refine z_iconst C dL_foundOrder_23 ?_
      refine z_iret C hQ dL_foundOrder_24 rfl (by decide) (by decide) ?_
      exact wJ.x hok ho hoU h2 (by decide)
  refine z_aload C dL_foundOrder_0 rfl ?_
  refine z_iconst C dL_foundOrder_2 ?_
  refine z_aload_n C dL_foundOrder_3 rfl ?_
  refine z_iload_n C dL_foundOrder_4 rfl ?_
  refine z_iload_n C dL_foundOrder_5 rfl ?_
  refine z_iload_n C dL_foundOrder_6 rfl ?_
  refine z_iload C dL_foundOrder_7 rfl ?_
  refine z_callV C dL_foundOrder_9 lk_L_83 mw_X8_foundOrder mi_X8_foundOrder ms_X8_foundOrder rfl hF (k_X8_foundOrder hc hk r_rr r_bb r_pp r_ss) rfl (by first | decide | exact Nat.le_of_ble_eq_true rfl) ⟨by decide, by decide, by decide, by decide⟩ hkx (fun v M' hp => ?_)
  obtain ⟨hok, h0, rfl⟩ := hp
  have ho1 := hok.1.at (zU_no hoU) ho
  refine z_i2l C dL_foundOrder_12 ?_
  refine z_astJ (i := 0) C dL_foundOrder_13 ho1 ⟨by decide, by decide⟩ (by decide) ?_
  refine z_goto (tgt := 25) C dL_foundOrder_14 (by decide) ?_
  refine z_iconst C dL_foundOrder_25 ?_
  refine z_iret C hQ dL_foundOrder_26 rfl (by decide) (by decide) ?_
  exact wJ.r hok hoU h0
set_option maxHeartbeats 4000000 in
set_option maxRecDepth 100000 in
theorem w_escapes {l : Launch} {γ : zG} {M : zM} {U : Nat → Nat} {Y : zSys} {o : Nat} {f0 : Nat → Int64} {rr bb pp ss : Int} (hc : hFc γ M U Y) (hk : yOk Y) (ho : M o = some (zaJ γ 1 f0)) (hoU : ∀ i, i < 532 → U i ≠ o) (r_rr : zR rr) (r_bb : zR bb) (r_pp : zR pp) (r_ss : zR ss) :
    zConH l γ yL_escapes cL_escapes 7 (some .int) [(0, 14, 17, 29), (0, 14, 21, 19)] [.ref (U 0), .int (zi rr), .int (zi bb), .int (zi pp), .int (zi ss), .ref o] M 12 300 4 24 (wJ γ M U o Y (q_escapes (yS Y) rr bb pp ss) ((zi (q_escapes (yS Y) rr bb pp ss).2).toInt64)) (fun _ _ => False) := by
  refine zEnterH [some (.ref (U 0)), some (.int (zi rr)), some (.int (zi bb)), some (.int (zi pp)), some (.int (zi ss)), some (.ref o), none] (by decide +kernel) rfl rfl (Nat.le_of_ble_eq_true rfl) ?_
  intro p e s m args below meth c Q C hin hQ
  obtain ⟨hI, pn, Z, iF, oF, hZ, hF, -, -, -⟩ := id hc
  unfold hFo at hF
  have hkx : ∀ E M', fX γ M U Y (q_escapes (yS Y) rr bb pp ss) xIOB xIAE E M' → zXW p l e { frames := 12, cells := 4, slots := 24, locals := 300 } s m args below meth c γ 7 Q M' 3 18 9 [some (.ref (U 0)), some (.int (zi rr)), some (.int (zi bb)), some (.int (zi pp)), some (.int (zi ss)), some (.ref o), none] E := by
    intro E M' hp
    obtain ⟨hok, ⟨h1, rfl⟩ | ⟨h2, rfl⟩⟩ := hp
    · refine z_caught C [] (0, 14, 17, 29) [(0, 14, 21, 19)] rfl (fun z hz => by cases hz) ⟨by decide, by decide⟩ (by decide) cl_IOB (by decide) (fun qx => ?_)
      refine z_astore C dL_escapes_17 (by decide) ?_
      refine z_iconst C dL_escapes_19 ?_
      refine z_iret C hQ dL_escapes_20 rfl (by decide) (by decide) ?_
      exact wJ.x hok ho hoU h1 (by decide)
    · refine z_caught C [(0, 14, 17, 29)] (0, 14, 21, 19) [] rfl (fun z hz => by rw [List.mem_singleton.mp hz]; exact ⟨by decide, _, cl_IOB, by decide⟩) ⟨by decide, by decide⟩ (by decide) cl_IAE (by decide) (fun qx => ?_)
      refine z_astore C dL_escapes_21 (by decide) ?_
      refine z_iconst C dL_escapes_23 ?_
      refine z_iret C hQ dL_escapes_24 rfl (by decide) (by decide) ?_
      exact wJ.x hok ho hoU h2 (by decide)
  refine z_aload C dL_escapes_0 rfl ?_
  refine z_iconst C dL_escapes_2 ?_
  refine z_aload_n C dL_escapes_3 rfl ?_
  refine z_iload_n C dL_escapes_4 rfl ?_
  refine z_iload_n C dL_escapes_5 rfl ?_
  refine z_iload_n C dL_escapes_6 rfl ?_
  refine z_iload C dL_escapes_7 rfl ?_
  refine z_callV C dL_escapes_9 lk_L_86 mw_X8_escapes mi_X8_escapes ms_X8_escapes rfl hF (k_X8_escapes hc hk r_rr r_bb r_pp r_ss) rfl (by first | decide | exact Nat.le_of_ble_eq_true rfl) ⟨by decide, by decide, by decide, by decide⟩ hkx (fun v M' hp => ?_)
  obtain ⟨hok, h0, rfl⟩ := hp
  have ho1 := hok.1.at (zU_no hoU) ho
  refine z_i2l C dL_escapes_12 ?_
  refine z_astJ (i := 0) C dL_escapes_13 ho1 ⟨by decide, by decide⟩ (by decide) ?_
  refine z_goto (tgt := 25) C dL_escapes_14 (by decide) ?_
  refine z_iconst C dL_escapes_25 ?_
  refine z_iret C hQ dL_escapes_26 rfl (by decide) (by decide) ?_
  exact wJ.r hok hoU h0
set_option maxHeartbeats 4000000 in
set_option maxRecDepth 100000 in
theorem w_numerator {l : Launch} {γ : zG} {M : zM} {U : Nat → Nat} {Y : zSys} {o : Nat} {f0 : Nat → Int64} {rr bb pp ss : Int} (hc : hFc γ M U Y) (hk : yOk Y) (ho : M o = some (zaJ γ 1 f0)) (hoU : ∀ i, i < 532 → U i ≠ o) (r_rr : zR rr) (r_bb : zR bb) (r_pp : zR pp) (r_ss : zR ss) :
    zConH l γ yL_numerator cL_numerator 7 (some .int) [(0, 13, 16, 29), (0, 13, 20, 19)] [.ref (U 0), .int (zi rr), .int (zi bb), .int (zi pp), .int (zi ss), .ref o] M 12 300 4 24 (wJ γ M U o Y (q_numerator (yS Y) rr bb pp ss) (zl (q_numerator (yS Y) rr bb pp ss).2)) (fun _ _ => False) := by
  refine zEnterH [some (.ref (U 0)), some (.int (zi rr)), some (.int (zi bb)), some (.int (zi pp)), some (.int (zi ss)), some (.ref o), none] (by decide +kernel) rfl rfl (Nat.le_of_ble_eq_true rfl) ?_
  intro p e s m args below meth c Q C hin hQ
  obtain ⟨hI, pn, Z, iF, oF, hZ, hF, -, -, -⟩ := id hc
  unfold hFo at hF
  have hkx : ∀ E M', fX γ M U Y (q_numerator (yS Y) rr bb pp ss) xIOB xIAE E M' → zXW p l e { frames := 12, cells := 4, slots := 24, locals := 300 } s m args below meth c γ 7 Q M' 3 18 9 [some (.ref (U 0)), some (.int (zi rr)), some (.int (zi bb)), some (.int (zi pp)), some (.int (zi ss)), some (.ref o), none] E := by
    intro E M' hp
    obtain ⟨hok, ⟨h1, rfl⟩ | ⟨h2, rfl⟩⟩ := hp
    · refine z_caught C [] (0, 13, 16, 29) [(0, 13, 20, 19)] rfl (fun z hz => by cases hz) ⟨by decide, by decide⟩ (by decide) cl_IOB (by decide) (fun qx => ?_)
      refine z_astore C dL_numerator_16 (by decide) ?_
      refine z_iconst C dL_numerator_18 ?_
      refine z_iret C hQ dL_numerator_19 rfl (by decide) (by decide) ?_
      exact wJ.x hok ho hoU h1 (by decide)
    · refine z_caught C [(0, 13, 16, 29)] (0, 13, 20, 19) [] rfl (fun z hz => by rw [List.mem_singleton.mp hz]; exact ⟨by decide, _, cl_IOB, by decide⟩) ⟨by decide, by decide⟩ (by decide) cl_IAE (by decide) (fun qx => ?_)
      refine z_astore C dL_numerator_20 (by decide) ?_
      refine z_iconst C dL_numerator_22 ?_
      refine z_iret C hQ dL_numerator_23 rfl (by decide) (by decide) ?_
      exact wJ.x hok ho hoU h2 (by decide)
  refine z_aload C dL_numerator_0 rfl ?_
  refine z_iconst C dL_numerator_2 ?_
  refine z_aload_n C dL_numerator_3 rfl ?_
  refine z_iload_n C dL_numerator_4 rfl ?_
  refine z_iload_n C dL_numerator_5 rfl ?_
  refine z_iload_n C dL_numerator_6 rfl ?_
  refine z_iload C dL_numerator_7 rfl ?_
  refine z_callV C dL_numerator_9 lk_L_89 mw_X8_numerator mi_X8_numerator ms_X8_numerator rfl hF (k_X8_numerator hc hk r_rr r_bb r_pp r_ss) rfl (by first | decide | exact Nat.le_of_ble_eq_true rfl) ⟨by decide, by decide, by decide, by decide⟩ hkx (fun v M' hp => ?_)
  obtain ⟨hok, h0, rfl⟩ := hp
  have ho1 := hok.1.at (zU_no hoU) ho
  refine z_astJ (i := 0) C dL_numerator_12 ho1 ⟨by decide, by decide⟩ (by decide) ?_
  refine z_goto (tgt := 24) C dL_numerator_13 (by decide) ?_
  refine z_iconst C dL_numerator_24 ?_
  refine z_iret C hQ dL_numerator_25 rfl (by decide) (by decide) ?_
  exact wJ.r hok hoU h0
set_option maxHeartbeats 4000000 in
set_option maxRecDepth 100000 in
theorem w_denominator {l : Launch} {γ : zG} {M : zM} {U : Nat → Nat} {Y : zSys} {o : Nat} {f0 : Nat → Int64} {rr bb pp ss : Int} (hc : hFc γ M U Y) (hk : yOk Y) (ho : M o = some (zaJ γ 1 f0)) (hoU : ∀ i, i < 532 → U i ≠ o) (r_rr : zR rr) (r_bb : zR bb) (r_pp : zR pp) (r_ss : zR ss) :
    zConH l γ yL_denominator cL_denominator 7 (some .int) [(0, 13, 16, 29), (0, 13, 20, 19)] [.ref (U 0), .int (zi rr), .int (zi bb), .int (zi pp), .int (zi ss), .ref o] M 12 300 4 24 (wJ γ M U o Y (q_denominator (yS Y) rr bb pp ss) (zl (q_denominator (yS Y) rr bb pp ss).2)) (fun _ _ => False) := by
  refine zEnterH [some (.ref (U 0)), some (.int (zi rr)), some (.int (zi bb)), some (.int (zi pp)), some (.int (zi ss)), some (.ref o), none] (by decide +kernel) rfl rfl (Nat.le_of_ble_eq_true rfl) ?_
  intro p e s m args below meth c Q C hin hQ
  obtain ⟨hI, pn, Z, iF, oF, hZ, hF, -, -, -⟩ := id hc
  unfold hFo at hF
  have hkx : ∀ E M', fX γ M U Y (q_denominator (yS Y) rr bb pp ss) xIOB xIAE E M' → zXW p l e { frames := 12, cells := 4, slots := 24, locals := 300 } s m args below meth c γ 7 Q M' 3 18 9 [some (.ref (U 0)), some (.int (zi rr)), some (.int (zi bb)), some (.int (zi pp)), some (.int (zi ss)), some (.ref o), none] E := by
    intro E M' hp
    obtain ⟨hok, ⟨h1, rfl⟩ | ⟨h2, rfl⟩⟩ := hp
    · refine z_caught C [] (0, 13, 16, 29) [(0, 13, 20, 19)] rfl (fun z hz => by cases hz) ⟨by decide, by decide⟩ (by decide) cl_IOB (by decide) (fun qx => ?_)
      refine z_astore C dL_denominator_16 (by decide) ?_
      refine z_iconst C dL_denominator_18 ?_
      refine z_iret C hQ dL_denominator_19 rfl (by decide) (by decide) ?_
      exact wJ.x hok ho hoU h1 (by decide)
    · refine z_caught C [(0, 13, 16, 29)] (0, 13, 20, 19) [] rfl (fun z hz => by rw [List.mem_singleton.mp hz]; exact ⟨by decide, _, cl_IOB, by decide⟩) ⟨by decide, by decide⟩ (by decide) cl_IAE (by decide) (fun qx => ?_)
      refine z_astore C dL_denominator_20 (by decide) ?_
      refine z_iconst C dL_denominator_22 ?_
      refine z_iret C hQ dL_denominator_23 rfl (by decide) (by decide) ?_
      exact wJ.x hok ho hoU h2 (by decide)
  refine z_aload C dL_denominator_0 rfl ?_
  refine z_iconst C dL_denominator_2 ?_
  refine z_aload_n C dL_denominator_3 rfl ?_
  refine z_iload_n C dL_denominator_4 rfl ?_
  refine z_iload_n C dL_denominator_5 rfl ?_
  refine z_iload_n C dL_denominator_6 rfl ?_
  refine z_iload C dL_denominator_7 rfl ?_
  refine z_callV C dL_denominator_9 lk_L_93 mw_X8_denominator mi_X8_denominator ms_X8_denominator rfl hF (k_X8_denominator hc hk r_rr r_bb r_pp r_ss) rfl (by first | decide | exact Nat.le_of_ble_eq_true rfl) ⟨by decide, by decide, by decide, by decide⟩ hkx (fun v M' hp => ?_)
  obtain ⟨hok, h0, rfl⟩ := hp
  have ho1 := hok.1.at (zU_no hoU) ho
  refine z_astJ (i := 0) C dL_denominator_12 ho1 ⟨by decide, by decide⟩ (by decide) ?_
  refine z_goto (tgt := 24) C dL_denominator_13 (by decide) ?_
  refine z_iconst C dL_denominator_24 ?_
  refine z_iret C hQ dL_denominator_25 rfl (by decide) (by decide) ?_
  exact wJ.r hok hoU h0

