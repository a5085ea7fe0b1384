/-! wrappers: documentSymbol, documentYear, countOrder0, countOrder1, countOrder2, contextTotal -/
set_option maxHeartbeats 4000000 in
set_option maxRecDepth 100000 in
theorem w_documentSymbol {l : Launch} {γ : zG} {M : zM} {U : Nat → Nat} {Y : zSys} {o : Nat} {f0 : Nat → Int64} {dd ii : Int} (hc : hFc γ M U Y) (hk : yOk Y) (ho : M o = some (zaJ γ 1 f0)) (hoU : ∀ i, i < 532 → U i ≠ o) (r_dd : zR dd) (r_ii : zR ii) :
    zConH l γ yL_documentSymbol cL_documentSymbol 5 (some .int) [(0, 10, 13, 29), (0, 10, 17, 31)] [.ref (U 0), .int (zi dd), .int (zi ii), .ref o] M 12 300 4 24 (wJ γ M U o Y (q_documentSymbol (yS Y) dd ii) ((zi (q_documentSymbol (yS Y) dd ii).2).toInt64)) (fun _ _ => False) := by
  refine zEnterH [some (.ref (U 0)), some (.int (zi dd)), some (.int (zi ii)), some (.ref o), none] (by decide +kernel) rfl rfl (Nat.le_of_ble_eq_true rfl) ?_
  intro p e s m args below meth c Q C hin hQ
  obtain ⟨hI, pn, Z, iF, oF, hZ, hF, -, -, -⟩ := id hc
  unfold hFo at hF
  have hkx : ∀ E M', fX γ M U Y (q_documentSymbol (yS Y) dd ii) xIOB nsN E M' → zXW p l e { frames := 12, cells := 4, slots := 24, locals := 300 } s m args below meth c γ 5 Q M' 2 12 5 [some (.ref (U 0)), some (.int (zi dd)), some (.int (zi ii)), some (.ref o), none] E := by
    intro E M' hp
    obtain ⟨hok, ⟨h1, rfl⟩ | ⟨h2, rfl⟩⟩ := hp
    · refine z_caught C [] (0, 10, 13, 29) [(0, 10, 17, 31)] rfl (fun z hz => by cases hz) ⟨by decide, by decide⟩ (by decide) cl_IOB (by decide) (fun qx => ?_)
      refine z_astore C dL_documentSymbol_13 (by decide) ?_
      refine z_iconst C dL_documentSymbol_15 ?_
      refine z_iret C hQ dL_documentSymbol_16 rfl (by decide) (by decide) ?_
      exact wJ.x hok ho hoU h1 (by decide)
    · refine z_caught C [(0, 10, 13, 29)] (0, 10, 17, 31) [] rfl (fun z hz => by rw [List.mem_singleton.mp hz]; exact ⟨by decide, _, cl_IOB, by decide⟩) ⟨by decide, by decide⟩ (by decide) cl_NSE (by decide) (fun qx => ?_)
      refine z_astore C dL_documentSymbol_17 (by decide) ?_
      refine z_iconst C dL_documentSymbol_19 ?_
      refine z_iret C hQ dL_documentSymbol_20 rfl (by decide) (by decide) ?_
      exact wJ.x hok ho hoU h2 (by decide)
  refine z_aload_n C dL_documentSymbol_0 rfl ?_
  refine z_iconst C dL_documentSymbol_1 ?_
  refine z_aload_n C dL_documentSymbol_2 rfl ?_
  refine z_iload_n C dL_documentSymbol_3 rfl ?_
  refine z_iload_n C dL_documentSymbol_4 rfl ?_
  refine z_callV C dL_documentSymbol_5 lk_L_39 mw_X8_documentSymbol mi_X8_documentSymbol ms_X8_documentSymbol rfl hF (k_X8_documentSymbol hc hk r_dd r_ii) rfl (by first | decide | exact Nat.le_of_ble_eq_true rfl) ⟨by decide, by decide, by decide, by decide⟩ hkx (fun v M' hp => ?_)
  obtain ⟨hok, h0, rfl⟩ := hp
  have ho1 := hok.1.at (zU_no hoU) ho
  refine z_i2l C dL_documentSymbol_8 ?_
  refine z_astJ (i := 0) C dL_documentSymbol_9 ho1 ⟨by decide, by decide⟩ (by decide) ?_
  refine z_goto (tgt := 21) C dL_documentSymbol_10 (by decide) ?_
  refine z_iconst C dL_documentSymbol_21 ?_
  refine z_iret C hQ dL_documentSymbol_22 rfl (by decide) (by decide) ?_
  exact wJ.r hok hoU h0
set_option maxHeartbeats 4000000 in
set_option maxRecDepth 100000 in
theorem w_documentYear {l : Launch} {γ : zG} {M : zM} {U : Nat → Nat} {Y : zSys} {o : Nat} {f0 : Nat → Int64} {dd : Int} (hc : hFc γ M U Y) (hk : yOk Y) (ho : M o = some (zaJ γ 1 f0)) (hoU : ∀ i, i < 532 → U i ≠ o) (r_dd : zR dd) :
    zConH l γ yL_documentYear cL_documentYear 4 (some .int) [(0, 9, 12, 29)] [.ref (U 0), .int (zi dd), .ref o] M 12 300 4 24 (wJ γ M U o Y (q_documentYear (yS Y) dd) ((zi (q_documentYear (yS Y) dd).2).toInt64)) (fun _ _ => False) := by
  refine zEnterH [some (.ref (U 0)), some (.int (zi dd)), some (.ref o), none] (by decide +kernel) rfl rfl (Nat.le_of_ble_eq_true rfl) ?_
  intro p e s m args below meth c Q C hin hQ
  obtain ⟨hI, pn, Z, iF, oF, hZ, hF, -, -, -⟩ := id hc
  unfold hFo at hF
  have n2 : (q_documentYear (yS Y) dd).1 ≠ 2 := by
    simp only [q_documentYear, zqR, zqD, zqS]
    (repeat' split) <;> first | exact (by decide : (0 : Int) ≠ 2) | exact (by decide : (1 : Int) ≠ 2)
  have hkx : ∀ E M', fX γ M U Y (q_documentYear (yS Y) dd) xIOB xIAE E M' → zXW p l e { frames := 12, cells := 4, slots := 24, locals := 300 } s m args below meth c γ 4 Q M' 1 6 4 [some (.ref (U 0)), some (.int (zi dd)), some (.ref o), none] E := by
    intro E M' hp
    obtain ⟨hok, ⟨h1, rfl⟩ | ⟨h2, rfl⟩⟩ := hp
    · refine z_caught C [] (0, 9, 12, 29) [] rfl (fun z hz => by cases hz) ⟨by decide, by decide⟩ (by decide) cl_IOB (by decide) (fun qx => ?_)
      refine z_astore_n C dL_documentYear_12 (by decide) ?_
      refine z_iconst C dL_documentYear_13 ?_
      refine z_iret C hQ dL_documentYear_14 rfl (by decide) (by decide) ?_
      exact wJ.x hok ho hoU h1 (by decide)
    · exact absurd h2 n2
  refine z_aload_n C dL_documentYear_0 rfl ?_
  refine z_iconst C dL_documentYear_1 ?_
  refine z_aload_n C dL_documentYear_2 rfl ?_
  refine z_iload_n C dL_documentYear_3 rfl ?_
  refine z_callV C dL_documentYear_4 lk_L_42 mw_X8_documentYear mi_X8_documentYear ms_X8_documentYear rfl hF (k_X8_documentYear hc hk r_dd) rfl (by first | decide | exact Nat.le_of_ble_eq_true rfl) ⟨by decide, by decide, by decide, by decide⟩ hkx (fun v M' hp => ?_)
  obtain ⟨hok, h0, rfl⟩ := hp
  have ho1 := hok.1.at (zU_no hoU) ho
  refine z_i2l C dL_documentYear_7 ?_
  refine z_astJ (i := 0) C dL_documentYear_8 ho1 ⟨by decide, by decide⟩ (by decide) ?_
  refine z_goto (tgt := 15) C dL_documentYear_9 (by decide) ?_
  refine z_iconst C dL_documentYear_15 ?_
  refine z_iret C hQ dL_documentYear_16 rfl (by decide) (by decide) ?_
  exact wJ.r hok hoU h0
set_option maxHeartbeats 4000000 in
set_option maxRecDepth 100000 in
theorem w_countOrder0 {l : Launch} {γ : zG} {M : zM} {U : Nat → Nat} {Y : zSys} {o : Nat} {f0 : Nat → Int64} {rr ss : Int} (hc : hFc γ M U Y) (hk : yOk Y) (ho : M o = some (zaJ γ 1 f0)) (hoU : ∀ i, i < 532 → U i ≠ o) (r_rr : zR rr) (r_ss : zR ss) :
    zConH l γ yL_countOrder0 cL_countOrder0 5 (some .int) [(0, 10, 13, 29), (0, 10, 17, 19)] [.ref (U 0), .int (zi rr), .int (zi ss), .ref o] M 12 300 4 24 (wJ γ M U o Y (q_countOrder0 (yS Y) rr ss) ((zi (q_countOrder0 (yS Y) rr ss).2).toInt64)) (fun _ _ => False) := by
  refine zEnterH [some (.ref (U 0)), some (.int (zi rr)), some (.int (zi ss)), some (.ref o), none] (by decide +kernel) rfl rfl (Nat.le_of_ble_eq_true rfl) ?_
  intro p e s m args below meth c Q C hin hQ
  obtain ⟨hI, pn, Z, iF, oF, hZ, hF, -, -, -⟩ := id hc
  unfold hFo at hF
  have hkx : ∀ E M', fX γ M U Y (q_countOrder0 (yS Y) rr ss) xIOB xIAE E M' → zXW p l e { frames := 12, cells := 4, slots := 24, locals := 300 } s m args below meth c γ 5 Q M' 2 12 5 [some (.ref (U 0)), some (.int (zi rr)), some (.int (zi ss)), some (.ref o), none] E := by
    intro E M' hp
    obtain ⟨hok, ⟨h1, rfl⟩ | ⟨h2, rfl⟩⟩ := hp
    · refine z_caught C [] (0, 10, 13, 29) [(0, 10, 17, 19)] rfl (fun z hz => by cases hz) ⟨by decide, by decide⟩ (by decide) cl_IOB (by decide) (fun qx => ?_)
      refine z_astore C dL_countOrder0_13 (by decide) ?_
      refine z_iconst C dL_countOrder0_15 ?_
      refine z_iret C hQ dL_countOrder0_16 rfl (by decide) (by decide) ?_
      exact wJ.x hok ho hoU h1 (by decide)
    · refine z_caught C [(0, 10, 13, 29)] (0, 10, 17, 19) [] rfl (fun z hz => by rw [List.mem_singleton.mp hz]; exact ⟨by decide, _, cl_IOB, by decide⟩) ⟨by decide, by decide⟩ (by decide) cl_IAE (by decide) (fun qx => ?_)
      refine z_astore C dL_countOrder0_17 (by decide) ?_
      refine z_iconst C dL_countOrder0_19 ?_
      refine z_iret C hQ dL_countOrder0_20 rfl (by decide) (by decide) ?_
      exact wJ.x hok ho hoU h2 (by decide)
  refine z_aload_n C dL_countOrder0_0 rfl ?_
  refine z_iconst C dL_countOrder0_1 ?_
  refine z_aload_n C dL_countOrder0_2 rfl ?_
  refine z_iload_n C dL_countOrder0_3 rfl ?_
  refine z_iload_n C dL_countOrder0_4 rfl ?_
  refine z_callV C dL_countOrder0_5 lk_L_45 mw_X8_countOrder0 mi_X8_countOrder0 ms_X8_countOrder0 rfl hF (k_X8_countOrder0 hc hk r_rr r_ss) rfl (by first | decide | exact Nat.le_of_ble_eq_true rfl) ⟨by decide, by decide, by decide, by decide⟩ hkx (fun v M' hp => ?_)
  obtain ⟨hok, h0, rfl⟩ := hp
  have ho1 := hok.1.at (zU_no hoU) ho
  refine z_i2l C dL_countOrder0_8 ?_
  refine z_astJ (i := 0) C dL_countOrder0_9 ho1 ⟨by decide, by decide⟩ (by decide) ?_
  refine z_goto (tgt := 21) C dL_countOrder0_10 (by decide) ?_
  refine z_iconst C dL_countOrder0_21 ?_
  refine z_iret C hQ dL_countOrder0_22 rfl (by decide) (by decide) ?_
  exact wJ.r hok hoU h0
set_option maxHeartbeats 4000000 in
set_option maxRecDepth 100000 in
theorem w_countOrder1 {l : Launch} {γ : zG} {M : zM} {U : Nat → Nat} {Y : zSys} {o : Nat} {f0 : Nat → Int64} {rr pp ss : Int} (hc : hFc γ M U Y) (hk : yOk Y) (ho : M o = some (zaJ γ 1 f0)) (hoU : ∀ i, i < 532 → U i ≠ o) (r_rr : zR rr) (r_pp : zR pp) (r_ss : zR ss) :
    zConH l γ yL_countOrder1 cL_countOrder1 6 (some .int) [(0, 12, 15, 29), (0, 12, 19, 19)] [.ref (U 0), .int (zi rr), .int (zi pp), .int (zi ss), .ref o] M 12 300 4 24 (wJ γ M U o Y (q_countOrder1 (yS Y) rr pp ss) ((zi (q_countOrder1 (yS Y) rr pp ss).2).toInt64)) (fun _ _ => False) := by
  refine zEnterH [some (.ref (U 0)), some (.int (zi rr)), some (.int (zi pp)), some (.int (zi ss)), some (.ref o), none] (by decide +kernel) rfl rfl (Nat.le_of_ble_eq_true rfl) ?_
  intro p e s m args below meth c Q C hin hQ
  obtain ⟨hI, pn, Z, iF, oF, hZ, hF, -, -, -⟩ := id hc
  unfold hFo at hF
  have hkx : ∀ E M', fX γ M U Y (q_countOrder1 (yS Y) rr pp ss) xIOB xIAE E M' → zXW p l e { frames := 12, cells := 4, slots := 24, locals := 300 } s m args below meth c γ 6 Q M' 3 18 7 [some (.ref (U 0)), some (.int (zi rr)), some (.int (zi pp)), some (.int (zi ss)), some (.ref o), none] E := by
    intro E M' hp
    obtain ⟨hok, ⟨h1, rfl⟩ | ⟨h2, rfl⟩⟩ := hp
    · refine z_caught C [] (0, 12, 15, 29) [(0, 12, 19, 19)] rfl (fun z hz => by cases hz) ⟨by decide, by decide⟩ (by decide) cl_IOB (by decide) (fun qx => ?_)
      refine z_astore C dL_countOrder1_15 (by decide) ?_
      refine z_iconst C dL_countOrder1_17 ?_
      refine z_iret C hQ dL_countOrder1_18 rfl (by decide) (by decide) ?_
      exact wJ.x hok ho hoU h1 (by decide)
    · refine z_caught C [(0, 12, 15, 29)] (0, 12, 19, 19) [] rfl (fun z hz => by rw [List.mem_singleton.mp hz]; exact ⟨by decide, _, cl_IOB, by decide⟩) ⟨by decide, by decide⟩ (by decide) cl_IAE (by decide) (fun qx => ?_)
      refine z_astore C dL_countOrder1_19 (by decide) ?_
      refine z_iconst C dL_countOrder1_21 ?_
      refine z_iret C hQ dL_countOrder1_22 rfl (by decide) (by decide) ?_
      exact wJ.x hok ho hoU h2 (by decide)
  refine z_aload C dL_countOrder1_0 rfl ?_
  refine z_iconst C dL_countOrder1_2 ?_
  refine z_aload_n C dL_countOrder1_3 rfl ?_
  refine z_iload_n C dL_countOrder1_4 rfl ?_
  refine z_iload_n C dL_countOrder1_5 rfl ?_
  refine z_iload_n C dL_countOrder1_6 rfl ?_
  refine z_callV C dL_countOrder1_7 lk_L_48 mw_X8_countOrder1 mi_X8_countOrder1 ms_X8_countOrder1 rfl hF (k_X8_countOrder1 hc hk r_rr r_pp r_ss) rfl (by first | decide | exact Nat.le_of_ble_eq_true rfl) ⟨by decide, by decide, by decide, by decide⟩ hkx (fun v M' hp => ?_)
  obtain ⟨hok, h0, rfl⟩ := hp
  have ho1 := hok.1.at (zU_no hoU) ho
  refine z_i2l C dL_countOrder1_10 ?_
  refine z_astJ (i := 0) C dL_countOrder1_11 ho1 ⟨by decide, by decide⟩ (by decide) ?_
  refine z_goto (tgt := 23) C dL_countOrder1_12 (by decide) ?_
  refine z_iconst C dL_countOrder1_23 ?_
  refine z_iret C hQ dL_countOrder1_24 rfl (by decide) (by decide) ?_
  exact wJ.r hok hoU h0
set_option maxHeartbeats 4000000 in
set_option maxRecDepth 100000 in
theorem w_countOrder2 {l : Launch} {γ : zG} {M : zM} {U : Nat → Nat} {Y : zSys} {o : Nat} {f0 : Nat → Int64} {rr bb pp ss : Int} (hc : hFc γ M U Y) (hk : yOk Y) (ho : M o = some (zaJ γ 1 f0)) (hoU : ∀ i, i < 532 → U i ≠ o) (r_rr : zR rr) (r_bb : zR bb) (r_pp : zR pp) (r_ss : zR ss) :
    zConH l γ yL_countOrder2 cL_countOrder2 7 (some .int) [(0, 14, 17, 29), (0, 14, 21, 19)] [.ref (U 0), .int (zi rr), .int (zi bb), .int (zi pp), .int (zi ss), .ref o] M 12 300 4 24 (wJ γ M U o Y (q_countOrder2 (yS Y) rr bb pp ss) ((zi (q_countOrder2 (yS Y) rr bb pp ss).2).toInt64)) (fun _ _ => False) := by
  refine zEnterH [some (.ref (U 0)), some (.int (zi rr)), some (.int (zi bb)), some (.int (zi pp)), some (.int (zi ss)), some (.ref o), none] (by decide +kernel) rfl rfl (Nat.le_of_ble_eq_true rfl) ?_
  intro p e s m args below meth c Q C hin hQ
  obtain ⟨hI, pn, Z, iF, oF, hZ, hF, -, -, -⟩ := id hc
  unfold hFo at hF
  have hkx : ∀ E M', fX γ M U Y (q_countOrder2 (yS Y) rr bb pp ss) xIOB xIAE E M' → zXW p l e { frames := 12, cells := 4, slots := 24, locals := 300 } s m args below meth c γ 7 Q M' 4 24 9 [some (.ref (U 0)), some (.int (zi rr)), some (.int (zi bb)), some (.int (zi pp)), some (.int (zi ss)), some (.ref o), none] E := by
    intro E M' hp
    obtain ⟨hok, ⟨h1, rfl⟩ | ⟨h2, rfl⟩⟩ := hp
    · refine z_caught C [] (0, 14, 17, 29) [(0, 14, 21, 19)] rfl (fun z hz => by cases hz) ⟨by decide, by decide⟩ (by decide) cl_IOB (by decide) (fun qx => ?_)
      refine z_astore C dL_countOrder2_17 (by decide) ?_
      refine z_iconst C dL_countOrder2_19 ?_
      refine z_iret C hQ dL_countOrder2_20 rfl (by decide) (by decide) ?_
      exact wJ.x hok ho hoU h1 (by decide)
    · refine z_caught C [(0, 14, 17, 29)] (0, 14, 21, 19) [] rfl (fun z hz => by rw [List.mem_singleton.mp hz]; exact ⟨by decide, _, cl_IOB, by decide⟩) ⟨by decide, by decide⟩ (by decide) cl_IAE (by decide) (fun qx => ?_)
      refine z_astore C dL_countOrder2_21 (by decide) ?_
      refine z_iconst C dL_countOrder2_23 ?_
      refine z_iret C hQ dL_countOrder2_24 rfl (by decide) (by decide) ?_
      exact wJ.x hok ho hoU h2 (by decide)
  refine z_aload C dL_countOrder2_0 rfl ?_
  refine z_iconst C dL_countOrder2_2 ?_
  refine z_aload_n C dL_countOrder2_3 rfl ?_
  refine z_iload_n C dL_countOrder2_4 rfl ?_
  refine z_iload_n C dL_countOrder2_5 rfl ?_
  refine z_iload_n C dL_countOrder2_6 rfl ?_
  refine z_iload C dL_countOrder2_7 rfl ?_
  refine z_callV C dL_countOrder2_9 lk_L_52 mw_X8_countOrder2 mi_X8_countOrder2 ms_X8_countOrder2 rfl hF (k_X8_countOrder2 hc hk r_rr r_bb r_pp r_ss) rfl (by first | decide | exact Nat.le_of_ble_eq_true rfl) ⟨by decide, by decide, by decide, by decide⟩ hkx (fun v M' hp => ?_)
  obtain ⟨hok, h0, rfl⟩ := hp
  have ho1 := hok.1.at (zU_no hoU) ho
  refine z_i2l C dL_countOrder2_12 ?_
  refine z_astJ (i := 0) C dL_countOrder2_13 ho1 ⟨by decide, by decide⟩ (by decide) ?_
  refine z_goto (tgt := 25) C dL_countOrder2_14 (by decide) ?_
  refine z_iconst C dL_countOrder2_25 ?_
  refine z_iret C hQ dL_countOrder2_26 rfl (by decide) (by decide) ?_
  exact wJ.r hok hoU h0
set_option maxHeartbeats 4000000 in
set_option maxRecDepth 100000 in
theorem w_contextTotal {l : Launch} {γ : zG} {M : zM} {U : Nat → Nat} {Y : zSys} {o : Nat} {f0 : Nat → Int64} {rr bb pp : Int} (hc : hFc γ M U Y) (hk : yOk Y) (ho : M o = some (zaJ γ 1 f0)) (hoU : ∀ i, i < 532 → U i ≠ o) (r_rr : zR rr) (r_bb : zR bb) (r_pp : zR pp) :
    zConH l γ yL_contextTotal cL_contextTotal 6 (some .int) [(0, 12, 15, 29), (0, 12, 19, 19)] [.ref (U 0), .int (zi rr), .int (zi bb), .int (zi pp), .ref o] M 12 300 4 24 (wJ γ M U o Y (q_contextTotal (yS Y) rr bb pp) ((zi (q_contextTotal (yS Y) rr bb pp).2).toInt64)) (fun _ _ => False) := by
  refine zEnterH [some (.ref (U 0)), some (.int (zi rr)), some (.int (zi bb)), some (.int (zi pp)), some (.ref o), none] (by decide +kernel) rfl rfl (Nat.le_of_ble_eq_true rfl) ?_
  intro p e s m args below meth c Q C hin hQ
  obtain ⟨hI, pn, Z, iF, oF, hZ, hF, -, -, -⟩ := id hc
  unfold hFo at hF
  have hkx : ∀ E M', fX γ M U Y (q_contextTotal (yS Y) rr bb pp) xIOB xIAE E M' → zXW p l e { frames := 12, cells := 4, slots := 24, locals := 300 } s m args below meth c γ 6 Q M' 2 12 7 [some (.ref (U 0)), some (.int (zi rr)), some (.int (zi bb)), some (.int (zi pp)), some (.ref o), none] E := by
    intro E M' hp
    obtain ⟨hok, ⟨h1, rfl⟩ | ⟨h2, rfl⟩⟩ := hp
    · refine z_caught C [] (0, 12, 15, 29) [(0, 12, 19, 19)] rfl (fun z hz => by cases hz) ⟨by decide, by decide⟩ (by decide) cl_IOB (by decide) (fun qx => ?_)
      refine z_astore C dL_contextTotal_15 (by decide) ?_
      refine z_iconst C dL_contextTotal_17 ?_
      refine z_iret C hQ dL_contextTotal_18 rfl (by decide) (by decide) ?_
      exact wJ.x hok ho hoU h1 (by decide)
    · refine z_caught C [(0, 12, 15, 29)] (0, 12, 19, 19) [] rfl (fun z hz => by rw [List.mem_singleton.mp hz]; exact ⟨by decide, _, cl_IOB, by decide⟩) ⟨by decide, by decide⟩ (by decide) cl_IAE (by decide) (fun qx => ?_)
      refine z_astore C dL_contextTotal_19 (by decide) ?_
      refine z_iconst C dL_contextTotal_21 ?_
      refine z_iret C hQ dL_contextTotal_22 rfl (by decide) (by decide) ?_
      exact wJ.x hok ho hoU h2 (by decide)
  refine z_aload C dL_contextTotal_0 rfl ?_
  refine z_iconst C dL_contextTotal_2 ?_
  refine z_aload_n C dL_contextTotal_3 rfl ?_
  refine z_iload_n C dL_contextTotal_4 rfl ?_
  refine z_iload_n C dL_contextTotal_5 rfl ?_
  refine z_iload_n C dL_contextTotal_6 rfl ?_
  refine z_callV C dL_contextTotal_7 lk_L_56 mw_X8_contextTotal mi_X8_contextTotal ms_X8_contextTotal rfl hF (k_X8_contextTotal hc hk r_rr r_bb r_pp) rfl (by first | decide | exact Nat.le_of_ble_eq_true rfl) ⟨by decide, by decide, by decide, by decide⟩ hkx (fun v M' hp => ?_)
  obtain ⟨hok, h0, rfl⟩ := hp
  have ho1 := hok.1.at (zU_no hoU) ho
  refine z_i2l C dL_contextTotal_10 ?_
  refine z_astJ (i := 0) C dL_contextTotal_11 ho1 ⟨by decide, by decide⟩ (by decide) ?_
  refine z_goto (tgt := 23) C dL_contextTotal_12 (by decide) ?_
  refine z_iconst C dL_contextTotal_23 ?_
  refine z_iret C hQ dL_contextTotal_24 rfl (by decide) (by decide) ?_
  exact wJ.r hok hoU h0

