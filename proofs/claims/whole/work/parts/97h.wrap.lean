/-! wrappers: hardestDocument, guessesAfterTraining, trainingsNeeded, yearsToForget, agreements, addReader -/
set_option maxHeartbeats 4000000 in
set_option maxRecDepth 100000 in
theorem w_hardestDocument {l : Launch} {γ : zG} {M : zM} {U : Nat → Nat} {Y : zSys} {o : Nat} {f0 : Nat → Int64} {rr : Int} (hc : hFc γ M U Y) (hk : yOk Y) (ho : M o = some (zaJ γ 1 f0)) (hoU : ∀ i, i < 532 → U i ≠ o) (r_rr : zR rr) :
    zConH l γ yL_hardestDocument cL_hardestDocument 4 (some .int) [(0, 9, 12, 29)] [.ref (U 0), .int (zi rr), .ref o] M 12 300 4 24 (wJ γ M U o Y (q_hardestDocument (yS Y) rr) ((zi (q_hardestDocument (yS Y) rr).2).toInt64)) (fun _ _ => False) := by
  refine zEnterH [some (.ref (U 0)), some (.int (zi rr)), some (.ref o), none] (by decide +kernel) rfl rfl (Nat.le_of_ble_eq_true rfl) ?_
  intro p e s m args below meth c Q C hin hQ
  obtain ⟨hI, pn, Z, iF, oF, hZ, hF, -, -, -⟩ := id hc
  unfold hFo at hF
  have n2 : (q_hardestDocument (yS Y) rr).1 ≠ 2 := by
    simp only [q_hardestDocument, zqR, zqD, zqS]
    (repeat' split) <;> first | exact (by decide : (0 : Int) ≠ 2) | exact (by decide : (1 : Int) ≠ 2)
  have hkx : ∀ E M', fX γ M U Y (q_hardestDocument (yS Y) rr) xIOB xIAE E M' → zXW p l e { frames := 12, cells := 4, slots := 24, locals := 300 } s m args below meth c γ 4 Q M' 1 6 4 [some (.ref (U 0)), some (.int (zi rr)), some (.ref o), none] E := by
    intro E M' hp
    obtain ⟨hok, ⟨h1, rfl⟩ | ⟨h2, rfl⟩⟩ := hp
    · refine z_caught C [] (0, 9, 12, 29) [] rfl (fun z hz => by cases hz) ⟨by decide, by decide⟩ (by decide) cl_IOB (by decide) (fun qx => ?_)
      refine z_astore_n C dL_hardestDocument_12 (by decide) ?_
      refine z_iconst C dL_hardestDocument_13 ?_
      refine z_iret C hQ dL_hardestDocument_14 rfl (by decide) (by decide) ?_
      exact wJ.x hok ho hoU h1 (by decide)
    · exact absurd h2 n2
  refine z_aload_n C dL_hardestDocument_0 rfl ?_
  refine z_iconst C dL_hardestDocument_1 ?_
  refine z_aload_n C dL_hardestDocument_2 rfl ?_
  refine z_iload_n C dL_hardestDocument_3 rfl ?_
  refine z_callV C dL_hardestDocument_4 lk_L_135 mw_X8_hardestDocument mi_X8_hardestDocument ms_X8_hardestDocument rfl hF (k_X8_hardestDocument hc hk r_rr) rfl (by first | decide | exact Nat.le_of_ble_eq_true rfl) ⟨by decide, by decide, by decide, by decide⟩ hkx (fun v M' hp => ?_)
  obtain ⟨hok, h0, rfl⟩ := hp
  have ho1 := hok.1.at (zU_no hoU) ho
  refine z_i2l C dL_hardestDocument_7 ?_
  refine z_astJ (i := 0) C dL_hardestDocument_8 ho1 ⟨by decide, by decide⟩ (by decide) ?_
  refine z_goto (tgt := 15) C dL_hardestDocument_9 (by decide) ?_
  refine z_iconst C dL_hardestDocument_15 ?_
  refine z_iret C hQ dL_hardestDocument_16 rfl (by decide) (by decide) ?_
  exact wJ.r hok hoU h0
set_option maxHeartbeats 4000000 in
set_option maxRecDepth 100000 in
theorem w_guessesAfterTraining {l : Launch} {γ : zG} {M : zM} {U : Nat → Nat} {Y : zSys} {o : Nat} {f0 : Nat → Int64} {rr dd ee : Int} (hc : hFc γ M U Y) (hk : yOk Y) (ho : M o = some (zaJ γ 1 f0)) (hoU : ∀ i, i < 532 → U i ≠ o) (r_rr : zR rr) (r_dd : zR dd) (r_ee : zR ee) :
    zConH l γ yL_guessesAfterTraining cL_guessesAfterTraining 6 (some .int) [(0, 12, 15, 29)] [.ref (U 0), .int (zi rr), .int (zi dd), .int (zi ee), .ref o] M 12 300 4 24 (wJ γ M U o Y (q_guessesAfterTraining (yS Y) rr dd ee) ((zi (q_guessesAfterTraining (yS Y) rr dd ee).2).toInt64)) (fun _ _ => False) := by
  refine zEnterH [some (.ref (U 0)), some (.int (zi rr)), some (.int (zi dd)), some (.int (zi ee)), some (.ref o), none] (by decide +kernel) rfl rfl (Nat.le_of_ble_eq_true rfl) ?_
  intro p e s m args below meth c Q C hin hQ
  obtain ⟨hI, pn, Z, iF, oF, hZ, hF, -, -, -⟩ := id hc
  unfold hFo at hF
  have n2 : (q_guessesAfterTraining (yS Y) rr dd ee).1 ≠ 2 := by
    simp only [q_guessesAfterTraining, zqR, zqD, zqS]
    (repeat' split) <;> first | exact (by decide : (0 : Int) ≠ 2) | exact (by decide : (1 : Int) ≠ 2)
  have hkx : ∀ E M', fX γ M U Y (q_guessesAfterTraining (yS Y) rr dd ee) xIOB xIAE E M' → zXW p l e { frames := 12, cells := 4, slots := 24, locals := 300 } s m args below meth c γ 6 Q M' 3 18 7 [some (.ref (U 0)), some (.int (zi rr)), some (.int (zi dd)), some (.int (zi ee)), some (.ref o), none] E := by
    intro E M' hp
    obtain ⟨hok, ⟨h1, rfl⟩ | ⟨h2, rfl⟩⟩ := hp
    · refine z_caught C [] (0, 12, 15, 29) [] rfl (fun z hz => by cases hz) ⟨by decide, by decide⟩ (by decide) cl_IOB (by decide) (fun qx => ?_)
      refine z_astore C dL_guessesAfterTraining_15 (by decide) ?_
      refine z_iconst C dL_guessesAfterTraining_17 ?_
      refine z_iret C hQ dL_guessesAfterTraining_18 rfl (by decide) (by decide) ?_
      exact wJ.x hok ho hoU h1 (by decide)
    · exact absurd h2 n2
  refine z_aload C dL_guessesAfterTraining_0 rfl ?_
  refine z_iconst C dL_guessesAfterTraining_2 ?_
  refine z_aload_n C dL_guessesAfterTraining_3 rfl ?_
  refine z_iload_n C dL_guessesAfterTraining_4 rfl ?_
  refine z_iload_n C dL_guessesAfterTraining_5 rfl ?_
  refine z_iload_n C dL_guessesAfterTraining_6 rfl ?_
  refine z_callV C dL_guessesAfterTraining_7 lk_L_138 mw_X8_guessesAfterTraining mi_X8_guessesAfterTraining ms_X8_guessesAfterTraining rfl hF (k_X8_guessesAfterTraining hc hk r_rr r_dd r_ee) rfl (by first | decide | exact Nat.le_of_ble_eq_true rfl) ⟨by decide, by decide, by decide, by decide⟩ hkx (fun v M' hp => ?_)
  obtain ⟨hok, h0, rfl⟩ := hp
  have ho1 := hok.1.at (zU_no hoU) ho
  refine z_i2l C dL_guessesAfterTraining_10 ?_
  refine z_astJ (i := 0) C dL_guessesAfterTraining_11 ho1 ⟨by decide, by decide⟩ (by decide) ?_
  refine z_goto (tgt := 19) C dL_guessesAfterTraining_12 (by decide) ?_
  refine z_iconst C dL_guessesAfterTraining_19 ?_
  refine z_iret C hQ dL_guessesAfterTraining_20 rfl (by decide) (by decide) ?_
  exact wJ.r hok hoU h0
set_option maxHeartbeats 4000000 in
set_option maxRecDepth 100000 in
theorem w_trainingsNeeded {l : Launch} {γ : zG} {M : zM} {U : Nat → Nat} {Y : zSys} {o : Nat} {f0 : Nat → Int64} {rr dd ll : Int} (hc : hFc γ M U Y) (hk : yOk Y) (ho : M o = some (zaJ γ 1 f0)) (hoU : ∀ i, i < 532 → U i ≠ o) (r_rr : zR rr) (r_dd : zR dd) (r_ll : zR ll) :
    zConH l γ yL_trainingsNeeded cL_trainingsNeeded 6 (some .int) [(0, 12, 15, 29), (0, 12, 19, 19)] [.ref (U 0), .int (zi rr), .int (zi dd), .int (zi ll), .ref o] M 12 300 4 24 (wJ γ M U o Y (q_trainingsNeeded (yS Y) rr dd ll) ((zi (q_trainingsNeeded (yS Y) rr dd ll).2).toInt64)) (fun _ _ => False) := by
  refine zEnterH [some (.ref (U 0)), some (.int (zi rr)), some (.int (zi dd)), some (.int (zi ll)), some (.ref o), none] (by decide +kernel) rfl rfl (Nat.le_of_ble_eq_true rfl) ?_
  intro p e s m args below meth c Q C hin hQ
  obtain ⟨hI, pn, Z, iF, oF, hZ, hF, -, -, -⟩ := id hc
  unfold hFo at hF
  have hkx : ∀ E M', fX γ M U Y (q_trainingsNeeded (yS Y) rr dd ll) xIOB xIAE E M' → zXW p l e { frames := 12, cells := 4, slots := 24, locals := 300 } s m args below meth c γ 6 Q M' 3 18 7 [some (.ref (U 0)), some (.int (zi rr)), some (.int (zi dd)), some (.int (zi ll)), some (.ref o), none] E := by
    intro E M' hp
    obtain ⟨hok, ⟨h1, rfl⟩ | ⟨h2, rfl⟩⟩ := hp
    · refine z_caught C [] (0, 12, 15, 29) [(0, 12, 19, 19)] rfl (fun z hz => by cases hz) ⟨by decide, by decide⟩ (by decide) cl_IOB (by decide) (fun qx => ?_)
      refine z_astore C dL_trainingsNeeded_15 (by decide) ?_
      refine z_iconst C dL_trainingsNeeded_17 ?_
      refine z_iret C hQ dL_trainingsNeeded_18 rfl (by decide) (by decide) ?_
      exact wJ.x hok ho hoU h1 (by decide)
    · refine z_caught C [(0, 12, 15, 29)] (0, 12, 19, 19) [] rfl (fun z hz => by rw [List.mem_singleton.mp hz]; exact ⟨by decide, _, cl_IOB, by decide⟩) ⟨by decide, by decide⟩ (by decide) cl_IAE (by decide) (fun qx => ?_)
      refine z_astore C dL_trainingsNeeded_19 (by decide) ?_
      refine z_iconst C dL_trainingsNeeded_21 ?_
      refine z_iret C hQ dL_trainingsNeeded_22 rfl (by decide) (by decide) ?_
      exact wJ.x hok ho hoU h2 (by decide)
  refine z_aload C dL_trainingsNeeded_0 rfl ?_
  refine z_iconst C dL_trainingsNeeded_2 ?_
  refine z_aload_n C dL_trainingsNeeded_3 rfl ?_
  refine z_iload_n C dL_trainingsNeeded_4 rfl ?_
  refine z_iload_n C dL_trainingsNeeded_5 rfl ?_
  refine z_iload_n C dL_trainingsNeeded_6 rfl ?_
  refine z_callV C dL_trainingsNeeded_7 lk_L_141 mw_X8_trainingsNeeded mi_X8_trainingsNeeded ms_X8_trainingsNeeded rfl hF (k_X8_trainingsNeeded hc hk r_rr r_dd r_ll) rfl (by first | decide | exact Nat.le_of_ble_eq_true rfl) ⟨by decide, by decide, by decide, by decide⟩ hkx (fun v M' hp => ?_)
  obtain ⟨hok, h0, rfl⟩ := hp
  have ho1 := hok.1.at (zU_no hoU) ho
  refine z_i2l C dL_trainingsNeeded_10 ?_
  refine z_astJ (i := 0) C dL_trainingsNeeded_11 ho1 ⟨by decide, by decide⟩ (by decide) ?_
  refine z_goto (tgt := 23) C dL_trainingsNeeded_12 (by decide) ?_
  refine z_iconst C dL_trainingsNeeded_23 ?_
  refine z_iret C hQ dL_trainingsNeeded_24 rfl (by decide) (by decide) ?_
  exact wJ.r hok hoU h0
set_option maxHeartbeats 4000000 in
set_option maxRecDepth 100000 in
theorem w_yearsToForget {l : Launch} {γ : zG} {M : zM} {U : Nat → Nat} {Y : zSys} {o : Nat} {f0 : Nat → Int64} {rr : Int} (hc : hFc γ M U Y) (hk : yOk Y) (ho : M o = some (zaJ γ 1 f0)) (hoU : ∀ i, i < 532 → U i ≠ o) (r_rr : zR rr) :
    zConH l γ yL_yearsToForget cL_yearsToForget 4 (some .int) [(0, 9, 12, 29)] [.ref (U 0), .int (zi rr), .ref o] M 12 300 4 24 (wJ γ M U o Y (q_yearsToForget (yS Y) rr) ((zi (q_yearsToForget (yS Y) rr).2).toInt64)) (fun _ _ => False) := by
  refine zEnterH [some (.ref (U 0)), some (.int (zi rr)), some (.ref o), none] (by decide +kernel) rfl rfl (Nat.le_of_ble_eq_true rfl) ?_
  intro p e s m args below meth c Q C hin hQ
  obtain ⟨hI, pn, Z, iF, oF, hZ, hF, -, -, -⟩ := id hc
  unfold hFo at hF
  have n2 : (q_yearsToForget (yS Y) rr).1 ≠ 2 := by
    simp only [q_yearsToForget, zqR, zqD, zqS]
    (repeat' split) <;> first | exact (by decide : (0 : Int) ≠ 2) | exact (by decide : (1 : Int) ≠ 2)
  have hkx : ∀ E M', fX γ M U Y (q_yearsToForget (yS Y) rr) xIOB xIAE E M' → zXW p l e { frames := 12, cells := 4, slots := 24, locals := 300 } s m args below meth c γ 4 Q M' 1 6 4 [some (.ref (U 0)), some (.int (zi rr)), some (.ref o), none] E := by
    intro E M' hp
    obtain ⟨hok, ⟨h1, rfl⟩ | ⟨h2, rfl⟩⟩ := hp
    · refine z_caught C [] (0, 9, 12, 29) [] rfl (fun z hz => by cases hz) ⟨by decide, by decide⟩ (by decide) cl_IOB (by decide) (fun qx => ?_)
      refine z_astore_n C dL_yearsToForget_12 (by decide) ?_
      refine z_iconst C dL_yearsToForget_13 ?_
      refine z_iret C hQ dL_yearsToForget_14 rfl (by decide) (by decide) ?_
      exact wJ.x hok ho hoU h1 (by decide)
    · exact absurd h2 n2
  refine z_aload_n C dL_yearsToForget_0 rfl ?_
  refine z_iconst C dL_yearsToForget_1 ?_
  refine z_aload_n C dL_yearsToForget_2 rfl ?_
  refine z_iload_n C dL_yearsToForget_3 rfl ?_
  refine z_callV C dL_yearsToForget_4 lk_L_144 mw_X8_yearsToForget mi_X8_yearsToForget ms_X8_yearsToForget rfl hF (k_X8_yearsToForget hc hk r_rr) rfl (by first | decide | exact Nat.le_of_ble_eq_true rfl) ⟨by decide, by decide, by decide, by decide⟩ hkx (fun v M' hp => ?_)
  obtain ⟨hok, h0, rfl⟩ := hp
  have ho1 := hok.1.at (zU_no hoU) ho
  refine z_i2l C dL_yearsToForget_7 ?_
  refine z_astJ (i := 0) C dL_yearsToForget_8 ho1 ⟨by decide, by decide⟩ (by decide) ?_
  refine z_goto (tgt := 15) C dL_yearsToForget_9 (by decide) ?_
  refine z_iconst C dL_yearsToForget_15 ?_
  refine z_iret C hQ dL_yearsToForget_16 rfl (by decide) (by decide) ?_
  exact wJ.r hok hoU h0
set_option maxHeartbeats 4000000 in
set_option maxRecDepth 100000 in
theorem w_agreements {l : Launch} {γ : zG} {M : zM} {U : Nat → Nat} {Y : zSys} {o : Nat} {f0 : Nat → Int64} {rr oo : Int} (hc : hFc γ M U Y) (hk : yOk Y) (ho : M o = some (zaJ γ 1 f0)) (hoU : ∀ i, i < 532 → U i ≠ o) (r_rr : zR rr) (r_oo : zR oo) :
    zConH l γ yL_agreements cL_agreements 5 (some .int) [(0, 10, 13, 29), (0, 10, 17, 19)] [.ref (U 0), .int (zi rr), .int (zi oo), .ref o] M 12 300 4 24 (wJ γ M U o Y (q_agreements (yS Y) rr oo) ((zi (q_agreements (yS Y) rr oo).2).toInt64)) (fun _ _ => False) := by
  refine zEnterH [some (.ref (U 0)), some (.int (zi rr)), some (.int (zi oo)), some (.ref o), none] (by decide +kernel) rfl rfl (Nat.le_of_ble_eq_true rfl) ?_
  intro p e s m args below meth c Q C hin hQ
  obtain ⟨hI, pn, Z, iF, oF, hZ, hF, -, -, -⟩ := id hc
  unfold hFo at hF
  have hkx : ∀ E M', fX γ M U Y (q_agreements (yS Y) rr oo) xIOB xIAE E M' → zXW p l e { frames := 12, cells := 4, slots := 24, locals := 300 } s m args below meth c γ 5 Q M' 3 18 5 [some (.ref (U 0)), some (.int (zi rr)), some (.int (zi oo)), some (.ref o), none] E := by
    intro E M' hp
    obtain ⟨hok, ⟨h1, rfl⟩ | ⟨h2, rfl⟩⟩ := hp
    · refine z_caught C [] (0, 10, 13, 29) [(0, 10, 17, 19)] rfl (fun z hz => by cases hz) ⟨by decide, by decide⟩ (by decide) cl_IOB (by decide) (fun qx => ?_)
      refine z_astore C dL_agreements_13 (by decide) ?_
      refine z_iconst C dL_agreements_15 ?_
      refine z_iret C hQ dL_agreements_16 rfl (by decide) (by decide) ?_
      exact wJ.x hok ho hoU h1 (by decide)
    · refine z_caught C [(0, 10, 13, 29)] (0, 10, 17, 19) [] rfl (fun z hz => by rw [List.mem_singleton.mp hz]; exact ⟨by decide, _, cl_IOB, by decide⟩) ⟨by decide, by decide⟩ (by decide) cl_IAE (by decide) (fun qx => ?_)
      refine z_astore C dL_agreements_17 (by decide) ?_
      refine z_iconst C dL_agreements_19 ?_
      refine z_iret C hQ dL_agreements_20 rfl (by decide) (by decide) ?_
      exact wJ.x hok ho hoU h2 (by decide)
  refine z_aload_n C dL_agreements_0 rfl ?_
  refine z_iconst C dL_agreements_1 ?_
  refine z_aload_n C dL_agreements_2 rfl ?_
  refine z_iload_n C dL_agreements_3 rfl ?_
  refine z_iload_n C dL_agreements_4 rfl ?_
  refine z_callV C dL_agreements_5 lk_L_147 mw_X8_agreements mi_X8_agreements ms_X8_agreements rfl hF (k_X8_agreements hc hk r_rr r_oo) rfl (by first | decide | exact Nat.le_of_ble_eq_true rfl) ⟨by decide, by decide, by decide, by decide⟩ hkx (fun v M' hp => ?_)
  obtain ⟨hok, h0, rfl⟩ := hp
  have ho1 := hok.1.at (zU_no hoU) ho
  refine z_i2l C dL_agreements_8 ?_
  refine z_astJ (i := 0) C dL_agreements_9 ho1 ⟨by decide, by decide⟩ (by decide) ?_
  refine z_goto (tgt := 21) C dL_agreements_10 (by decide) ?_
  refine z_iconst C dL_agreements_21 ?_
  refine z_iret C hQ dL_agreements_22 rfl (by decide) (by decide) ?_
  exact wJ.r hok hoU h0
set_option maxHeartbeats 4000000 in
set_option maxRecDepth 100000 in
theorem w_addReader {l : Launch} {γ : zG} {M : zM} {U : Nat → Nat} {Y : zSys} {o : Nat} {f0 : Nat → Int64} {mm : Int} (hc : hFc γ M U Y) (hk : yOk Y) (ho : M o = some (zaJ γ 1 f0)) (hoU : ∀ i, i < 532 → U i ≠ o) (r_mm : zR mm) :
    zConH l γ yL_addReader cL_addReader 4 (some .int) [(0, 9, 12, 19), (0, 9, 15, 13)] [.ref (U 0), .int (zi mm), .ref o] M 12 300 4 24 (wJ γ M U o (zYs (q_addReader Y mm) (y_addReader Y mm) Y) (q_addReader Y mm) ((zi (q_addReader Y mm).2).toInt64)) (fun _ _ => False) := by
  refine zEnterH [some (.ref (U 0)), some (.int (zi mm)), some (.ref o), none] (by decide +kernel) rfl rfl (Nat.le_of_ble_eq_true rfl) ?_
  intro p e s m args below meth c Q C hin hQ
  obtain ⟨hI, pn, Z, iF, oF, hZ, hF, -, -, -⟩ := id hc
  unfold hFo at hF
  have hkx : ∀ E M', fX γ M U Y (q_addReader Y mm) xIAE xISE E M' → zXW p l e { frames := 12, cells := 4, slots := 24, locals := 300 } s m args below meth c γ 4 Q M' 2 12 4 [some (.ref (U 0)), some (.int (zi mm)), some (.ref o), none] E := by
    intro E M' hp
    obtain ⟨hok, ⟨h1, rfl⟩ | ⟨h2, rfl⟩⟩ := hp
    · refine z_caught C [] (0, 9, 12, 19) [(0, 9, 15, 13)] rfl (fun z hz => by cases hz) ⟨by decide, by decide⟩ (by decide) cl_IAE (by decide) (fun qx => ?_)
      refine z_astore_n C dL_addReader_12 (by decide) ?_
      refine z_iconst C dL_addReader_13 ?_
      refine z_iret C hQ dL_addReader_14 rfl (by decide) (by decide) ?_
      exact wJ.x (by rw [zYs_f (by rw [h1]; decide)]; exact hok) ho hoU h1 (by decide)
    · refine z_caught C [(0, 9, 12, 19)] (0, 9, 15, 13) [] rfl (fun z hz => by rw [List.mem_singleton.mp hz]; exact ⟨by decide, _, cl_IAE, by decide⟩) ⟨by decide, by decide⟩ (by decide) cl_ISE (by decide) (fun qx => ?_)
      refine z_astore_n C dL_addReader_15 (by decide) ?_
      refine z_iconst C dL_addReader_16 ?_
      refine z_iret C hQ dL_addReader_17 rfl (by decide) (by decide) ?_
      exact wJ.x (by rw [zYs_f (by rw [h2]; decide)]; exact hok) ho hoU h2 (by decide)
  refine z_aload_n C dL_addReader_0 rfl ?_
  refine z_iconst C dL_addReader_1 ?_
  refine z_aload_n C dL_addReader_2 rfl ?_
  refine z_iload_n C dL_addReader_3 rfl ?_
  refine z_callV C dL_addReader_4 lk_L_150 mw_X8_addReader mi_X8_addReader ms_X8_addReader rfl hF (k_X8_addReader hc hk r_mm) rfl (by first | decide | exact Nat.le_of_ble_eq_true rfl) ⟨by decide, by decide, by decide, by decide⟩ hkx (fun v M' hp => ?_)
  obtain ⟨hok, h0, rfl⟩ := hp
  have ho1 := hok.1.at (zU_no hoU) ho
  refine z_i2l C dL_addReader_7 ?_
  refine z_astJ (i := 0) C dL_addReader_8 ho1 ⟨by decide, by decide⟩ (by decide) ?_
  refine z_goto (tgt := 18) C dL_addReader_9 (by decide) ?_
  refine z_iconst C dL_addReader_18 ?_
  refine z_iret C hQ dL_addReader_19 rfl (by decide) (by decide) ?_
  exact wJ.r (by rw [zYs_t h0]; exact hok) hoU h0

