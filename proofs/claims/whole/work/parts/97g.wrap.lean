/-! wrappers: unseenSymbols, hardestPosition, totalBits, meanGuesses, hitShare, bestReader -/
set_option maxHeartbeats 4000000 in
set_option maxRecDepth 100000 in
theorem w_unseenSymbols {l : Launch} {γ : zG} {M : zM} {U : Nat → Nat} {Y : zSys} {o : Nat} {f0 : Nat → Int64} {rr dd : Int} (hc : hFc γ M U Y) (hk : yOk Y) (ho : M o = some (zaJ γ 1 f0)) (hoU : ∀ i, i < 532 → U i ≠ o) (r_rr : zR rr) (r_dd : zR dd) :
    zConH l γ yL_unseenSymbols cL_unseenSymbols 5 (some .int) [(0, 10, 13, 29)] [.ref (U 0), .int (zi rr), .int (zi dd), .ref o] M 12 300 4 24 (wJ γ M U o Y (q_unseenSymbols (yS Y) rr dd) ((zi (q_unseenSymbols (yS Y) rr dd).2).toInt64)) (fun _ _ => False) := by
  refine zEnterH [some (.ref (U 0)), some (.int (zi rr)), some (.int (zi dd)), some (.ref o), none] (by decide +kernel) rfl rfl (Nat.le_of_ble_eq_true rfl) ?_
  intro p e s m args below meth c Q C hin hQ
  obtain ⟨hI, pn, Z, iF, oF, hZ, hF, -, -, -⟩ := id hc
  unfold hFo at hF
  have n2 : (q_unseenSymbols (yS Y) rr dd).1 ≠ 2 := by
    simp only [q_unseenSymbols, zqR, zqD, zqS]
    (repeat' split) <;> first | exact (by decide : (0 : Int) ≠ 2) | exact (by decide : (1 : Int) ≠ 2)
  have hkx : ∀ E M', fX γ M U Y (q_unseenSymbols (yS Y) rr dd) xIOB xIAE E M' → zXW p l e { frames := 12, cells := 4, slots := 24, locals := 300 } s m args below meth c γ 5 Q M' 2 12 5 [some (.ref (U 0)), some (.int (zi rr)), some (.int (zi dd)), some (.ref o), none] E := by
    intro E M' hp
    obtain ⟨hok, ⟨h1, rfl⟩ | ⟨h2, rfl⟩⟩ := hp
    · refine z_caught C [] (0, 10, 13, 29) [] rfl (fun z hz => by cases hz) ⟨by decide, by decide⟩ (by decide) cl_IOB (by decide) (fun qx => ?_)
      refine z_astore C dL_unseenSymbols_13 (by decide) ?_
      refine z_iconst C dL_unseenSymbols_15 ?_
      refine z_iret C hQ dL_unseenSymbols_16 rfl (by decide) (by decide) ?_
      exact wJ.x hok ho hoU h1 (by decide)
    · exact absurd h2 n2
  refine z_aload_n C dL_unseenSymbols_0 rfl ?_
  refine z_iconst C dL_unseenSymbols_1 ?_
  refine z_aload_n C dL_unseenSymbols_2 rfl ?_
  refine z_iload_n C dL_unseenSymbols_3 rfl ?_
  refine z_iload_n C dL_unseenSymbols_4 rfl ?_
  refine z_callV C dL_unseenSymbols_5 lk_L_115 mw_X8_unseenSymbols mi_X8_unseenSymbols ms_X8_unseenSymbols rfl hF (k_X8_unseenSymbols hc hk r_rr r_dd) rfl (by first | decide | exact Nat.le_of_ble_eq_true rfl) ⟨by decide, by decide, by decide, by decide⟩ hkx (fun v M' hp => ?_)
  obtain ⟨hok, h0, rfl⟩ := hp
  have ho1 := hok.1.at (zU_no hoU) ho
  refine z_i2l C dL_unseenSymbols_8 ?_
  refine z_astJ (i := 0) C dL_unseenSymbols_9 ho1 ⟨by decide, by decide⟩ (by decide) ?_
  refine z_goto (tgt := 17) C dL_unseenSymbols_10 (by decide) ?_
  refine z_iconst C dL_unseenSymbols_17 ?_
  refine z_iret C hQ dL_unseenSymbols_18 rfl (by decide) (by decide) ?_
  exact wJ.r hok hoU h0
set_option maxHeartbeats 4000000 in
set_option maxRecDepth 100000 in
theorem w_hardestPosition {l : Launch} {γ : zG} {M : zM} {U : Nat → Nat} {Y : zSys} {o : Nat} {f0 : Nat → Int64} {rr dd : Int} (hc : hFc γ M U Y) (hk : yOk Y) (ho : M o = some (zaJ γ 1 f0)) (hoU : ∀ i, i < 532 → U i ≠ o) (r_rr : zR rr) (r_dd : zR dd) :
    zConH l γ yL_hardestPosition cL_hardestPosition 5 (some .int) [(0, 10, 13, 29)] [.ref (U 0), .int (zi rr), .int (zi dd), .ref o] M 12 300 4 24 (wJ γ M U o Y (q_hardestPosition (yS Y) rr dd) ((zi (q_hardestPosition (yS Y) rr dd).2).toInt64)) (fun _ _ => False) := by
  refine zEnterH [some (.ref (U 0)), some (.int (zi rr)), some (.int (zi dd)), some (.ref o), none] (by decide +kernel) rfl rfl (Nat.le_of_ble_eq_true rfl) ?_
  intro p e s m args below meth c Q C hin hQ
  obtain ⟨hI, pn, Z, iF, oF, hZ, hF, -, -, -⟩ := id hc
  unfold hFo at hF
  have n2 : (q_hardestPosition (yS Y) rr dd).1 ≠ 2 := by
    simp only [q_hardestPosition, zqR, zqD, zqS]
    (repeat' split) <;> first | exact (by decide : (0 : Int) ≠ 2) | exact (by decide : (1 : Int) ≠ 2)
  have hkx : ∀ E M', fX γ M U Y (q_hardestPosition (yS Y) rr dd) xIOB xIAE E M' → zXW p l e { frames := 12, cells := 4, slots := 24, locals := 300 } s m args below meth c γ 5 Q M' 2 12 5 [some (.ref (U 0)), some (.int (zi rr)), some (.int (zi dd)), some (.ref o), none] E := by
    intro E M' hp
    obtain ⟨hok, ⟨h1, rfl⟩ | ⟨h2, rfl⟩⟩ := hp
    · refine z_caught C [] (0, 10, 13, 29) [] rfl (fun z hz => by cases hz) ⟨by decide, by decide⟩ (by decide) cl_IOB (by decide) (fun qx => ?_)
      refine z_astore C dL_hardestPosition_13 (by decide) ?_
      refine z_iconst C dL_hardestPosition_15 ?_
      refine z_iret C hQ dL_hardestPosition_16 rfl (by decide) (by decide) ?_
      exact wJ.x hok ho hoU h1 (by decide)
    · exact absurd h2 n2
  refine z_aload_n C dL_hardestPosition_0 rfl ?_
  refine z_iconst C dL_hardestPosition_1 ?_
  refine z_aload_n C dL_hardestPosition_2 rfl ?_
  refine z_iload_n C dL_hardestPosition_3 rfl ?_
  refine z_iload_n C dL_hardestPosition_4 rfl ?_
  refine z_callV C dL_hardestPosition_5 lk_L_118 mw_X8_hardestPosition mi_X8_hardestPosition ms_X8_hardestPosition rfl hF (k_X8_hardestPosition hc hk r_rr r_dd) rfl (by first | decide | exact Nat.le_of_ble_eq_true rfl) ⟨by decide, by decide, by decide, by decide⟩ hkx (fun v M' hp => ?_)
  obtain ⟨hok, h0, rfl⟩ := hp
  have ho1 := hok.1.at (zU_no hoU) ho
  refine z_i2l C dL_hardestPosition_8 ?_
  refine z_astJ (i := 0) C dL_hardestPosition_9 ho1 ⟨by decide, by decide⟩ (by decide) ?_
  refine z_goto (tgt := 17) C dL_hardestPosition_10 (by decide) ?_
  refine z_iconst C dL_hardestPosition_17 ?_
  refine z_iret C hQ dL_hardestPosition_18 rfl (by decide) (by decide) ?_
  exact wJ.r hok hoU h0
set_option maxHeartbeats 4000000 in
set_option maxRecDepth 100000 in
theorem w_totalBits {l : Launch} {γ : zG} {M : zM} {U : Nat → Nat} {Y : zSys} {o : Nat} {f0 : Nat → Int64} {rr dd : Int} (hc : hFc γ M U Y) (hk : yOk Y) (ho : M o = some (zaJ γ 1 f0)) (hoU : ∀ i, i < 532 → U i ≠ o) (r_rr : zR rr) (r_dd : zR dd) :
    zConH l γ yL_totalBits cL_totalBits 5 (some .int) [(0, 10, 13, 29)] [.ref (U 0), .int (zi rr), .int (zi dd), .ref o] M 12 300 4 24 (wJ γ M U o Y (q_totalBits (yS Y) rr dd) ((zi (q_totalBits (yS Y) rr dd).2).toInt64)) (fun _ _ => False) := by
  refine zEnterH [some (.ref (U 0)), some (.int (zi rr)), some (.int (zi dd)), some (.ref o), none] (by decide +kernel) rfl rfl (Nat.le_of_ble_eq_true rfl) ?_
  intro p e s m args below meth c Q C hin hQ
  obtain ⟨hI, pn, Z, iF, oF, hZ, hF, -, -, -⟩ := id hc
  unfold hFo at hF
  have n2 : (q_totalBits (yS Y) rr dd).1 ≠ 2 := by
    simp only [q_totalBits, zqR, zqD, zqS]
    (repeat' split) <;> first | exact (by decide : (0 : Int) ≠ 2) | exact (by decide : (1 : Int) ≠ 2)
  have hkx : ∀ E M', fX γ M U Y (q_totalBits (yS Y) rr dd) xIOB xIAE E M' → zXW p l e { frames := 12, cells := 4, slots := 24, locals := 300 } s m args below meth c γ 5 Q M' 2 12 5 [some (.ref (U 0)), some (.int (zi rr)), some (.int (zi dd)), some (.ref o), none] E := by
    intro E M' hp
    obtain ⟨hok, ⟨h1, rfl⟩ | ⟨h2, rfl⟩⟩ := hp
    · refine z_caught C [] (0, 10, 13, 29) [] rfl (fun z hz => by cases hz) ⟨by decide, by decide⟩ (by decide) cl_IOB (by decide) (fun qx => ?_)
      refine z_astore C dL_totalBits_13 (by decide) ?_
      refine z_iconst C dL_totalBits_15 ?_
      refine z_iret C hQ dL_totalBits_16 rfl (by decide) (by decide) ?_
      exact wJ.x hok ho hoU h1 (by decide)
    · exact absurd h2 n2
  refine z_aload_n C dL_totalBits_0 rfl ?_
  refine z_iconst C dL_totalBits_1 ?_
  refine z_aload_n C dL_totalBits_2 rfl ?_
  refine z_iload_n C dL_totalBits_3 rfl ?_
  refine z_iload_n C dL_totalBits_4 rfl ?_
  refine z_callV C dL_totalBits_5 lk_L_121 mw_X8_totalBits mi_X8_totalBits ms_X8_totalBits rfl hF (k_X8_totalBits hc hk r_rr r_dd) rfl (by first | decide | exact Nat.le_of_ble_eq_true rfl) ⟨by decide, by decide, by decide, by decide⟩ hkx (fun v M' hp => ?_)
  obtain ⟨hok, h0, rfl⟩ := hp
  have ho1 := hok.1.at (zU_no hoU) ho
  refine z_i2l C dL_totalBits_8 ?_
  refine z_astJ (i := 0) C dL_totalBits_9 ho1 ⟨by decide, by decide⟩ (by decide) ?_
  refine z_goto (tgt := 17) C dL_totalBits_10 (by decide) ?_
  refine z_iconst C dL_totalBits_17 ?_
  refine z_iret C hQ dL_totalBits_18 rfl (by decide) (by decide) ?_
  exact wJ.r hok hoU h0
set_option maxHeartbeats 4000000 in
set_option maxRecDepth 100000 in
theorem w_meanGuesses {l : Launch} {γ : zG} {M : zM} {U : Nat → Nat} {Y : zSys} {o : Nat} {f0 : Nat → UInt64} {rr dd : Int} (hc : hFc γ M U Y) (hk : yOk Y) (ho : M o = some (zaD γ 1 f0)) (hoU : ∀ i, i < 532 → U i ≠ o) (r_rr : zR rr) (r_dd : zR dd) :
    zConH l γ yL_meanGuesses cL_meanGuesses 5 (some .int) [(0, 9, 12, 29)] [.ref (U 0), .int (zi rr), .int (zi dd), .ref o] M 12 300 4 24 (wD γ M U o Y (q_meanGuesses (yS Y) rr dd) (x_meanGuesses (yS Y) rr dd)) (fun _ _ => False) := by
  refine zEnterH [some (.ref (U 0)), some (.int (zi rr)), some (.int (zi dd)), some (.ref o), none] (by decide +kernel) rfl rfl (Nat.le_of_ble_eq_true rfl) ?_
  intro p e s m args below meth c Q C hin hQ
  obtain ⟨hI, pn, Z, iF, oF, hZ, hF, -, -, -⟩ := id hc
  unfold hFo at hF
  have n2 : (q_meanGuesses (yS Y) rr dd).1 ≠ 2 := by
    simp only [q_meanGuesses, zqR, zqD, zqS]
    (repeat' split) <;> first | exact (by decide : (0 : Int) ≠ 2) | exact (by decide : (1 : Int) ≠ 2)
  have hkx : ∀ E M', fX γ M U Y (q_meanGuesses (yS Y) rr dd) xIOB xIAE E M' → zXW p l e { frames := 12, cells := 4, slots := 24, locals := 300 } s m args below meth c γ 5 Q M' 2 12 5 [some (.ref (U 0)), some (.int (zi rr)), some (.int (zi dd)), some (.ref o), none] E := by
    intro E M' hp
    obtain ⟨hok, ⟨h1, rfl⟩ | ⟨h2, rfl⟩⟩ := hp
    · refine z_caught C [] (0, 9, 12, 29) [] rfl (fun z hz => by cases hz) ⟨by decide, by decide⟩ (by decide) cl_IOB (by decide) (fun qx => ?_)
      refine z_astore C dL_meanGuesses_12 (by decide) ?_
      refine z_iconst C dL_meanGuesses_14 ?_
      refine z_iret C hQ dL_meanGuesses_15 rfl (by decide) (by decide) ?_
      exact wD.x hok ho hoU h1 (by decide)
    · exact absurd h2 n2
  refine z_aload_n C dL_meanGuesses_0 rfl ?_
  refine z_iconst C dL_meanGuesses_1 ?_
  refine z_aload_n C dL_meanGuesses_2 rfl ?_
  refine z_iload_n C dL_meanGuesses_3 rfl ?_
  refine z_iload_n C dL_meanGuesses_4 rfl ?_
  refine z_callV C dL_meanGuesses_5 lk_L_124 mw_X8_meanGuesses mi_X8_meanGuesses ms_X8_meanGuesses rfl hF (k_X8_meanGuesses hc hk r_rr r_dd) rfl (by first | decide | exact Nat.le_of_ble_eq_true rfl) ⟨by decide, by decide, by decide, by decide⟩ hkx (fun v M' hp => ?_)
  obtain ⟨hok, h0, rfl⟩ := hp
  have ho1 := hok.1.at (zU_no hoU) ho
  refine z_astD (i := 0) C dL_meanGuesses_8 ho1 ⟨by decide, by decide⟩ (by decide) ?_
  refine z_goto (tgt := 16) C dL_meanGuesses_9 (by decide) ?_
  refine z_iconst C dL_meanGuesses_16 ?_
  refine z_iret C hQ dL_meanGuesses_17 rfl (by decide) (by decide) ?_
  exact wD.r hok hoU h0
set_option maxHeartbeats 4000000 in
set_option maxRecDepth 100000 in
theorem w_hitShare {l : Launch} {γ : zG} {M : zM} {U : Nat → Nat} {Y : zSys} {o : Nat} {f0 : Nat → UInt64} {rr dd : Int} (hc : hFc γ M U Y) (hk : yOk Y) (ho : M o = some (zaD γ 1 f0)) (hoU : ∀ i, i < 532 → U i ≠ o) (r_rr : zR rr) (r_dd : zR dd) :
    zConH l γ yL_hitShare cL_hitShare 5 (some .int) [(0, 10, 13, 29)] [.ref (U 0), .int (zi rr), .int (zi dd), .ref o] M 12 300 4 24 (wD γ M U o Y (q_hitShare (yS Y) rr dd) (FP.f2d (x_hitShare (yS Y) rr dd))) (fun _ _ => False) := by
  refine zEnterH [some (.ref (U 0)), some (.int (zi rr)), some (.int (zi dd)), some (.ref o), none] (by decide +kernel) rfl rfl (Nat.le_of_ble_eq_true rfl) ?_
  intro p e s m args below meth c Q C hin hQ
  obtain ⟨hI, pn, Z, iF, oF, hZ, hF, -, -, -⟩ := id hc
  unfold hFo at hF
  have n2 : (q_hitShare (yS Y) rr dd).1 ≠ 2 := by
    simp only [q_hitShare, zqR, zqD, zqS]
    (repeat' split) <;> first | exact (by decide : (0 : Int) ≠ 2) | exact (by decide : (1 : Int) ≠ 2)
  have hkx : ∀ E M', fX γ M U Y (q_hitShare (yS Y) rr dd) xIOB xIAE E M' → zXW p l e { frames := 12, cells := 4, slots := 24, locals := 300 } s m args below meth c γ 5 Q M' 2 12 5 [some (.ref (U 0)), some (.int (zi rr)), some (.int (zi dd)), some (.ref o), none] E := by
    intro E M' hp
    obtain ⟨hok, ⟨h1, rfl⟩ | ⟨h2, rfl⟩⟩ := hp
    · refine z_caught C [] (0, 10, 13, 29) [] rfl (fun z hz => by cases hz) ⟨by decide, by decide⟩ (by decide) cl_IOB (by decide) (fun qx => ?_)
      refine z_astore C dL_hitShare_13 (by decide) ?_
      refine z_iconst C dL_hitShare_15 ?_
      refine z_iret C hQ dL_hitShare_16 rfl (by decide) (by decide) ?_
      exact wD.x hok ho hoU h1 (by decide)
    · exact absurd h2 n2
  refine z_aload_n C dL_hitShare_0 rfl ?_
  refine z_iconst C dL_hitShare_1 ?_
  refine z_aload_n C dL_hitShare_2 rfl ?_
  refine z_iload_n C dL_hitShare_3 rfl ?_
  refine z_iload_n C dL_hitShare_4 rfl ?_
  refine z_callV C dL_hitShare_5 lk_L_128 mw_X8_hitShare mi_X8_hitShare ms_X8_hitShare rfl hF (k_X8_hitShare hc hk r_rr r_dd) rfl (by first | decide | exact Nat.le_of_ble_eq_true rfl) ⟨by decide, by decide, by decide, by decide⟩ hkx (fun v M' hp => ?_)
  obtain ⟨hok, h0, rfl⟩ := hp
  have ho1 := hok.1.at (zU_no hoU) ho
  refine z_f2d C dL_hitShare_8 (hit_n hk h0).1 ?_
  refine z_astD (i := 0) C dL_hitShare_9 ho1 ⟨by decide, by decide⟩ (by decide) ?_
  refine z_goto (tgt := 17) C dL_hitShare_10 (by decide) ?_
  refine z_iconst C dL_hitShare_17 ?_
  refine z_iret C hQ dL_hitShare_18 rfl (by decide) (by decide) ?_
  exact wD.r hok hoU h0
set_option maxHeartbeats 4000000 in
set_option maxRecDepth 100000 in
theorem w_bestReader {l : Launch} {γ : zG} {M : zM} {U : Nat → Nat} {Y : zSys} {o : Nat} {f0 : Nat → Int64} {dd : Int} (hc : hFc γ M U Y) (hk : yOk Y) (ho : M o = some (zaJ γ 1 f0)) (hoU : ∀ i, i < 532 → U i ≠ o) (r_dd : zR dd) :
    zConH l γ yL_bestReader cL_bestReader 4 (some .int) [(0, 9, 12, 29)] [.ref (U 0), .int (zi dd), .ref o] M 12 300 4 24 (wJ γ M U o Y (q_bestReader (yS Y) dd) ((zi (q_bestReader (yS Y) dd).2).toInt64)) (fun _ _ => False) := by
  refine zEnterH [some (.ref (U 0)), some (.int (zi dd)), some (.ref o), none] (by decide +kernel) rfl rfl (Nat.le_of_ble_eq_true rfl) ?_
  intro p e s m args below meth c Q C hin hQ
  obtain ⟨hI, pn, Z, iF, oF, hZ, hF, -, -, -⟩ := id hc
  unfold hFo at hF
  have n2 : (q_bestReader (yS Y) dd).1 ≠ 2 := by
    simp only [q_bestReader, zqR, zqD, zqS]
    (repeat' split) <;> first | exact (by decide : (0 : Int) ≠ 2) | exact (by decide : (1 : Int) ≠ 2)
  have hkx : ∀ E M', fX γ M U Y (q_bestReader (yS Y) dd) xIOB xIAE E M' → zXW p l e { frames := 12, cells := 4, slots := 24, locals := 300 } s m args below meth c γ 4 Q M' 1 6 4 [some (.ref (U 0)), some (.int (zi dd)), some (.ref o), none] E := by
    intro E M' hp
    obtain ⟨hok, ⟨h1, rfl⟩ | ⟨h2, rfl⟩⟩ := hp
    · refine z_caught C [] (0, 9, 12, 29) [] rfl (fun z hz => by cases hz) ⟨by decide, by decide⟩ (by decide) cl_IOB (by decide) (fun qx => ?_)
      refine z_astore_n C dL_bestReader_12 (by decide) ?_
      refine z_iconst C dL_bestReader_13 ?_
      refine z_iret C hQ dL_bestReader_14 rfl (by decide) (by decide) ?_
      exact wJ.x hok ho hoU h1 (by decide)
    · exact absurd h2 n2
  refine z_aload_n C dL_bestReader_0 rfl ?_
  refine z_iconst C dL_bestReader_1 ?_
  refine z_aload_n C dL_bestReader_2 rfl ?_
  refine z_iload_n C dL_bestReader_3 rfl ?_
  refine z_callV C dL_bestReader_4 lk_L_132 mw_X8_bestReader mi_X8_bestReader ms_X8_bestReader rfl hF (k_X8_bestReader hc hk r_dd) rfl (by first | decide | exact Nat.le_of_ble_eq_true rfl) ⟨by decide, by decide, by decide, by decide⟩ hkx (fun v M' hp => ?_)
  obtain ⟨hok, h0, rfl⟩ := hp
  have ho1 := hok.1.at (zU_no hoU) ho
  refine z_i2l C dL_bestReader_7 ?_
  refine z_astJ (i := 0) C dL_bestReader_8 ho1 ⟨by decide, by decide⟩ (by decide) ?_
  refine z_goto (tgt := 15) C dL_bestReader_9 (by decide) ?_
  refine z_iconst C dL_bestReader_15 ?_
  refine z_iret C hQ dL_bestReader_16 rfl (by decide) (by decide) ?_
  exact wJ.r hok hoU h0

