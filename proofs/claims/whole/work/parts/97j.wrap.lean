/-! wrappers: encode, decode, writeExpected, outputByte, save, restore -/
set_option maxHeartbeats 4000000 in
set_option maxRecDepth 100000 in
theorem w_encode {l : Launch} {γ : zG} {M : zM} {U : Nat → Nat} {Y : zSys} {o : Nat} {f0 : Nat → Int64} {rr dd : Int} (hc : hFc γ M U Y) (hk : yOk Y) (ho : M o = some (zaJ γ 1 f0)) (hoU : ∀ i, i < 532 → U i ≠ o) (r_rr : zR rr) (r_dd : zR dd) :
    zConH l γ yL_encode cL_encode 5 (some .int) [(0, 10, 13, 29)] [.ref (U 0), .int (zi rr), .int (zi dd), .ref o] M 12 300 4 24 (wJ γ M U o (zYs (q_encode Y rr dd) (y_encode Y rr dd) Y) (q_encode Y rr dd) ((zi (q_encode Y rr dd).2).toInt64)) (fun _ _ => False) := by
  refine zEnterH [some (.ref (U 0)), some (.int (zi rr)), some (.int (zi dd)), some (.ref o), none] (by decide +kernel) rfl rfl (Nat.le_of_ble_eq_true rfl) ?_
  intro p e s m args below meth c Q C hin hQ
  obtain ⟨hI, pn, Z, iF, oF, hZ, hF, -, -, -⟩ := id hc
  unfold hFo at hF
  have n2 : (q_encode Y rr dd).1 ≠ 2 := by
    simp only [q_encode, zqR, zqD, zqS]
    (repeat' split) <;> first | exact (by decide : (0 : Int) ≠ 2) | exact (by decide : (1 : Int) ≠ 2)
  have hkx : ∀ E M', fX γ M U Y (q_encode Y rr dd) xIOB xIOB E M' → zXW p l e { frames := 12, cells := 4, slots := 24, locals := 300 } s m args below meth c γ 5 Q M' 2 12 5 [some (.ref (U 0)), some (.int (zi rr)), some (.int (zi dd)), some (.ref o), none] E := by
    intro E M' hp
    obtain ⟨hok, ⟨h1, rfl⟩ | ⟨h2, rfl⟩⟩ := hp
    · refine z_caught C [] (0, 10, 13, 29) [] rfl (fun z hz => by cases hz) ⟨by decide, by decide⟩ (by decide) cl_IOB (by decide) (fun qx => ?_)
      refine z_astore C dL_encode_13 (by decide) ?_
      refine z_iconst C dL_encode_15 ?_
      refine z_iret C hQ dL_encode_16 rfl (by decide) (by decide) ?_
      exact wJ.x (by rw [zYs_f (by rw [h1]; decide)]; exact hok) ho hoU h1 (by decide)
    · exact absurd h2 n2
  refine z_aload_n C dL_encode_0 rfl ?_
  refine z_iconst C dL_encode_1 ?_
  refine z_aload_n C dL_encode_2 rfl ?_
  refine z_iload_n C dL_encode_3 rfl ?_
  refine z_iload_n C dL_encode_4 rfl ?_
  refine z_callV C dL_encode_5 lk_L_171 mw_X8_encode mi_X8_encode ms_X8_encode rfl hF (k_X8_encode hc hk r_rr r_dd) rfl (by first | decide | exact Nat.le_of_ble_eq_true rfl) ⟨by decide, by decide, by decide, by decide⟩ hkx (fun v M' hp => ?_)
  obtain ⟨hok, h0, rfl⟩ := hp
  have ho1 := hok.1.at (zU_no hoU) ho
  refine z_i2l C dL_encode_8 ?_
  refine z_astJ (i := 0) C dL_encode_9 ho1 ⟨by decide, by decide⟩ (by decide) ?_
  refine z_goto (tgt := 17) C dL_encode_10 (by decide) ?_
  refine z_iconst C dL_encode_17 ?_
  refine z_iret C hQ dL_encode_18 rfl (by decide) (by decide) ?_
  exact wJ.r (by rw [zYs_t h0]; exact hok) hoU h0
set_option maxHeartbeats 4000000 in
set_option maxRecDepth 100000 in
theorem w_decode {l : Launch} {γ : zG} {M : zM} {U : Nat → Nat} {Y : zSys} {o : Nat} {f0 : Nat → Int64} {rr : Int} (hc : hFc γ M U Y) (hk : yOk Y) (ho : M o = some (zaJ γ 1 f0)) (hoU : ∀ i, i < 532 → U i ≠ o) (r_rr : zR rr) :
    zConH l γ yL_decode cL_decode 4 (some .int) [(0, 9, 12, 29), (0, 9, 15, 19)] [.ref (U 0), .int (zi rr), .ref o] M 12 300 4 24 (wJ γ M U o (zYs (q_decode Y rr) (y_decode Y rr) Y) (q_decode Y rr) ((zi (q_decode Y rr).2).toInt64)) (fun _ _ => False) := by
  refine zEnterH [some (.ref (U 0)), some (.int (zi rr)), some (.ref o), none] (by decide +kernel) rfl rfl (Nat.le_of_ble_eq_true rfl) ?_
  intro p e s m args below meth c Q C hin hQ
  obtain ⟨hI, pn, Z, iF, oF, hZ, hF, -, -, -⟩ := id hc
  unfold hFo at hF
  have hkx : ∀ E M', fX γ M U Y (q_decode Y rr) xIOB xIAE E M' → zXW p l e { frames := 12, cells := 4, slots := 24, locals := 300 } s m args below meth c γ 4 Q M' 2 12 4 [some (.ref (U 0)), some (.int (zi rr)), some (.ref o), none] E := by
    intro E M' hp
    obtain ⟨hok, ⟨h1, rfl⟩ | ⟨h2, rfl⟩⟩ := hp
    · refine z_caught C [] (0, 9, 12, 29) [(0, 9, 15, 19)] rfl (fun z hz => by cases hz) ⟨by decide, by decide⟩ (by decide) cl_IOB (by decide) (fun qx => ?_)
      refine z_astore_n C dL_decode_12 (by decide) ?_
      refine z_iconst C dL_decode_13 ?_
      refine z_iret C hQ dL_decode_14 rfl (by decide) (by decide) ?_
      exact wJ.x (by rw [zYs_f (by rw [h1]; decide)]; exact hok) ho hoU h1 (by decide)
    · refine z_caught C [(0, 9, 12, 29)] (0, 9, 15, 19) [] rfl (fun z hz => by rw [List.mem_singleton.mp hz]; exact ⟨by decide, _, cl_IOB, by decide⟩) ⟨by decide, by decide⟩ (by decide) cl_IAE (by decide) (fun qx => ?_)
      refine z_astore_n C dL_decode_15 (by decide) ?_
      refine z_iconst C dL_decode_16 ?_
      refine z_iret C hQ dL_decode_17 rfl (by decide) (by decide) ?_
      exact wJ.x (by rw [zYs_f (by rw [h2]; decide)]; exact hok) ho hoU h2 (by decide)
  refine z_aload_n C dL_decode_0 rfl ?_
  refine z_iconst C dL_decode_1 ?_
  refine z_aload_n C dL_decode_2 rfl ?_
  refine z_iload_n C dL_decode_3 rfl ?_
  refine z_callV C dL_decode_4 lk_L_174 mw_X8_decode mi_X8_decode ms_X8_decode rfl hF (k_X8_decode hc hk r_rr) rfl (by first | decide | exact Nat.le_of_ble_eq_true rfl) ⟨by decide, by decide, by decide, by decide⟩ hkx (fun v M' hp => ?_)
  obtain ⟨hok, h0, rfl⟩ := hp
  have ho1 := hok.1.at (zU_no hoU) ho
  refine z_i2l C dL_decode_7 ?_
  refine z_astJ (i := 0) C dL_decode_8 ho1 ⟨by decide, by decide⟩ (by decide) ?_
  refine z_goto (tgt := 18) C dL_decode_9 (by decide) ?_
  refine z_iconst C dL_decode_18 ?_
  refine z_iret C hQ dL_decode_19 rfl (by decide) (by decide) ?_
  exact wJ.r (by rw [zYs_t h0]; exact hok) hoU h0
set_option maxHeartbeats 4000000 in
set_option maxRecDepth 100000 in
theorem w_writeExpected {l : Launch} {γ : zG} {M : zM} {U : Nat → Nat} {Y : zSys} {o : Nat} {f0 : Nat → Int64} {rr ll : Int} (hc : hFc γ M U Y) (hk : yOk Y) (ho : M o = some (zaJ γ 1 f0)) (hoU : ∀ i, i < 532 → U i ≠ o) (r_rr : zR rr) (r_ll : zR ll) :
    zConH l γ yL_writeExpected cL_writeExpected 5 (some .int) [(0, 10, 13, 29), (0, 10, 17, 19)] [.ref (U 0), .int (zi rr), .int (zi ll), .ref o] M 12 300 4 24 (wJ γ M U o (zYs (q_writeExpected Y rr ll) (y_writeExpected Y rr ll) Y) (q_writeExpected Y rr ll) ((zi (q_writeExpected Y rr ll).2).toInt64)) (fun _ _ => False) := by
  refine zEnterH [some (.ref (U 0)), some (.int (zi rr)), some (.int (zi ll)), some (.ref o), none] (by decide +kernel) rfl rfl (Nat.le_of_ble_eq_true rfl) ?_
  intro p e s m args below meth c Q C hin hQ
  obtain ⟨hI, pn, Z, iF, oF, hZ, hF, -, -, -⟩ := id hc
  unfold hFo at hF
  have hkx : ∀ E M', fX γ M U Y (q_writeExpected Y rr ll) xIOB xIAE E M' → zXW p l e { frames := 12, cells := 4, slots := 24, locals := 300 } s m args below meth c γ 5 Q M' 2 12 5 [some (.ref (U 0)), some (.int (zi rr)), some (.int (zi ll)), some (.ref o), none] E := by
    intro E M' hp
    obtain ⟨hok, ⟨h1, rfl⟩ | ⟨h2, rfl⟩⟩ := hp
    · refine z_caught C [] (0, 10, 13, 29) [(0, 10, 17, 19)] rfl (fun z hz => by cases hz) ⟨by decide, by decide⟩ (by decide) cl_IOB (by decide) (fun qx => ?_)
      refine z_astore C dL_writeExpected_13 (by decide) ?_
      refine z_iconst C dL_writeExpected_15 ?_
      refine z_iret C hQ dL_writeExpected_16 rfl (by decide) (by decide) ?_
      exact wJ.x (by rw [zYs_f (by rw [h1]; decide)]; exact hok) ho hoU h1 (by decide)
    · refine z_caught C [(0, 10, 13, 29)] (0, 10, 17, 19) [] rfl (fun z hz => by rw [List.mem_singleton.mp hz]; exact ⟨by decide, _, cl_IOB, by decide⟩) ⟨by decide, by decide⟩ (by decide) cl_IAE (by decide) (fun qx => ?_)
      refine z_astore C dL_writeExpected_17 (by decide) ?_
      refine z_iconst C dL_writeExpected_19 ?_
      refine z_iret C hQ dL_writeExpected_20 rfl (by decide) (by decide) ?_
      exact wJ.x (by rw [zYs_f (by rw [h2]; decide)]; exact hok) ho hoU h2 (by decide)
  refine z_aload_n C dL_writeExpected_0 rfl ?_
  refine z_iconst C dL_writeExpected_1 ?_
  refine z_aload_n C dL_writeExpected_2 rfl ?_
  refine z_iload_n C dL_writeExpected_3 rfl ?_
  refine z_iload_n C dL_writeExpected_4 rfl ?_
  refine z_callV C dL_writeExpected_5 lk_L_177 mw_X8_writeExpected mi_X8_writeExpected ms_X8_writeExpected rfl hF (k_X8_writeExpected hc hk r_rr r_ll) rfl (by first | decide | exact Nat.le_of_ble_eq_true rfl) ⟨by decide, by decide, by decide, by decide⟩ hkx (fun v M' hp => ?_)
  obtain ⟨hok, h0, rfl⟩ := hp
  have ho1 := hok.1.at (zU_no hoU) ho
  refine z_i2l C dL_writeExpected_8 ?_
  refine z_astJ (i := 0) C dL_writeExpected_9 ho1 ⟨by decide, by decide⟩ (by decide) ?_
  refine z_goto (tgt := 21) C dL_writeExpected_10 (by decide) ?_
  refine z_iconst C dL_writeExpected_21 ?_
  refine z_iret C hQ dL_writeExpected_22 rfl (by decide) (by decide) ?_
  exact wJ.r (by rw [zYs_t h0]; exact hok) hoU h0
set_option maxHeartbeats 4000000 in
set_option maxRecDepth 100000 in
theorem w_outputByte {l : Launch} {γ : zG} {M : zM} {U : Nat → Nat} {Y : zSys} {o : Nat} {f0 : Nat → Int64} {ii : Int} (hc : hFc γ M U Y) (hk : yOk Y) (ho : M o = some (zaJ γ 1 f0)) (hoU : ∀ i, i < 532 → U i ≠ o) (r_ii : zR ii) :
    zConH l γ yL_outputByte cL_outputByte 4 (some .int) [(0, 9, 12, 31)] [.ref (U 0), .int (zi ii), .ref o] M 12 300 4 24 (wJ γ M U o Y (q_outputByte Y ii) ((zi (q_outputByte Y ii).2).toInt64)) (fun _ _ => False) := by
  refine zEnterH [some (.ref (U 0)), some (.int (zi ii)), some (.ref o), none] (by decide +kernel) rfl rfl (Nat.le_of_ble_eq_true rfl) ?_
  intro p e s m args below meth c Q C hin hQ
  obtain ⟨hI, pn, Z, iF, oF, hZ, hF, -, -, -⟩ := id hc
  unfold hFo at hF
  have n2 : (q_outputByte Y ii).1 ≠ 2 := by
    simp only [q_outputByte, zqR, zqD, zqS]
    (repeat' split) <;> first | exact (by decide : (0 : Int) ≠ 2) | exact (by decide : (1 : Int) ≠ 2)
  have hkx : ∀ E M', fX γ M U Y (q_outputByte Y ii) nsN nsN E M' → zXW p l e { frames := 12, cells := 4, slots := 24, locals := 300 } s m args below meth c γ 4 Q M' 1 6 4 [some (.ref (U 0)), some (.int (zi ii)), some (.ref o), none] E := by
    intro E M' hp
    obtain ⟨hok, ⟨h1, rfl⟩ | ⟨h2, rfl⟩⟩ := hp
    · refine z_caught C [] (0, 9, 12, 31) [] rfl (fun z hz => by cases hz) ⟨by decide, by decide⟩ (by decide) cl_NSE (by decide) (fun qx => ?_)
      refine z_astore_n C dL_outputByte_12 (by decide) ?_
      refine z_iconst C dL_outputByte_13 ?_
      refine z_iret C hQ dL_outputByte_14 rfl (by decide) (by decide) ?_
      exact wJ.x hok ho hoU h1 (by decide)
    · exact absurd h2 n2
  refine z_aload_n C dL_outputByte_0 rfl ?_
  refine z_iconst C dL_outputByte_1 ?_
  refine z_aload_n C dL_outputByte_2 rfl ?_
  refine z_iload_n C dL_outputByte_3 rfl ?_
  refine z_callV C dL_outputByte_4 lk_L_180 mw_X8_outputByte mi_X8_outputByte ms_X8_outputByte rfl hF (k_X8_outputByte hc hk r_ii) rfl (by first | decide | exact Nat.le_of_ble_eq_true rfl) ⟨by decide, by decide, by decide, by decide⟩ hkx (fun v M' hp => ?_)
  obtain ⟨hok, h0, rfl⟩ := hp
  have ho1 := hok.1.at (zU_no hoU) ho
  refine z_i2l C dL_outputByte_7 ?_
  refine z_astJ (i := 0) C dL_outputByte_8 ho1 ⟨by decide, by decide⟩ (by decide) ?_
  refine z_goto (tgt := 15) C dL_outputByte_9 (by decide) ?_
  refine z_iconst C dL_outputByte_15 ?_
  refine z_iret C hQ dL_outputByte_16 rfl (by decide) (by decide) ?_
  exact wJ.r hok hoU h0
set_option maxHeartbeats 4000000 in
set_option maxRecDepth 100000 in
theorem w_save {l : Launch} {γ : zG} {M : zM} {U : Nat → Nat} {Y : zSys} {o : Nat} {f0 : Nat → Int64} {ss : Int} (hc : hFc γ M U Y) (hk : yOk Y) (ho : M o = some (zaJ γ 1 f0)) (hoU : ∀ i, i < 532 → U i ≠ o) (r_ss : zR ss) :
    zConH l γ yL_save cL_save 4 (some .int) [(0, 9, 12, 29)] [.ref (U 0), .int (zi ss), .ref o] M 12 300 4 24 (wJ γ M U o (zYs (q_save Y ss) (y_save Y ss) Y) (q_save Y ss) ((zi (q_save Y ss).2).toInt64)) (fun _ _ => False) := by
  refine zEnterH [some (.ref (U 0)), some (.int (zi ss)), some (.ref o), none] (by decide +kernel) rfl rfl (Nat.le_of_ble_eq_true rfl) ?_
  intro p e s m args below meth c Q C hin hQ
  obtain ⟨hI, pn, Z, iF, oF, hZ, hF, -, -, -⟩ := id hc
  unfold hFo at hF
  have n2 : (q_save Y ss).1 ≠ 2 := by
    simp only [q_save, zqR, zqD, zqS]
    (repeat' split) <;> first | exact (by decide : (0 : Int) ≠ 2) | exact (by decide : (1 : Int) ≠ 2)
  have hkx : ∀ E M', fX γ M U Y (q_save Y ss) xIOB xIAE E M' → zXW p l e { frames := 12, cells := 4, slots := 24, locals := 300 } s m args below meth c γ 4 Q M' 1 6 4 [some (.ref (U 0)), some (.int (zi ss)), some (.ref o), none] E := by
    intro E M' hp
    obtain ⟨hok, ⟨h1, rfl⟩ | ⟨h2, rfl⟩⟩ := hp
    · refine z_caught C [] (0, 9, 12, 29) [] rfl (fun z hz => by cases hz) ⟨by decide, by decide⟩ (by decide) cl_IOB (by decide) (fun qx => ?_)
      refine z_astore_n C dL_save_12 (by decide) ?_
      refine z_iconst C dL_save_13 ?_
      refine z_iret C hQ dL_save_14 rfl (by decide) (by decide) ?_
      exact wJ.x (by rw [zYs_f (by rw [h1]; decide)]; exact hok) ho hoU h1 (by decide)
    · exact absurd h2 n2
  refine z_aload_n C dL_save_0 rfl ?_
  refine z_iconst C dL_save_1 ?_
  refine z_aload_n C dL_save_2 rfl ?_
  refine z_iload_n C dL_save_3 rfl ?_
  refine z_callV C dL_save_4 lk_L_183 mw_X8_save mi_X8_save ms_X8_save rfl hF (k_X8_save hc hk r_ss) rfl (by first | decide | exact Nat.le_of_ble_eq_true rfl) ⟨by decide, by decide, by decide, by decide⟩ hkx (fun v M' hp => ?_)
  obtain ⟨hok, h0, rfl⟩ := hp
  have ho1 := hok.1.at (zU_no hoU) ho
  refine z_i2l C dL_save_7 ?_
  refine z_astJ (i := 0) C dL_save_8 ho1 ⟨by decide, by decide⟩ (by decide) ?_
  refine z_goto (tgt := 15) C dL_save_9 (by decide) ?_
  refine z_iconst C dL_save_15 ?_
  refine z_iret C hQ dL_save_16 rfl (by decide) (by decide) ?_
  exact wJ.r (by rw [zYs_t h0]; exact hok) hoU h0
set_option maxHeartbeats 4000000 in
set_option maxRecDepth 100000 in
theorem w_restore {l : Launch} {γ : zG} {M : zM} {U : Nat → Nat} {Y : zSys} {o : Nat} {f0 : Nat → Int64} {ss : Int} (hc : hFc γ M U Y) (hk : yOk Y) (ho : M o = some (zaJ γ 1 f0)) (hoU : ∀ i, i < 532 → U i ≠ o) (r_ss : zR ss) :
    zConH l γ yL_restore cL_restore 4 (some .int) [(0, 9, 12, 29), (0, 9, 15, 13)] [.ref (U 0), .int (zi ss), .ref o] M 12 300 4 24 (wJ γ M U o (zYs (q_restore Y ss) (y_restore Y ss) Y) (q_restore Y ss) ((zi (q_restore Y ss).2).toInt64)) (fun _ _ => False) := by
  refine zEnterH [some (.ref (U 0)), some (.int (zi ss)), some (.ref o), none] (by decide +kernel) rfl rfl (Nat.le_of_ble_eq_true rfl) ?_
  intro p e s m args below meth c Q C hin hQ
  obtain ⟨hI, pn, Z, iF, oF, hZ, hF, -, -, -⟩ := id hc
  unfold hFo at hF
  have hkx : ∀ E M', fX γ M U Y (q_restore Y ss) xIOB xISE E M' → zXW p l e { frames := 12, cells := 4, slots := 24, locals := 300 } s m args below meth c γ 4 Q M' 2 12 4 [some (.ref (U 0)), some (.int (zi ss)), some (.ref o), none] E := by
    intro E M' hp
    obtain ⟨hok, ⟨h1, rfl⟩ | ⟨h2, rfl⟩⟩ := hp
    · refine z_caught C [] (0, 9, 12, 29) [(0, 9, 15, 13)] rfl (fun z hz => by cases hz) ⟨by decide, by decide⟩ (by decide) cl_IOB (by decide) (fun qx => ?_)
      refine z_astore_n C dL_restore_12 (by decide) ?_
      refine z_iconst C dL_restore_13 ?_
      refine z_iret C hQ dL_restore_14 rfl (by decide) (by decide) ?_
      exact wJ.x (by rw [zYs_f (by rw [h1]; decide)]; exact hok) ho hoU h1 (by decide)
    · refine z_caught C [(0, 9, 12, 29)] (0, 9, 15, 13) [] rfl (fun z hz => by rw [List.mem_singleton.mp hz]; exact ⟨by decide, _, cl_IOB, by decide⟩) ⟨by decide, by decide⟩ (by decide) cl_ISE (by decide) (fun qx => ?_)
      refine z_astore_n C dL_restore_15 (by decide) ?_
      refine z_iconst C dL_restore_16 ?_
      refine z_iret C hQ dL_restore_17 rfl (by decide) (by decide) ?_
      exact wJ.x (by rw [zYs_f (by rw [h2]; decide)]; exact hok) ho hoU h2 (by decide)
  refine z_aload_n C dL_restore_0 rfl ?_
  refine z_iconst C dL_restore_1 ?_
  refine z_aload_n C dL_restore_2 rfl ?_
  refine z_iload_n C dL_restore_3 rfl ?_
  refine z_callV C dL_restore_4 lk_L_186 mw_X8_restore mi_X8_restore ms_X8_restore rfl hF (k_X8_restore hc hk r_ss) rfl (by first | decide | exact Nat.le_of_ble_eq_true rfl) ⟨by decide, by decide, by decide, by decide⟩ hkx (fun v M' hp => ?_)
  obtain ⟨hok, h0, rfl⟩ := hp
  have ho1 := hok.1.at (zU_no hoU) ho
  refine z_i2l C dL_restore_7 ?_
  refine z_astJ (i := 0) C dL_restore_8 ho1 ⟨by decide, by decide⟩ (by decide) ?_
  refine z_goto (tgt := 18) C dL_restore_9 (by decide) ?_
  refine z_iconst C dL_restore_18 ?_
  refine z_iret C hQ dL_restore_19 rfl (by decide) (by decide) ?_
  exact wJ.r (by rw [zYs_t h0]; exact hok) hoU h0

