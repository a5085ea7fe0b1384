/-! wrappers: appendInput, truncateInput, load, readerNameByte, escapeMethod, documentLength -/
set_option maxHeartbeats 4000000 in
set_option maxRecDepth 100000 in
theorem w_appendInput {l : Launch} {γ : zG} {M : zM} {U : Nat → Nat} {Y : zSys} {o : Nat} {f0 : Nat → Int64} {a0 a1 a2 a3 a4 : Int} (hc : hFc γ M U Y) (hk : yOk Y) (ho : M o = some (zaJ γ 1 f0)) (hoU : ∀ i, i < 532 → U i ≠ o) (r_a0 : zR a0) (r_a1 : zR a1) (r_a2 : zR a2) (r_a3 : zR a3) (r_a4 : zR a4) :
    zConH l γ yL_appendInput cL_appendInput 8 (some .int) [(0, 16, 19, 13)] [.ref (U 0), .int (zi a0), .int (zi a1), .int (zi a2), .int (zi a3), .int (zi a4), .ref o] M 12 300 4 24 (wJ γ M U o (zYs (q_appendInput Y a0 a1 a2 a3 a4) (y_appendInput Y a0 a1 a2 a3 a4) Y) (q_appendInput Y a0 a1 a2 a3 a4) ((zi (q_appendInput Y a0 a1 a2 a3 a4).2).toInt64)) (fun _ _ => False) := by
  refine zEnterH [some (.ref (U 0)), some (.int (zi a0)), some (.int (zi a1)), some (.int (zi a2)), some (.int (zi a3)), some (.int (zi a4)), some (.ref o), none] (by decide +kernel) rfl rfl (Nat.le_of_ble_eq_true rfl) ?_
  intro p e s m args below meth c Q C hin hQ
  obtain ⟨hI, pn, Z, iF, oF, hZ, hF, -, -, -⟩ := id hc
  unfold hFo at hF
  have n2 : (q_appendInput Y a0 a1 a2 a3 a4).1 ≠ 2 := by
    simp only [q_appendInput, zqR, zqD, zqS]
    (repeat' split) <;> first | exact (by decide : (0 : Int) ≠ 2) | exact (by decide : (1 : Int) ≠ 2)
  have hkx : ∀ E M', fX γ M U Y (q_appendInput Y a0 a1 a2 a3 a4) xISE xISE E M' → zXW p l e { frames := 12, cells := 4, slots := 24, locals := 300 } s m args below meth c γ 8 Q M' 1 6 11 [some (.ref (U 0)), some (.int (zi a0)), some (.int (zi a1)), some (.int (zi a2)), some (.int (zi a3)), some (.int (zi a4)), some (.ref o), none] E := by
    intro E M' hp
    obtain ⟨hok, ⟨h1, rfl⟩ | ⟨h2, rfl⟩⟩ := hp
    · refine z_caught C [] (0, 16, 19, 13) [] rfl (fun z hz => by cases hz) ⟨by decide, by decide⟩ (by decide) cl_ISE (by decide) (fun qx => ?_)
      refine z_astore C dL_appendInput_19 (by decide) ?_
      refine z_iconst C dL_appendInput_21 ?_
      refine z_iret C hQ dL_appendInput_22 rfl (by decide) (by decide) ?_
      exact wJ.x (by rw [zYs_f (by rw [h1]; decide)]; exact hok) ho hoU h1 (by decide)
    · exact absurd h2 n2
  refine z_aload C dL_appendInput_0 rfl ?_
  refine z_iconst C dL_appendInput_2 ?_
  refine z_aload_n C dL_appendInput_3 rfl ?_
  refine z_iload_n C dL_appendInput_4 rfl ?_
  refine z_iload_n C dL_appendInput_5 rfl ?_
  refine z_iload_n C dL_appendInput_6 rfl ?_
  refine z_iload C dL_appendInput_7 rfl ?_
  refine z_iload C dL_appendInput_9 rfl ?_
  refine z_callV C dL_appendInput_11 lk_L_7 mw_X8_appendInput mi_X8_appendInput ms_X8_appendInput rfl hF (k_X8_appendInput hc hk) rfl (by first | decide | exact Nat.le_of_ble_eq_true rfl) ⟨by decide, by decide, by decide, by decide⟩ hkx (fun v M' hp => ?_)
  obtain ⟨hok, h0, rfl⟩ := hp
  have ho1 := hok.1.at (zU_no hoU) ho
  refine z_i2l C dL_appendInput_14 ?_
  refine z_astJ (i := 0) C dL_appendInput_15 ho1 ⟨by decide, by decide⟩ (by decide) ?_
  refine z_goto (tgt := 23) C dL_appendInput_16 (by decide) ?_
  refine z_iconst C dL_appendInput_23 ?_
  refine z_iret C hQ dL_appendInput_24 rfl (by decide) (by decide) ?_
  exact wJ.r (by rw [zYs_t h0]; exact hok) hoU h0
set_option maxHeartbeats 4000000 in
set_option maxRecDepth 100000 in
theorem w_truncateInput {l : Launch} {γ : zG} {M : zM} {U : Nat → Nat} {Y : zSys} {o : Nat} {f0 : Nat → Int64} {ll : Int} (hc : hFc γ M U Y) (hk : yOk Y) (ho : M o = some (zaJ γ 1 f0)) (hoU : ∀ i, i < 532 → U i ≠ o) (r_ll : zR ll) :
    zConH l γ yL_truncateInput cL_truncateInput 4 (some .int) [(0, 9, 12, 19)] [.ref (U 0), .int (zi ll), .ref o] M 12 300 4 24 (wJ γ M U o (zYs (q_truncateInput Y ll) (y_truncateInput Y ll) Y) (q_truncateInput Y ll) ((zi (q_truncateInput Y ll).2).toInt64)) (fun _ _ => False) := by
  refine zEnterH [some (.ref (U 0)), some (.int (zi ll)), some (.ref o), none] (by decide +kernel) rfl rfl (Nat.le_of_ble_eq_true rfl) ?_
  intro p e s m args below meth c Q C hin hQ
  obtain ⟨hI, pn, Z, iF, oF, hZ, hF, -, -, -⟩ := id hc
  unfold hFo at hF
  have n2 : (q_truncateInput Y ll).1 ≠ 2 := by
    simp only [q_truncateInput, zqR, zqD, zqS]
    (repeat' split) <;> first | exact (by decide : (0 : Int) ≠ 2) | exact (by decide : (1 : Int) ≠ 2)
  have hkx : ∀ E M', fX γ M U Y (q_truncateInput Y ll) xIAE xIAE E M' → zXW p l e { frames := 12, cells := 4, slots := 24, locals := 300 } s m args below meth c γ 4 Q M' 1 6 4 [some (.ref (U 0)), some (.int (zi ll)), some (.ref o), none] E := by
    intro E M' hp
    obtain ⟨hok, ⟨h1, rfl⟩ | ⟨h2, rfl⟩⟩ := hp
    · refine z_caught C [] (0, 9, 12, 19) [] rfl (fun z hz => by cases hz) ⟨by decide, by decide⟩ (by decide) cl_IAE (by decide) (fun qx => ?_)
      refine z_astore_n C dL_truncateInput_12 (by decide) ?_
      refine z_iconst C dL_truncateInput_13 ?_
      refine z_iret C hQ dL_truncateInput_14 rfl (by decide) (by decide) ?_
      exact wJ.x (by rw [zYs_f (by rw [h1]; decide)]; exact hok) ho hoU h1 (by decide)
    · exact absurd h2 n2
  refine z_aload_n C dL_truncateInput_0 rfl ?_
  refine z_iconst C dL_truncateInput_1 ?_
  refine z_aload_n C dL_truncateInput_2 rfl ?_
  refine z_iload_n C dL_truncateInput_3 rfl ?_
  refine z_callV C dL_truncateInput_4 lk_L_15 mw_X8_truncateInput mi_X8_truncateInput ms_X8_truncateInput rfl hF (k_X8_truncateInput hc hk r_ll) rfl (by first | decide | exact Nat.le_of_ble_eq_true rfl) ⟨by decide, by decide, by decide, by decide⟩ hkx (fun v M' hp => ?_)
  obtain ⟨hok, h0, rfl⟩ := hp
  have ho1 := hok.1.at (zU_no hoU) ho
  refine z_i2l C dL_truncateInput_7 ?_
  refine z_astJ (i := 0) C dL_truncateInput_8 ho1 ⟨by decide, by decide⟩ (by decide) ?_
  refine z_goto (tgt := 15) C dL_truncateInput_9 (by decide) ?_
  refine z_iconst C dL_truncateInput_15 ?_
  refine z_iret C hQ dL_truncateInput_16 rfl (by decide) (by decide) ?_
  exact wJ.r (by rw [zYs_t h0]; exact hok) hoU h0
set_option maxHeartbeats 4000000 in
set_option maxRecDepth 100000 in
theorem w_load {l : Launch} {γ : zG} {M : zM} {U : Nat → Nat} {Y : zSys} {o : Nat} {f0 : Nat → Int64} (hc : hFc γ M U Y) (hk : yOk Y) (ho : M o = some (zaJ γ 1 f0)) (hoU : ∀ i, i < 532 → U i ≠ o) :
    zConH l γ yL_load cL_load 3 (some .int) [(0, 8, 11, 19)] [.ref (U 0), .ref o] M 12 300 4 24 (wJ γ M U o (y_load Y) (q_load Y) ((zi (q_load Y).2).toInt64)) (fun _ _ => False) := by
  refine zEnterH [some (.ref (U 0)), some (.ref o), none] (by decide +kernel) rfl rfl (Nat.le_of_ble_eq_true rfl) ?_
  intro p e s m args below meth c Q C hin hQ
  obtain ⟨hI, pn, Z, iF, oF, hZ, hF, -, -, -⟩ := id hc
  unfold hFo at hF
  have n2 : (q_load Y).1 ≠ 2 := by
    simp only [q_load, zqR, zqD, zqS]
    (repeat' split) <;> first | exact (by decide : (0 : Int) ≠ 2) | exact (by decide : (1 : Int) ≠ 2)
  have hkx : ∀ E M', fX γ M U (y_load Y) (q_load Y) xIAE xIAE E M' → zXW p l e { frames := 12, cells := 4, slots := 24, locals := 300 } s m args below meth c γ 3 Q M' 2 13 3 [some (.ref (U 0)), some (.ref o), none] E := by
    intro E M' hp
    obtain ⟨hok, ⟨h1, rfl⟩ | ⟨h2, rfl⟩⟩ := hp
    · refine z_caught C [] (0, 8, 11, 19) [] rfl (fun z hz => by cases hz) ⟨by decide, by decide⟩ (by decide) cl_IAE (by decide) (fun qx => ?_)
      refine z_astore_n C dL_load_11 (by decide) ?_
      refine z_iconst C dL_load_12 ?_
      refine z_iret C hQ dL_load_13 rfl (by decide) (by decide) ?_
      exact wJ.x hok ho hoU h1 (by decide)
    · exact absurd h2 n2
  refine z_aload_n C dL_load_0 rfl ?_
  refine z_iconst C dL_load_1 ?_
  refine z_aload_n C dL_load_2 rfl ?_
  refine z_callV C dL_load_3 lk_L_21 mw_X8_load mi_X8_load ms_X8_load rfl hF (k_X8_load hc hk) rfl (by first | decide | exact Nat.le_of_ble_eq_true rfl) ⟨by decide, by decide, by decide, by decide⟩ hkx (fun v M' hp => ?_)
  obtain ⟨hok, h0, rfl⟩ := hp
  have ho1 := hok.1.at (zU_no hoU) ho
  refine z_i2l C dL_load_6 ?_
  refine z_astJ (i := 0) C dL_load_7 ho1 ⟨by decide, by decide⟩ (by decide) ?_
  refine z_goto (tgt := 14) C dL_load_8 (by decide) ?_
  refine z_iconst C dL_load_14 ?_
  refine z_iret C hQ dL_load_15 rfl (by decide) (by decide) ?_
  exact wJ.r hok hoU h0
set_option maxHeartbeats 4000000 in
set_option maxRecDepth 100000 in
theorem w_readerNameByte {l : Launch} {γ : zG} {M : zM} {U : Nat → Nat} {Y : zSys} {o : Nat} {f0 : Nat → Int64} {rr ii : Int} (hc : hFc γ M U Y) (hk : yOk Y) (ho : M o = some (zaJ γ 1 f0)) (hoU : ∀ i, i < 532 → U i ≠ o) (r_rr : zR rr) (r_ii : zR ii) :
    zConH l γ yL_readerNameByte cL_readerNameByte 5 (some .int) [(0, 10, 13, 29), (0, 10, 17, 31)] [.ref (U 0), .int (zi rr), .int (zi ii), .ref o] M 12 300 4 24 (wJ γ M U o Y (q_readerNameByte (yS Y) rr ii) ((zi (q_readerNameByte (yS Y) rr ii).2).toInt64)) (fun _ _ => False) := by
  refine zEnterH [some (.ref (U 0)), some (.int (zi rr)), some (.int (zi ii)), some (.ref o), none] (by decide +kernel) rfl rfl (Nat.le_of_ble_eq_true rfl) ?_
  intro p e s m args below meth c Q C hin hQ
  obtain ⟨hI, pn, Z, iF, oF, hZ, hF, -, -, -⟩ := id hc
  unfold hFo at hF
  have hkx : ∀ E M', fX γ M U Y (q_readerNameByte (yS Y) rr ii) xIOB nsN E M' → zXW p l e { frames := 12, cells := 4, slots := 24, locals := 300 } s m args below meth c γ 5 Q M' 2 12 5 [some (.ref (U 0)), some (.int (zi rr)), some (.int (zi ii)), some (.ref o), none] E := by
    intro E M' hp
    obtain ⟨hok, ⟨h1, rfl⟩ | ⟨h2, rfl⟩⟩ := hp
    · refine z_caught C [] (0, 10, 13, 29) [(0, 10, 17, 31)] rfl (fun z hz => by cases hz) ⟨by decide, by decide⟩ (by decide) cl_IOB (by decide) (fun qx => ?_)
      refine z_astore C dL_readerNameByte_13 (by decide) ?_
      refine z_iconst C dL_readerNameByte_15 ?_
      refine z_iret C hQ dL_readerNameByte_16 rfl (by decide) (by decide) ?_
      exact wJ.x hok ho hoU h1 (by decide)
    · refine z_caught C [(0, 10, 13, 29)] (0, 10, 17, 31) [] rfl (fun z hz => by rw [List.mem_singleton.mp hz]; exact ⟨by decide, _, cl_IOB, by decide⟩) ⟨by decide, by decide⟩ (by decide) cl_NSE (by decide) (fun qx => ?_)
      refine z_astore C dL_readerNameByte_17 (by decide) ?_
      refine z_iconst C dL_readerNameByte_19 ?_
      refine z_iret C hQ dL_readerNameByte_20 rfl (by decide) (by decide) ?_
      exact wJ.x hok ho hoU h2 (by decide)
  refine z_aload_n C dL_readerNameByte_0 rfl ?_
  refine z_iconst C dL_readerNameByte_1 ?_
  refine z_aload_n C dL_readerNameByte_2 rfl ?_
  refine z_iload_n C dL_readerNameByte_3 rfl ?_
  refine z_iload_n C dL_readerNameByte_4 rfl ?_
  refine z_callV C dL_readerNameByte_5 lk_L_25 mw_X8_readerNameByte mi_X8_readerNameByte ms_X8_readerNameByte rfl hF (k_X8_readerNameByte hc hk r_rr r_ii) rfl (by first | decide | exact Nat.le_of_ble_eq_true rfl) ⟨by decide, by decide, by decide, by decide⟩ hkx (fun v M' hp => ?_)
  obtain ⟨hok, h0, rfl⟩ := hp
  have ho1 := hok.1.at (zU_no hoU) ho
  refine z_i2l C dL_readerNameByte_8 ?_
  refine z_astJ (i := 0) C dL_readerNameByte_9 ho1 ⟨by decide, by decide⟩ (by decide) ?_
  refine z_goto (tgt := 21) C dL_readerNameByte_10 (by decide) ?_
  refine z_iconst C dL_readerNameByte_21 ?_
  refine z_iret C hQ dL_readerNameByte_22 rfl (by decide) (by decide) ?_
  exact wJ.r hok hoU h0
set_option maxHeartbeats 4000000 in
set_option maxRecDepth 100000 in
theorem w_escapeMethod {l : Launch} {γ : zG} {M : zM} {U : Nat → Nat} {Y : zSys} {o : Nat} {f0 : Nat → Int64} {rr : Int} (hc : hFc γ M U Y) (hk : yOk Y) (ho : M o = some (zaJ γ 1 f0)) (hoU : ∀ i, i < 532 → U i ≠ o) (r_rr : zR rr) :
    zConH l γ yL_escapeMethod cL_escapeMethod 4 (some .int) [(0, 9, 12, 29)] [.ref (U 0), .int (zi rr), .ref o] M 12 300 4 24 (wJ γ M U o Y (q_escapeMethod (yS Y) rr) ((zi (q_escapeMethod (yS Y) rr).2).toInt64)) (fun _ _ => False) := by
  refine zEnterH [some (.ref (U 0)), some (.int (zi rr)), some (.ref o), none] (by decide +kernel) rfl rfl (Nat.le_of_ble_eq_true rfl) ?_
  intro p e s m args below meth c Q C hin hQ
  obtain ⟨hI, pn, Z, iF, oF, hZ, hF, -, -, -⟩ := id hc
  unfold hFo at hF
  have n2 : (q_escapeMethod (yS Y) rr).1 ≠ 2 := by
    simp only [q_escapeMethod, zqR, zqD, zqS]
    (repeat' split) <;> first | exact (by decide : (0 : Int) ≠ 2) | exact (by decide : (1 : Int) ≠ 2)
  have hkx : ∀ E M', fX γ M U Y (q_escapeMethod (yS Y) rr) xIOB xIAE E M' → zXW p l e { frames := 12, cells := 4, slots := 24, locals := 300 } s m args below meth c γ 4 Q M' 1 6 4 [some (.ref (U 0)), some (.int (zi rr)), some (.ref o), none] E := by
    intro E M' hp
    obtain ⟨hok, ⟨h1, rfl⟩ | ⟨h2, rfl⟩⟩ := hp
    · refine z_caught C [] (0, 9, 12, 29) [] rfl (fun z hz => by cases hz) ⟨by decide, by decide⟩ (by decide) cl_IOB (by decide) (fun qx => ?_)
      refine z_astore_n C dL_escapeMethod_12 (by decide) ?_
      refine z_iconst C dL_escapeMethod_13 ?_
      refine z_iret C hQ dL_escapeMethod_14 rfl (by decide) (by decide) ?_
      exact wJ.x hok ho hoU h1 (by decide)
    · exact absurd h2 n2
  refine z_aload_n C dL_escapeMethod_0 rfl ?_
  refine z_iconst C dL_escapeMethod_1 ?_
  refine z_aload_n C dL_escapeMethod_2 rfl ?_
  refine z_iload_n C dL_escapeMethod_3 rfl ?_
  refine z_callV C dL_escapeMethod_4 lk_L_33 mw_X8_escapeMethod mi_X8_escapeMethod ms_X8_escapeMethod rfl hF (k_X8_escapeMethod hc hk r_rr) rfl (by first | decide | exact Nat.le_of_ble_eq_true rfl) ⟨by decide, by decide, by decide, by decide⟩ hkx (fun v M' hp => ?_)
  obtain ⟨hok, h0, rfl⟩ := hp
  have ho1 := hok.1.at (zU_no hoU) ho
  refine z_i2l C dL_escapeMethod_7 ?_
  refine z_astJ (i := 0) C dL_escapeMethod_8 ho1 ⟨by decide, by decide⟩ (by decide) ?_
  refine z_goto (tgt := 15) C dL_escapeMethod_9 (by decide) ?_
  refine z_iconst C dL_escapeMethod_15 ?_
  refine z_iret C hQ dL_escapeMethod_16 rfl (by decide) (by decide) ?_
  exact wJ.r hok hoU h0
set_option maxHeartbeats 4000000 in
set_option maxRecDepth 100000 in
theorem w_documentLength {l : Launch} {γ : zG} {M : zM} {U : Nat → Nat} {Y : zSys} {o : Nat} {f0 : Nat → Int64} {dd : Int} (hc : hFc γ M U Y) (hk : yOk Y) (ho : M o = some (zaJ γ 1 f0)) (hoU : ∀ i, i < 532 → U i ≠ o) (r_dd : zR dd) :
    zConH l γ yL_documentLength cL_documentLength 4 (some .int) [(0, 9, 12, 29)] [.ref (U 0), .int (zi dd), .ref o] M 12 300 4 24 (wJ γ M U o Y (q_documentLength (yS Y) dd) ((zi (q_documentLength (yS Y) dd).2).toInt64)) (fun _ _ => False) := by
  refine zEnterH [some (.ref (U 0)), some (.int (zi dd)), some (.ref o), none] (by decide +kernel) rfl rfl (Nat.le_of_ble_eq_true rfl) ?_
  intro p e s m args below meth c Q C hin hQ
  obtain ⟨hI, pn, Z, iF, oF, hZ, hF, -, -, -⟩ := id hc
  unfold hFo at hF
  have n2 : (q_documentLength (yS Y) dd).1 ≠ 2 := by
    simp only [q_documentLength, zqR, zqD, zqS]
    (repeat' split) <;> first | exact (by decide : (0 : Int) ≠ 2) | exact (by decide : (1 : Int) ≠ 2)
  have hkx : ∀ E M', fX γ M U Y (q_documentLength (yS Y) dd) xIOB xIAE E M' → zXW p l e { frames := 12, cells := 4, slots := 24, locals := 300 } s m args below meth c γ 4 Q M' 1 6 4 [some (.ref (U 0)), some (.int (zi dd)), some (.ref o), none] E := by
    intro E M' hp
    obtain ⟨hok, ⟨h1, rfl⟩ | ⟨h2, rfl⟩⟩ := hp
    · refine z_caught C [] (0, 9, 12, 29) [] rfl (fun z hz => by cases hz) ⟨by decide, by decide⟩ (by decide) cl_IOB (by decide) (fun qx => ?_)
      refine z_astore_n C dL_documentLength_12 (by decide) ?_
      refine z_iconst C dL_documentLength_13 ?_
      refine z_iret C hQ dL_documentLength_14 rfl (by decide) (by decide) ?_
      exact wJ.x hok ho hoU h1 (by decide)
    · exact absurd h2 n2
  refine z_aload_n C dL_documentLength_0 rfl ?_
  refine z_iconst C dL_documentLength_1 ?_
  refine z_aload_n C dL_documentLength_2 rfl ?_
  refine z_iload_n C dL_documentLength_3 rfl ?_
  refine z_callV C dL_documentLength_4 lk_L_36 mw_X8_documentLength mi_X8_documentLength ms_X8_documentLength rfl hF (k_X8_documentLength hc hk r_dd) rfl (by first | decide | exact Nat.le_of_ble_eq_true rfl) ⟨by decide, by decide, by decide, by decide⟩ hkx (fun v M' hp => ?_)
  obtain ⟨hok, h0, rfl⟩ := hp
  have ho1 := hok.1.at (zU_no hoU) ho
  refine z_i2l C dL_documentLength_7 ?_
  refine z_astJ (i := 0) C dL_documentLength_8 ho1 ⟨by decide, by decide⟩ (by decide) ?_
  refine z_goto (tgt := 15) C dL_documentLength_9 (by decide) ?_
  refine z_iconst C dL_documentLength_15 ?_
  refine z_iret C hQ dL_documentLength_16 rfl (by decide) (by decide) ?_
  exact wJ.r hok hoU h0

