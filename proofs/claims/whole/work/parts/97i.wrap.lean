/-! wrappers: addDocument, train, learn, forget, setEscapeMethod, merge -/
set_option maxHeartbeats 4000000 in
set_option maxRecDepth 100000 in
theorem w_addDocument {l : Launch} {γ : zG} {M : zM} {U : Nat → Nat} {Y : zSys} {o : Nat} {f0 : Nat → Int64} (hc : hFc γ M U Y) (hk : yOk Y) (ho : M o = some (zaJ γ 1 f0)) (hoU : ∀ i, i < 532 → U i ≠ o) :
    zConH l γ yL_addDocument cL_addDocument 3 (some .int) [(0, 8, 11, 19), (0, 8, 14, 13)] [.ref (U 0), .ref o] M 12 300 4 24 (wJ γ M U o (zYs (q_addDocument Y) (y_addDocument Y) Y) (q_addDocument Y) ((zi (q_addDocument Y).2).toInt64)) (fun _ _ => False) := by
  refine zEnterH [some (.ref (U 0)), some (.ref o), none] (by decide +kernel) rfl rfl (Nat.le_of_ble_eq_true rfl) ?_
  intro p e s m args below meth c Q C hin hQ
  obtain ⟨hI, pn, Z, iF, oF, hZ, hF, -, -, -⟩ := id hc
  unfold hFo at hF
  have hkx : ∀ E M', fX γ M U Y (q_addDocument Y) xIAE xISE E M' → zXW p l e { frames := 12, cells := 4, slots := 24, locals := 300 } s m args below meth c γ 3 Q M' 1 6 3 [some (.ref (U 0)), some (.ref o), none] E := by
    intro E M' hp
    obtain ⟨hok, ⟨h1, rfl⟩ | ⟨h2, rfl⟩⟩ := hp
    · refine z_caught C [] (0, 8, 11, 19) [(0, 8, 14, 13)] rfl (fun z hz => by cases hz) ⟨by decide, by decide⟩ (by decide) cl_IAE (by decide) (fun qx => ?_)
      refine z_astore_n C dL_addDocument_11 (by decide) ?_
      refine z_iconst C dL_addDocument_12 ?_
      refine z_iret C hQ dL_addDocument_13 rfl (by decide) (by decide) ?_
      exact wJ.x (by rw [zYs_f (by rw [h1]; decide)]; exact hok) ho hoU h1 (by decide)
    · refine z_caught C [(0, 8, 11, 19)] (0, 8, 14, 13) [] rfl (fun z hz => by rw [List.mem_singleton.mp hz]; exact ⟨by decide, _, cl_IAE, by decide⟩) ⟨by decide, by decide⟩ (by decide) cl_ISE (by decide) (fun qx => ?_)
      refine z_astore_n C dL_addDocument_14 (by decide) ?_
      refine z_iconst C dL_addDocument_15 ?_
      refine z_iret C hQ dL_addDocument_16 rfl (by decide) (by decide) ?_
      exact wJ.x (by rw [zYs_f (by rw [h2]; decide)]; exact hok) ho hoU h2 (by decide)
  refine z_aload_n C dL_addDocument_0 rfl ?_
  refine z_iconst C dL_addDocument_1 ?_
  refine z_aload_n C dL_addDocument_2 rfl ?_
  refine z_callV C dL_addDocument_3 lk_L_153 mw_X8_addDocument mi_X8_addDocument ms_X8_addDocument rfl hF (k_X8_addDocument hc hk) rfl (by first | decide | exact Nat.le_of_ble_eq_true rfl) ⟨by decide, by decide, by decide, by decide⟩ hkx (fun v M' hp => ?_)
  obtain ⟨hok, h0, rfl⟩ := hp
  have ho1 := hok.1.at (zU_no hoU) ho
  refine z_i2l C dL_addDocument_6 ?_
  refine z_astJ (i := 0) C dL_addDocument_7 ho1 ⟨by decide, by decide⟩ (by decide) ?_
  refine z_goto (tgt := 17) C dL_addDocument_8 (by decide) ?_
  refine z_iconst C dL_addDocument_17 ?_
  refine z_iret C hQ dL_addDocument_18 rfl (by decide) (by decide) ?_
  exact wJ.r (by rw [zYs_t h0]; exact hok) hoU h0
set_option maxHeartbeats 4000000 in
set_option maxRecDepth 100000 in
theorem w_train {l : Launch} {γ : zG} {M : zM} {U : Nat → Nat} {Y : zSys} {o : Nat} {f0 : Nat → Int64} {rr dd : Int} (hc : hFc γ M U Y) (hk : yOk Y) (ho : M o = some (zaJ γ 1 f0)) (hoU : ∀ i, i < 532 → U i ≠ o) (r_rr : zR rr) (r_dd : zR dd) :
    zConH l γ yL_train cL_train 5 (some .int) [(0, 10, 13, 29)] [.ref (U 0), .int (zi rr), .int (zi dd), .ref o] M 12 300 4 24 (wJ γ M U o (zYs (q_train Y rr dd) (y_train Y rr dd) Y) (q_train Y rr dd) ((zi (q_train Y rr dd).2).toInt64)) (fun _ _ => False) := by
  refine zEnterH [some (.ref (U 0)), some (.int (zi rr)), some (.int (zi dd)), some (.ref o), none] (by decide +kernel) rfl rfl (Nat.le_of_ble_eq_true rfl) ?_
  intro p e s m args below meth c Q C hin hQ
  obtain ⟨hI, pn, Z, iF, oF, hZ, hF, -, -, -⟩ := id hc
  unfold hFo at hF
  have n2 : (q_train Y rr dd).1 ≠ 2 := by
    simp only [q_train, zqR, zqD, zqS]
    (repeat' split) <;> first | exact (by decide : (0 : Int) ≠ 2) | exact (by decide : (1 : Int) ≠ 2)
  have hkx : ∀ E M', fX γ M U Y (q_train Y rr dd) xIOB xIAE E M' → zXW p l e { frames := 12, cells := 4, slots := 24, locals := 300 } s m args below meth c γ 5 Q M' 2 12 5 [some (.ref (U 0)), some (.int (zi rr)), some (.int (zi dd)), some (.ref o), none] E := by
    intro E M' hp
    obtain ⟨hok, ⟨h1, rfl⟩ | ⟨h2, rfl⟩⟩ := hp
    · refine z_caught C [] (0, 10, 13, 29) [] rfl (fun z hz => by cases hz) ⟨by decide, by decide⟩ (by decide) cl_IOB (by decide) (fun qx => ?_)
      refine z_astore C dL_train_13 (by decide) ?_
      refine z_iconst C dL_train_15 ?_
      refine z_iret C hQ dL_train_16 rfl (by decide) (by decide) ?_
      exact wJ.x (by rw [zYs_f (by rw [h1]; decide)]; exact hok) ho hoU h1 (by decide)
    · exact absurd h2 n2
  refine z_aload_n C dL_train_0 rfl ?_
  refine z_iconst C dL_train_1 ?_
  refine z_aload_n C dL_train_2 rfl ?_
  refine z_iload_n C dL_train_3 rfl ?_
  refine z_iload_n C dL_train_4 rfl ?_
  refine z_callV C dL_train_5 lk_L_156 mw_X8_train mi_X8_train ms_X8_train rfl hF (k_X8_train hc hk r_rr r_dd) rfl (by first | decide | exact Nat.le_of_ble_eq_true rfl) ⟨by decide, by decide, by decide, by decide⟩ hkx (fun v M' hp => ?_)
  obtain ⟨hok, h0, rfl⟩ := hp
  have ho1 := hok.1.at (zU_no hoU) ho
  refine z_i2l C dL_train_8 ?_
  refine z_astJ (i := 0) C dL_train_9 ho1 ⟨by decide, by decide⟩ (by decide) ?_
  refine z_goto (tgt := 17) C dL_train_10 (by decide) ?_
  refine z_iconst C dL_train_17 ?_
  refine z_iret C hQ dL_train_18 rfl (by decide) (by decide) ?_
  exact wJ.r (by rw [zYs_t h0]; exact hok) hoU h0
set_option maxHeartbeats 4000000 in
set_option maxRecDepth 100000 in
theorem w_learn {l : Launch} {γ : zG} {M : zM} {U : Nat → Nat} {Y : zSys} {o : Nat} {f0 : Nat → Int64} {rr dd : Int} (hc : hFc γ M U Y) (hk : yOk Y) (ho : M o = some (zaJ γ 1 f0)) (hoU : ∀ i, i < 532 → U i ≠ o) (r_rr : zR rr) (r_dd : zR dd) :
    zConH l γ yL_learn cL_learn 5 (some .int) [(0, 10, 13, 29)] [.ref (U 0), .int (zi rr), .int (zi dd), .ref o] M 12 300 4 24 (wJ γ M U o (zYs (q_learn Y rr dd) (y_learn Y rr dd) Y) (q_learn Y rr dd) ((zi (q_learn Y rr dd).2).toInt64)) (fun _ _ => False) := by
  refine zEnterH [some (.ref (U 0)), some (.int (zi rr)), some (.int (zi dd)), some (.ref o), none] (by decide +kernel) rfl rfl (Nat.le_of_ble_eq_true rfl) ?_
  intro p e s m args below meth c Q C hin hQ
  obtain ⟨hI, pn, Z, iF, oF, hZ, hF, -, -, -⟩ := id hc
  unfold hFo at hF
  have n2 : (q_learn Y rr dd).1 ≠ 2 := by
    simp only [q_learn, zqR, zqD, zqS]
    (repeat' split) <;> first | exact (by decide : (0 : Int) ≠ 2) | exact (by decide : (1 : Int) ≠ 2)
  have hkx : ∀ E M', fX γ M U Y (q_learn Y rr dd) xIOB xIAE E M' → zXW p l e { frames := 12, cells := 4, slots := 24, locals := 300 } s m args below meth c γ 5 Q M' 2 12 5 [some (.ref (U 0)), some (.int (zi rr)), some (.int (zi dd)), some (.ref o), none] E := by
    intro E M' hp
    obtain ⟨hok, ⟨h1, rfl⟩ | ⟨h2, rfl⟩⟩ := hp
    · refine z_caught C [] (0, 10, 13, 29) [] rfl (fun z hz => by cases hz) ⟨by decide, by decide⟩ (by decide) cl_IOB (by decide) (fun qx => ?_)
      refine z_astore C dL_learn_13 (by decide) ?_
      refine z_iconst C dL_learn_15 ?_
      refine z_iret C hQ dL_learn_16 rfl (by decide) (by decide) ?_
      exact wJ.x (by rw [zYs_f (by rw [h1]; decide)]; exact hok) ho hoU h1 (by decide)
    · exact absurd h2 n2
  refine z_aload_n C dL_learn_0 rfl ?_
  refine z_iconst C dL_learn_1 ?_
  refine z_aload_n C dL_learn_2 rfl ?_
  refine z_iload_n C dL_learn_3 rfl ?_
  refine z_iload_n C dL_learn_4 rfl ?_
  refine z_callV C dL_learn_5 lk_L_159 mw_X8_learn mi_X8_learn ms_X8_learn rfl hF (k_X8_learn hc hk r_rr r_dd) rfl (by first | decide | exact Nat.le_of_ble_eq_true rfl) ⟨by decide, by decide, by decide, by decide⟩ hkx (fun v M' hp => ?_)
  obtain ⟨hok, h0, rfl⟩ := hp
  have ho1 := hok.1.at (zU_no hoU) ho
  refine z_i2l C dL_learn_8 ?_
  refine z_astJ (i := 0) C dL_learn_9 ho1 ⟨by decide, by decide⟩ (by decide) ?_
  refine z_goto (tgt := 17) C dL_learn_10 (by decide) ?_
  refine z_iconst C dL_learn_17 ?_
  refine z_iret C hQ dL_learn_18 rfl (by decide) (by decide) ?_
  exact wJ.r (by rw [zYs_t h0]; exact hok) hoU h0
set_option maxHeartbeats 4000000 in
set_option maxRecDepth 100000 in
theorem w_forget {l : Launch} {γ : zG} {M : zM} {U : Nat → Nat} {Y : zSys} {o : Nat} {f0 : Nat → Int64} {rr : Int} (hc : hFc γ M U Y) (hk : yOk Y) (ho : M o = some (zaJ γ 1 f0)) (hoU : ∀ i, i < 532 → U i ≠ o) (r_rr : zR rr) :
    zConH l γ yL_forget cL_forget 4 (some .int) [(0, 9, 12, 29)] [.ref (U 0), .int (zi rr), .ref o] M 12 300 4 24 (wJ γ M U o (zYs (q_forget Y rr) (y_forget Y rr) Y) (q_forget Y rr) ((zi (q_forget Y rr).2).toInt64)) (fun _ _ => False) := by
  refine zEnterH [some (.ref (U 0)), some (.int (zi rr)), some (.ref o), none] (by decide +kernel) rfl rfl (Nat.le_of_ble_eq_true rfl) ?_
  intro p e s m args below meth c Q C hin hQ
  obtain ⟨hI, pn, Z, iF, oF, hZ, hF, -, -, -⟩ := id hc
  unfold hFo at hF
  have n2 : (q_forget Y rr).1 ≠ 2 := by
    simp only [q_forget, zqR, zqD, zqS]
    (repeat' split) <;> first | exact (by decide : (0 : Int) ≠ 2) | exact (by decide : (1 : Int) ≠ 2)
  have hkx : ∀ E M', fX γ M U Y (q_forget Y rr) xIOB xIAE E M' → zXW p l e { frames := 12, cells := 4, slots := 24, locals := 300 } s m args below meth c γ 4 Q M' 1 6 4 [some (.ref (U 0)), some (.int (zi rr)), some (.ref o), none] E := by
    intro E M' hp
    obtain ⟨hok, ⟨h1, rfl⟩ | ⟨h2, rfl⟩⟩ := hp
    · refine z_caught C [] (0, 9, 12, 29) [] rfl (fun z hz => by cases hz) ⟨by decide, by decide⟩ (by decide) cl_IOB (by decide) (fun qx => ?_)
      refine z_astore_n C dL_forget_12 (by decide) ?_
      refine z_iconst C dL_forget_13 ?_
      refine z_iret C hQ dL_forget_14 rfl (by decide) (by decide) ?_
      exact wJ.x (by rw [zYs_f (by rw [h1]; decide)]; exact hok) ho hoU h1 (by decide)
    · exact absurd h2 n2
  refine z_aload_n C dL_forget_0 rfl ?_
  refine z_iconst C dL_forget_1 ?_
  refine z_aload_n C dL_forget_2 rfl ?_
  refine z_iload_n C dL_forget_3 rfl ?_
  refine z_callV C dL_forget_4 lk_L_162 mw_X8_forget mi_X8_forget ms_X8_forget rfl hF (k_X8_forget hc hk r_rr) rfl (by first | decide | exact Nat.le_of_ble_eq_true rfl) ⟨by decide, by decide, by decide, by decide⟩ hkx (fun v M' hp => ?_)
  obtain ⟨hok, h0, rfl⟩ := hp
  have ho1 := hok.1.at (zU_no hoU) ho
  refine z_i2l C dL_forget_7 ?_
  refine z_astJ (i := 0) C dL_forget_8 ho1 ⟨by decide, by decide⟩ (by decide) ?_
  refine z_goto (tgt := 15) C dL_forget_9 (by decide) ?_
  refine z_iconst C dL_forget_15 ?_
  refine z_iret C hQ dL_forget_16 rfl (by decide) (by decide) ?_
  exact wJ.r (by rw [zYs_t h0]; exact hok) hoU h0
set_option maxHeartbeats 4000000 in
set_option maxRecDepth 100000 in
theorem w_setEscapeMethod {l : Launch} {γ : zG} {M : zM} {U : Nat → Nat} {Y : zSys} {o : Nat} {f0 : Nat → Int64} {rr mm : Int} (hc : hFc γ M U Y) (hk : yOk Y) (ho : M o = some (zaJ γ 1 f0)) (hoU : ∀ i, i < 532 → U i ≠ o) (r_rr : zR rr) (r_mm : zR mm) :
    zConH l γ yL_setEscapeMethod cL_setEscapeMethod 5 (some .int) [(0, 10, 13, 29), (0, 10, 17, 19)] [.ref (U 0), .int (zi rr), .int (zi mm), .ref o] M 12 300 4 24 (wJ γ M U o (zYs (q_setEscapeMethod Y rr mm) (y_setEscapeMethod Y rr mm) Y) (q_setEscapeMethod Y rr mm) ((zi (q_setEscapeMethod Y rr mm).2).toInt64)) (fun _ _ => False) := by
  refine zEnterH [some (.ref (U 0)), some (.int (zi rr)), some (.int (zi mm)), some (.ref o), none] (by decide +kernel) rfl rfl (Nat.le_of_ble_eq_true rfl) ?_
  intro p e s m args below meth c Q C hin hQ
  obtain ⟨hI, pn, Z, iF, oF, hZ, hF, -, -, -⟩ := id hc
  unfold hFo at hF
  have hkx : ∀ E M', fX γ M U Y (q_setEscapeMethod Y rr mm) xIOB xIAE E M' → zXW p l e { frames := 12, cells := 4, slots := 24, locals := 300 } s m args below meth c γ 5 Q M' 2 12 5 [some (.ref (U 0)), some (.int (zi rr)), some (.int (zi mm)), some (.ref o), none] E := by
    intro E M' hp
    obtain ⟨hok, ⟨h1, rfl⟩ | ⟨h2, rfl⟩⟩ := hp
    · refine z_caught C [] (0, 10, 13, 29) [(0, 10, 17, 19)] rfl (fun z hz => by cases hz) ⟨by decide, by decide⟩ (by decide) cl_IOB (by decide) (fun qx => ?_)
      refine z_astore C dL_setEscapeMethod_13 (by decide) ?_
      refine z_iconst C dL_setEscapeMethod_15 ?_
      refine z_iret C hQ dL_setEscapeMethod_16 rfl (by decide) (by decide) ?_
      exact wJ.x (by rw [zYs_f (by rw [h1]; decide)]; exact hok) ho hoU h1 (by decide)
    · refine z_caught C [(0, 10, 13, 29)] (0, 10, 17, 19) [] rfl (fun z hz => by rw [List.mem_singleton.mp hz]; exact ⟨by decide, _, cl_IOB, by decide⟩) ⟨by decide, by decide⟩ (by decide) cl_IAE (by decide) (fun qx => ?_)
      refine z_astore C dL_setEscapeMethod_17 (by decide) ?_
      refine z_iconst C dL_setEscapeMethod_19 ?_
      refine z_iret C hQ dL_setEscapeMethod_20 rfl (by decide) (by decide) ?_
      exact wJ.x (by rw [zYs_f (by rw [h2]; decide)]; exact hok) ho hoU h2 (by decide)
  refine z_aload_n C dL_setEscapeMethod_0 rfl ?_
  refine z_iconst C dL_setEscapeMethod_1 ?_
  refine z_aload_n C dL_setEscapeMethod_2 rfl ?_
  refine z_iload_n C dL_setEscapeMethod_3 rfl ?_
  refine z_iload_n C dL_setEscapeMethod_4 rfl ?_
  refine z_callV C dL_setEscapeMethod_5 lk_L_165 mw_X8_setEscapeMethod mi_X8_setEscapeMethod ms_X8_setEscapeMethod rfl hF (k_X8_setEscapeMethod hc hk r_rr r_mm) rfl (by first | decide | exact Nat.le_of_ble_eq_true rfl) ⟨by decide, by decide, by decide, by decide⟩ hkx (fun v M' hp => ?_)
  obtain ⟨hok, h0, rfl⟩ := hp
  have ho1 := hok.1.at (zU_no hoU) ho
  refine z_i2l C dL_setEscapeMethod_8 ?_
  refine z_astJ (i := 0) C dL_setEscapeMethod_9 ho1 ⟨by decide, by decide⟩ (by decide) ?_
  refine z_goto (tgt := 21) C dL_setEscapeMethod_10 (by decide) ?_
  refine z_iconst C dL_setEscapeMethod_21 ?_
  refine z_iret C hQ dL_setEscapeMethod_22 rfl (by decide) (by decide) ?_
  exact wJ.r (by rw [zYs_t h0]; exact hok) hoU h0
set_option maxHeartbeats 4000000 in
set_option maxRecDepth 100000 in
theorem w_merge {l : Launch} {γ : zG} {M : zM} {U : Nat → Nat} {Y : zSys} {o : Nat} {f0 : Nat → Int64} {rr oo : Int} (hc : hFc γ M U Y) (hk : yOk Y) (ho : M o = some (zaJ γ 1 f0)) (hoU : ∀ i, i < 532 → U i ≠ o) (r_rr : zR rr) (r_oo : zR oo) :
    zConH l γ yL_merge cL_merge 5 (some .int) [(0, 10, 13, 29), (0, 10, 17, 19)] [.ref (U 0), .int (zi rr), .int (zi oo), .ref o] M 12 300 4 24 (wJ γ M U o (zYs (q_merge Y rr oo) (y_merge Y rr oo) Y) (q_merge Y rr oo) ((zi (q_merge Y rr oo).2).toInt64)) (fun _ _ => False) := by
  refine zEnterH [some (.ref (U 0)), some (.int (zi rr)), some (.int (zi oo)), some (.ref o), none] (by decide +kernel) rfl rfl (Nat.le_of_ble_eq_true rfl) ?_
  intro p e s m args below meth c Q C hin hQ
  obtain ⟨hI, pn, Z, iF, oF, hZ, hF, -, -, -⟩ := id hc
  unfold hFo at hF
  have hkx : ∀ E M', fX γ M U Y (q_merge Y rr oo) xIOB xIAE E M' → zXW p l e { frames := 12, cells := 4, slots := 24, locals := 300 } s m args below meth c γ 5 Q M' 3 18 5 [some (.ref (U 0)), some (.int (zi rr)), some (.int (zi oo)), some (.ref o), none] E := by
    intro E M' hp
    obtain ⟨hok, ⟨h1, rfl⟩ | ⟨h2, rfl⟩⟩ := hp
    · refine z_caught C [] (0, 10, 13, 29) [(0, 10, 17, 19)] rfl (fun z hz => by cases hz) ⟨by decide, by decide⟩ (by decide) cl_IOB (by decide) (fun qx => ?_)
      refine z_astore C dL_merge_13 (by decide) ?_
      refine z_iconst C dL_merge_15 ?_
      refine z_iret C hQ dL_merge_16 rfl (by decide) (by decide) ?_
      exact wJ.x (by rw [zYs_f (by rw [h1]; decide)]; exact hok) ho hoU h1 (by decide)
    · refine z_caught C [(0, 10, 13, 29)] (0, 10, 17, 19) [] rfl (fun z hz => by rw [List.mem_singleton.mp hz]; exact ⟨by decide, _, cl_IOB, by decide⟩) ⟨by decide, by decide⟩ (by decide) cl_IAE (by decide) (fun qx => ?_)
      refine z_astore C dL_merge_17 (by decide) ?_
      refine z_iconst C dL_merge_19 ?_
      refine z_iret C hQ dL_merge_20 rfl (by decide) (by decide) ?_
      exact wJ.x (by rw [zYs_f (by rw [h2]; decide)]; exact hok) ho hoU h2 (by decide)
  refine z_aload_n C dL_merge_0 rfl ?_
  refine z_iconst C dL_merge_1 ?_
  refine z_aload_n C dL_merge_2 rfl ?_
  refine z_iload_n C dL_merge_3 rfl ?_
  refine z_iload_n C dL_merge_4 rfl ?_
  refine z_callV C dL_merge_5 lk_L_168 mw_X8_merge mi_X8_merge ms_X8_merge rfl hF (k_X8_merge hc hk r_rr r_oo) rfl (by first | decide | exact Nat.le_of_ble_eq_true rfl) ⟨by decide, by decide, by decide, by decide⟩ hkx (fun v M' hp => ?_)
  obtain ⟨hok, h0, rfl⟩ := hp
  have ho1 := hok.1.at (zU_no hoU) ho
  refine z_i2l C dL_merge_8 ?_
  refine z_astJ (i := 0) C dL_merge_9 ho1 ⟨by decide, by decide⟩ (by decide) ?_
  refine z_goto (tgt := 21) C dL_merge_10 (by decide) ?_
  refine z_iconst C dL_merge_21 ?_
  refine z_iret C hQ dL_merge_22 rfl (by decide) (by decide) ?_
  exact wJ.r (by rw [zYs_t h0]; exact hok) hoU h0

