/-! wrappers: undo -/
set_option maxHeartbeats 4000000 in
set_option maxRecDepth 100000 in
theorem w_undo {l : Launch} {γ : zG} {M : zM} {U : Nat → Nat} {Y : zSys} {o : Nat} {f0 : Nat → Int64} (hc : hFc γ M U Y) (hk : yOk Y) (ho : M o = some (zaJ γ 1 f0)) (hoU : ∀ i, i < 532 → U i ≠ o) :
    zConH l γ yL_undo cL_undo 3 (some .int) [(0, 8, 11, 13)] [.ref (U 0), .ref o] M 12 300 4 24 (wJ γ M U o (zYs (q_undo Y) (y_undo Y) Y) (q_undo Y) ((zi (q_undo Y).2).toInt64)) (fun _ _ => False) := by
  refine zEnterH [some (.ref (U 0)), some (.ref o), none] (by decide +kernel) rfl rfl (Nat.le_of_ble_eq_true rfl) ?_
  intro p e s m args below meth c Q C hin hQ
  obtain ⟨hI, pn, Z, iF, oF, hZ, hF, -, -, -⟩ := id hc
  unfold hFo at hF
  have n2 : (q_undo Y).1 ≠ 2 := by
    simp only [q_undo, zqR, zqD, zqS]
    (repeat' split) <;> first | exact (by decide : (0 : Int) ≠ 2) | exact (by decide : (1 : Int) ≠ 2)
  have hkx : ∀ E M', fX γ M U Y (q_undo Y) xISE xISE E M' → zXW p l e { frames := 12, cells := 4, slots := 24, locals := 300 } s m args below meth c γ 3 Q M' 1 6 3 [some (.ref (U 0)), some (.ref o), none] E := by
    intro E M' hp
    obtain ⟨hok, ⟨h1, rfl⟩ | ⟨h2, rfl⟩⟩ := hp
    · refine z_caught C [] (0, 8, 11, 13) [] rfl (fun z hz => by cases hz) ⟨by decide, by decide⟩ (by decide) cl_ISE (by decide) (fun qx => ?_)
      refine z_astore_n C dL_undo_11 (by decide) ?_
      refine z_iconst C dL_undo_12 ?_
      refine z_iret C hQ dL_undo_13 rfl (by decide) (by decide) ?_
      exact wJ.x (by rw [zYs_f (by rw [h1]; decide)]; exact hok) ho hoU h1 (by decide)
    · exact absurd h2 n2
  refine z_aload_n C dL_undo_0 rfl ?_
  refine z_iconst C dL_undo_1 ?_
  refine z_aload_n C dL_undo_2 rfl ?_
  refine z_callV C dL_undo_3 lk_L_189 mw_X8_undo mi_X8_undo ms_X8_undo rfl hF (k_X8_undo hc hk) rfl (by first | decide | exact Nat.le_of_ble_eq_true rfl) ⟨by decide, by decide, by decide, by decide⟩ hkx (fun v M' hp => ?_)
  obtain ⟨hok, h0, rfl⟩ := hp
  have ho1 := hok.1.at (zU_no hoU) ho
  refine z_i2l C dL_undo_6 ?_
  refine z_astJ (i := 0) C dL_undo_7 ho1 ⟨by decide, by decide⟩ (by decide) ?_
  refine z_goto (tgt := 14) C dL_undo_8 (by decide) ?_
  refine z_iconst C dL_undo_14 ?_
  refine z_iret C hQ dL_undo_15 rfl (by decide) (by decide) ?_
  exact wJ.r (by rw [zYs_t h0]; exact hok) hoU h0

