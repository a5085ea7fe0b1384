/-! the law's load -/
set_option maxHeartbeats 4000000 in
set_option maxRecDepth 100000 in
theorem k_L_loaded {l : Launch} {γ : zG} {M : zM} {U : Nat → Nat} {Y : zSys} (hc : hFc γ M U Y) (hk : yOk Y) (hq : (q_load Y).1 = 0) :
    zConH l γ yL_loaded cL_loaded 2 (some .int) [(0, 4, 5, 31)] [.ref (U 0)] M 9 210 2 13 (fI' γ M U (y_load Y) (q_load Y)) (fun _ _ => False) := by
  obtain ⟨fs0, hM0⟩ := hc.ok0
  refine zEnterH [some (.ref (U 0)), none] (by decide +kernel) rfl rfl (Nat.le_of_ble_eq_true rfl) ?_
  intro p e s m args below meth c Q C hin hQ
  refine z_aload_n C dL_loaded_0 rfl ?_
  refine z_callV C dL_loaded_1 lk_L_28 mw_X8_load mi_X8_load ms_X8_load rfl hM0 (k_X8_load hc hk) rfl (by first | decide | exact Nat.le_of_ble_eq_true rfl) ⟨by decide, by decide, by decide, by decide⟩ (fun X M' h => (h.no hq).elim) (fun v M' hp => ?_)
  obtain ⟨h1, h2, rfl⟩ := hp
  refine z_iret C hQ dL_loaded_4 rfl (by decide) (by decide) ?_
  exact ⟨h1, h2, rfl⟩

