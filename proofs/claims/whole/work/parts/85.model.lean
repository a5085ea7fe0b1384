/-! the model's parser: a document's statement, a training -/
theorem mnv_le {f : Nat → Int} {n : Int} : ∀ (t : Nat) (i v : Int), (0 ≤ v ∧ v ≤ 999999999) → (∀ j : Int, i ≤ j → j < i + t → 48 ≤ hAt f n j ∧ hAt f n j ≤ 57) → 0 ≤ mnv f n t i v ∧ mnv f n t i v ≤ 999999999
  | 0, _, v, hv, _ => hv
  | t + 1, i, v, hv, hd => by
    unfold mnv
    have d0 := hd i (by omega) (by omega)
    exact mnv_le t (i + 1) _ (by split <;> omega) (fun j a1 a2 => hd j (by omega) (by omega))
theorem ztK_dg {f : Nat → Int} {n e : Int} (hk : ztK f n e = 2) (hle : ztS f n e ≤ ztE f n e) (j : Int) (h1 : ztS f n e ≤ j) (h2 : j < ztS f n e + ((ztE f n e - ztS f n e).toNat : Nat)) : 48 ≤ hAt f n j ∧ hAt f n j ≤ 57 := by
  have := ztK_all (.inr hk) h1 (by omega)
  rw [hk] at this
  exact zkd_2 this
theorem mTk.r {F f : Nat → Int} {n e : Int} (hB : hBo f n) (he : 0 ≤ e ∧ e ≤ n) (h : mTk F f n e) : (0 ≤ F 24 ∧ F 24 ≤ 500) ∧ (0 ≤ F 23 ∧ F 23 ≤ 999999999) := by
  obtain ⟨h1, h2, h3, h4, h5⟩ := h
  have a := ztS_rng (f := f) he
  have b := ztE_rng hB he
  have c := hB.1
  refine ⟨?_, ?_⟩
  · rw [h4]
    split <;> omega
  · rw [h5]
    split
    · rename_i q
      exact mnv_le _ _ _ (by omega) (ztK_dg q b.1)
    · omega
set_option maxHeartbeats 4000000 in
set_option maxRecDepth 100000 in
theorem k_X9_readDocument {l : Launch} {γ : zG} {M : zM} {A : Nat → Nat} {F f g : Nat → Int} {n e0 : Int} {S0 : zSt} (hA : mIA A) (hP : mPs γ M A F f n e0) (h25 : F 25 = 0) (h26 : F 26 = -1) (hM : M (A 2) = some (zar γ 5987 g)) (hS : mSt g S0) (hO : zOk S0) :
    zCon l γ yX9_readDocument cX9_readDocument 3 none [.ref (A 0)] M 6 128 0 0 (fun v' M' => v' = none ∧ mSP γ A M M' F f n (zpD f n S0 e0)) (fun _ _ => False) := by
  have o1 := hO.1
  have hg := hS.1
  have hB := hP.2.2.2.1
  have r0 := hP.2.2.2.2.1
  have bb := hB.1
  have g2 : g (1 : Int).toNat = sDn S0 := hS.2.2.1
  generalize hq : zpD f n S0 e0 = q
  unfold zpD at hq
  have E0 := ztS_rng (f := f) r0
  have E1 := ztE_rng hB r0
  generalize he1 : ztE f n e0 = e1 at *
  have S1 := ztS_rng (f := f) (e := e1) (n := n) (by omega)
  have E2 := ztE_rng (e := e1) hB (by omega)
  generalize he2 : ztE f n e1 = e2 at *
  have rn1 : ∀ M1, mF A M M1 [0] → M1 (A 2) = some (zar γ 5987 g) := fun M1 h => h.at hA (.of rfl) hM
  refine zEnter [some (.ref (A 0)), none, none] (by decide +kernel) rfl rfl (Nat.le_of_ble_eq_true rfl) ?_
  intro p e s m args below meth c Q C hin hQ
  have e83 : ∀ (M1 : zM) (F1 : Nat → Int) (x1 x2 : Option Value), mES γ A M M1 F F1 f n q → zAW p l e { frames := 6, cells := 0, slots := 0, locals := 128 } s m args below meth c γ 3 Q M1 0 0 83 [some (.ref (A 0)), x1, x2] [] := by
    intro M1 F1 x1 x2 h
    have n0 := h.n0
    have rc := h.c
    obtain ⟨z1, z2, z3, z4, z5, y1, z6⟩ := id h
    have hO1 := z6.1
    refine z_aload_n C dX9_readDocument_83 rfl ?_
    refine z_getM C dX9_readDocument_84 fl_X9_199 (by first | assumption | ((repeat (first | assumption | exact va_up_self _ _ _ | refine (va_up_ne _ _ (by first | assumption | exact hA.ne (by decide) | exact hA.ne (by omega))).trans ?_)); done)) rfl rfl ?_
    refine z_if_neZ (tgt := 108) C dX9_readDocument_87 (by decide) (by omega) (fun h87 => ?_) (fun h87 => ?_)
    · refine z_vret C hQ dX9_readDocument_108 (by decide) (by decide) ?_
      exact ⟨rfl, h.sp hA hM hg⟩
    · exact absurd h87 n0
  have e65 : ∀ (M1 : zM) (F1 : Nat → Int) (x1 x2 : Option Value), mES γ A M M1 F F1 f n q → zAW p l e { frames := 6, cells := 0, slots := 0, locals := 128 } s m args below meth c γ 3 Q M1 0 0 65 [some (.ref (A 0)), x1, x2] [] := by
    intro M1 F1 x1 x2 h
    obtain ⟨z1, z2, z3, z4, z5, y1, z6⟩ := id h
    have hO1 := z6.1
    refine z_aload_n C dX9_readDocument_65 rfl ?_
    refine z_getM C dX9_readDocument_66 fl_X9_212 (by first | assumption | ((repeat (first | assumption | exact va_up_self _ _ _ | refine (va_up_ne _ _ (by first | assumption | exact hA.ne (by decide) | exact hA.ne (by omega))).trans ?_)); done)) rfl rfl ?_
    refine z_istore_n C dX9_readDocument_69 (by decide) ?_
    refine z_aload_n C dX9_readDocument_70 rfl ?_
    refine z_getM C dX9_readDocument_71 fl_X9_215 (by first | assumption | ((repeat (first | assumption | exact va_up_self _ _ _ | refine (va_up_ne _ _ (by first | assumption | exact hA.ne (by decide) | exact hA.ne (by omega))).trans ?_)); done)) rfl rfl ?_
    refine z_istore_n C dX9_readDocument_74 (by decide) ?_
    refine z_aload_n C dX9_readDocument_75 rfl ?_
    refine z_callV C dX9_readDocument_76 lk_X9_234 mw_X9_next mi_X9_next ms_X9_next rfl (by first | assumption | ((repeat (first | assumption | exact va_up_self _ _ _ | refine (va_up_ne _ _ (by first | assumption | exact hA.ne (by decide) | exact hA.ne (by omega))).trans ?_)); done)) (k_X9_next hA z6 h.c) rfl (by first | decide | exact Nat.le_of_ble_eq_true rfl) ⟨by decide, by decide, by decide, by decide⟩ (fun _ _ h => False.elim h) (fun v M' hp => ?_)
    obtain ⟨rfl, f176, F2, p176, c176⟩ := hp
    have h2 := h.nx f176 p176 c176
    obtain ⟨a1, a2, a3, a4, a5, y2, a6⟩ := id h2
    have hO2 := a6.1
    refine z_aload_n C dX9_readDocument_79 rfl ?_
    refine z_callV C dX9_readDocument_80 lk_X9_253 mw_X9_finish mi_X9_finish ms_X9_finish rfl (by first | assumption | ((repeat (first | assumption | exact va_up_self _ _ _ | refine (va_up_ne _ _ (by first | assumption | exact hA.ne (by decide) | exact hA.ne (by omega))).trans ?_)); done)) (k_X9_finish hA a6 h2.c) rfl (by first | decide | exact Nat.le_of_ble_eq_true rfl) ⟨by decide, by decide, by decide, by decide⟩ (fun _ _ h => False.elim h) (fun v M' hp => ?_)
    obtain ⟨rfl, f180, F3, p180, c180⟩ := hp
    exact e83 _ F3 _ _ (h2.fn f180 p180 c180)
  have e45 : ∀ (M1 : zM) (F1 : Nat → Int) (x1 x2 : Option Value), mES γ A M M1 F F1 f n q → zAW p l e { frames := 6, cells := 0, slots := 0, locals := 128 } s m args below meth c γ 3 Q M1 0 0 45 [some (.ref (A 0)), x1, x2] [] := by
    intro M1 F1 x1 x2 h
    obtain ⟨z1, z2, z3, z4, z5, y1, z6⟩ := id h
    have hO1 := z6.1
    have tr := z6.2.2.2.2.2.r hB z6.2.2.2.2.1
    refine z_aload_n C dX9_readDocument_45 rfl ?_
    refine z_aload_n C dX9_readDocument_46 rfl ?_
    refine z_getM C dX9_readDocument_47 fl_X9_215 (by first | assumption | ((repeat (first | assumption | exact va_up_self _ _ _ | refine (va_up_ne _ _ (by first | assumption | exact hA.ne (by decide) | exact hA.ne (by omega))).trans ?_)); done)) rfl rfl ?_
    refine z_bipush C dX9_readDocument_50 (by decide) ?_
    refine z_icmp_gtZ (tgt := 59) C dX9_readDocument_52 (by decide) (by omega) (by omega) (fun h52 => ?_) (fun h52 => ?_)
    · refine z_iconst C dX9_readDocument_59 ?_
      refine z_iconst C dX9_readDocument_60 ?_
      refine z_callV C dX9_readDocument_61 lk_X9_231 mw_X9_check mi_X9_check ms_X9_check rfl (by first | assumption | ((repeat (first | assumption | exact va_up_self _ _ _ | refine (va_up_ne _ _ (by first | assumption | exact hA.ne (by decide) | exact hA.ne (by omega))).trans ?_)); done)) (k_X9_check hA hO1 (r := 0) (what := 2) (by omega) (by omega) h.c) rfl (by first | decide | exact Nat.le_of_ble_eq_true rfl) ⟨by decide, by decide, by decide, by decide⟩ (fun _ _ h => False.elim h) (fun v M' hp => ?_)
      obtain ⟨b40, rfl, f40, a40⟩ := hp
      refine z_pop C dX9_readDocument_64 rfl ?_
      exact e65 _ F1 _ _ (h.ck hA f40 a40)
    · refine z_iconst C dX9_readDocument_55 ?_
      refine z_goto (tgt := 60) C dX9_readDocument_56 (by decide) ?_
      refine z_iconst C dX9_readDocument_60 ?_
      refine z_callV C dX9_readDocument_61 lk_X9_231 mw_X9_check mi_X9_check ms_X9_check rfl (by first | assumption | ((repeat (first | assumption | exact va_up_self _ _ _ | refine (va_up_ne _ _ (by first | assumption | exact hA.ne (by decide) | exact hA.ne (by omega))).trans ?_)); done)) (k_X9_check hA hO1 (r := 1) (what := 2) (by omega) (by omega) h.c) rfl (by first | decide | exact Nat.le_of_ble_eq_true rfl) ⟨by decide, by decide, by decide, by decide⟩ (fun _ _ h => False.elim h) (fun v M' hp => ?_)
      obtain ⟨b40, rfl, f40, a40⟩ := hp
      refine z_pop C dX9_readDocument_64 rfl ?_
      exact e65 _ F1 _ _ (h.ck hA f40 a40)
  have e22 : ∀ (M1 : zM) (F1 : Nat → Int) (x1 x2 : Option Value), mES γ A M M1 F F1 f n q → zAW p l e { frames := 6, cells := 0, slots := 0, locals := 128 } s m args below meth c γ 3 Q M1 0 0 22 [some (.ref (A 0)), x1, x2] [] := by
    intro M1 F1 x1 x2 h
    obtain ⟨z1, z2, z3, z4, z5, y1, z6⟩ := id h
    have hO1 := z6.1
    refine z_aload_n C dX9_readDocument_22 rfl ?_
    refine z_callV C dX9_readDocument_23 lk_X9_234 mw_X9_next mi_X9_next ms_X9_next rfl (by first | assumption | ((repeat (first | assumption | exact va_up_self _ _ _ | refine (va_up_ne _ _ (by first | assumption | exact hA.ne (by decide) | exact hA.ne (by omega))).trans ?_)); done)) (k_X9_next hA z6 h.c) rfl (by first | decide | exact Nat.le_of_ble_eq_true rfl) ⟨by decide, by decide, by decide, by decide⟩ (fun _ _ h => False.elim h) (fun v M' hp => ?_)
    obtain ⟨rfl, f22, F2, p22, c22⟩ := hp
    have h2 := h.nx f22 p22 c22
    obtain ⟨a1, a2, a3, a4, a5, y2, a6⟩ := id h2
    have hO2 := a6.1
    have t22 := a6.2.2.2.2.2.2.2.1
    have rk := mtk_3 (ztK_rng f n y2)
    refine z_aload_n C dX9_readDocument_26 rfl ?_
    refine z_aload_n C dX9_readDocument_27 rfl ?_
    refine z_getM C dX9_readDocument_28 fl_X9_221 (by first | assumption | ((repeat (first | assumption | exact va_up_self _ _ _ | refine (va_up_ne _ _ (by first | assumption | exact hA.ne (by decide) | exact hA.ne (by omega))).trans ?_)); done)) rfl t22 ?_
    refine z_iconst C dX9_readDocument_31 ?_
    refine z_icmp_neZ (tgt := 39) C dX9_readDocument_32 (by decide) (by omega) (by omega) (fun h32 => ?_) (fun h32 => ?_)
    · refine z_iconst C dX9_readDocument_39 ?_
      refine z_iconst C dX9_readDocument_40 ?_
      refine z_callV C dX9_readDocument_41 lk_X9_231 mw_X9_check mi_X9_check ms_X9_check rfl (by first | assumption | ((repeat (first | assumption | exact va_up_self _ _ _ | refine (va_up_ne _ _ (by first | assumption | exact hA.ne (by decide) | exact hA.ne (by omega))).trans ?_)); done)) (k_X9_check hA hO2 (r := 0) (what := 1) (by omega) (by omega) h2.c) rfl (by first | decide | exact Nat.le_of_ble_eq_true rfl) ⟨by decide, by decide, by decide, by decide⟩ (fun _ _ h => False.elim h) (fun v M' hp => ?_)
      obtain ⟨b40, rfl, f40, a40⟩ := hp
      refine z_pop C dX9_readDocument_44 rfl ?_
      exact e45 _ F2 _ _ (h2.ck hA f40 a40)
    · refine z_iconst C dX9_readDocument_35 ?_
      refine z_goto (tgt := 40) C dX9_readDocument_36 (by decide) ?_
      refine z_iconst C dX9_readDocument_40 ?_
      refine z_callV C dX9_readDocument_41 lk_X9_231 mw_X9_check mi_X9_check ms_X9_check rfl (by first | assumption | ((repeat (first | assumption | exact va_up_self _ _ _ | refine (va_up_ne _ _ (by first | assumption | exact hA.ne (by decide) | exact hA.ne (by omega))).trans ?_)); done)) (k_X9_check hA hO2 (r := 1) (what := 1) (by omega) (by omega) h2.c) rfl (by first | decide | exact Nat.le_of_ble_eq_true rfl) ⟨by decide, by decide, by decide, by decide⟩ (fun _ _ h => False.elim h) (fun v M' hp => ?_)
      obtain ⟨b40, rfl, f40, a40⟩ := hp
      refine z_pop C dX9_readDocument_44 rfl ?_
      exact e45 _ F2 _ _ (h2.ck hA f40 a40)
  have g83 : ∀ (M1 : zM) (F1 : Nat → Int), sDn S0 < 8 → (1 ≤ e2 - ztS f n e1 ∧ e2 - ztS f n e1 ≤ 40) → (0, -1, sAddD S0 (dNew f n (ztS f n e1) e2 (sYr S0)), ztE f n e2) = q → mGS γ A M M1 F F1 f n (ztE f n e2) → zAW p l e { frames := 6, cells := 0, slots := 0, locals := 128 } s m args below meth c γ 3 Q M1 0 0 83 [some (.ref (A 0)), some (.int (zi (ztS f n e1))), some (.int (zi (e2 - ztS f n e1)))] [] := by
    intro M1 F1 hn8 hl hq h
    obtain ⟨z1, z2, z3, z4, z6⟩ := id h
    have hO1 := z6.1
    have hM1 := rn1 M1 z1
    refine z_aload_n C dX9_readDocument_83 rfl ?_
    refine z_getM C dX9_readDocument_84 fl_X9_199 (by first | assumption | ((repeat (first | assumption | exact va_up_self _ _ _ | refine (va_up_ne _ _ (by first | assumption | exact hA.ne (by decide) | exact hA.ne (by omega))).trans ?_)); done)) rfl z3 ?_
    refine z_if_neZ (tgt := 108) C dX9_readDocument_87 (by decide) (by omega) (fun h87 => ?_) (fun h87 => ?_)
    · exact absurd rfl h87
    · refine z_aload_n C dX9_readDocument_90 rfl ?_
      refine z_aload_n C dX9_readDocument_91 rfl ?_
      refine z_get C dX9_readDocument_92 fl_X9_13 (by first | assumption | ((repeat (first | assumption | exact va_up_self _ _ _ | refine (va_up_ne _ _ (by first | assumption | exact hA.ne (by decide) | exact hA.ne (by omega))).trans ?_)); done)) rfl ?_
      refine z_iload_n C dX9_readDocument_95 rfl ?_
      refine z_iload_n C dX9_readDocument_96 rfl ?_
      refine z_callV C dX9_readDocument_97 lk_X9_259 mw_X9_layDocument mi_X9_layDocument ms_X9_layDocument rfl (by first | assumption | ((repeat (first | assumption | exact va_up_self _ _ _ | refine (va_up_ne _ _ (by first | assumption | exact hA.ne (by decide) | exact hA.ne (by omega))).trans ?_)); done)) (k_X9_layDocument hA z6.1 z6.2.1 hB (kq := 2) (.inr (.inl rfl)) hM1 hS hO hn8 (b := ztS f n e1) (m0 := e2 - ztS f n e1) (by omega) hl) rfl (by first | decide | exact Nat.le_of_ble_eq_true rfl) ⟨by decide, by decide, by decide, by decide⟩ (fun _ _ h => False.elim h) (fun v M' hp => ?_)
      obtain ⟨rfl, f97, g', a97, s97⟩ := hp
      rw [show ztS f n e1 + (e2 - ztS f n e1) = e2 by omega] at s97
      refine z_if_geZ (tgt := 108) C dX9_readDocument_100 (by decide) (by omega) (fun h100 => ?_) (fun h100 => ?_)
      · refine z_vret C hQ dX9_readDocument_108 (by decide) (by decide) ?_
        exact ⟨rfl, h.sp hA f97 a97 (by rw [← hq]) (by rw [← hq]) (by rw [← hq]; exact s97)⟩
      · exact absurd h100 (by omega)
  have g65 : ∀ (M1 : zM) (F1 : Nat → Int) (x1 x2 : Option Value), sDn S0 < 8 → ztK f n e1 = 1 → e2 - ztS f n e1 ≤ 40 → zpD3 f n S0 e0 e1 e2 = q → mGS γ A M M1 F F1 f n e1 → zAW p l e { frames := 6, cells := 0, slots := 0, locals := 128 } s m args below meth c γ 3 Q M1 0 0 65 [some (.ref (A 0)), x1, x2] [] := by
    intro M1 F1 x1 x2 hn8 hk1 hl hq h
    obtain ⟨z1, z2, z3, z4, z6⟩ := id h
    have hO1 := z6.1
    obtain ⟨y20, y21, y22, y24, y23⟩ := z6.2.2.2.2.2
    rw [if_pos hk1, he2] at y24
    have nx := E2.2.2 (by omega)
    unfold zpD3 at hq
    refine z_aload_n C dX9_readDocument_65 rfl ?_
    refine z_getM C dX9_readDocument_66 fl_X9_212 (by first | assumption | ((repeat (first | assumption | exact va_up_self _ _ _ | refine (va_up_ne _ _ (by first | assumption | exact hA.ne (by decide) | exact hA.ne (by omega))).trans ?_)); done)) rfl y21 ?_
    refine z_istore_n C dX9_readDocument_69 (by decide) ?_
    refine z_aload_n C dX9_readDocument_70 rfl ?_
    refine z_getM C dX9_readDocument_71 fl_X9_215 (by first | assumption | ((repeat (first | assumption | exact va_up_self _ _ _ | refine (va_up_ne _ _ (by first | assumption | exact hA.ne (by decide) | exact hA.ne (by omega))).trans ?_)); done)) rfl y24 ?_
    refine z_istore_n C dX9_readDocument_74 (by decide) ?_
    refine z_aload_n C dX9_readDocument_75 rfl ?_
    refine z_callV C dX9_readDocument_76 lk_X9_234 mw_X9_next mi_X9_next ms_X9_next rfl (by first | assumption | ((repeat (first | assumption | exact va_up_self _ _ _ | refine (va_up_ne _ _ (by first | assumption | exact hA.ne (by decide) | exact hA.ne (by omega))).trans ?_)); done)) (k_X9_next hA z6 h.c) rfl (by first | decide | exact Nat.le_of_ble_eq_true rfl) ⟨by decide, by decide, by decide, by decide⟩ (fun _ _ h => False.elim h) (fun v M' hp => ?_)
    obtain ⟨rfl, f176, F2, p176, c176⟩ := hp
    have h2 := h.nx f176 p176 c176
    rw [he2] at h2
    obtain ⟨a1, a2, a3, a4, a6⟩ := id h2
    have hO2 := a6.1
    refine z_aload_n C dX9_readDocument_79 rfl ?_
    refine z_callV C dX9_readDocument_80 lk_X9_253 mw_X9_finish mi_X9_finish ms_X9_finish rfl (by first | assumption | ((repeat (first | assumption | exact va_up_self _ _ _ | refine (va_up_ne _ _ (by first | assumption | exact hA.ne (by decide) | exact hA.ne (by omega))).trans ?_)); done)) (k_X9_finish hA a6 h2.c) rfl (by first | decide | exact Nat.le_of_ble_eq_true rfl) ⟨by decide, by decide, by decide, by decide⟩ (fun _ _ h => False.elim h) (fun v M' hp => ?_)
    obtain ⟨rfl, f180, F3, p180, c180⟩ := hp
    rcases h2.fn (q := q) (S := S0) (e := e0) f180 p180 c180 (fun w => by rw [if_neg w] at hq; exact hq.symm) with ⟨c1, c2⟩ | ⟨c1, c2⟩
    · rw [if_pos c1] at hq
      exact g83 _ F3 hn8 (by omega) hq c2
    · exact e83 _ F3 _ _ c2
  have g45 : ∀ (M1 : zM) (F1 : Nat → Int) (x1 x2 : Option Value), sDn S0 < 8 → ztK f n e1 = 1 → (if 40 < e2 - ztS f n e1 then (2, ztS f n e1, S0, e0) else zpD3 f n S0 e0 e1 e2) = q → mGS γ A M M1 F F1 f n e1 → zAW p l e { frames := 6, cells := 0, slots := 0, locals := 128 } s m args below meth c γ 3 Q M1 0 0 45 [some (.ref (A 0)), x1, x2] [] := by
    intro M1 F1 x1 x2 hn8 hk1 hq h
    obtain ⟨z1, z2, z3, z4, z6⟩ := id h
    have hO1 := z6.1
    have y24 := z6.2.2.2.2.2.2.2.2.1
    rw [if_pos hk1, he2] at y24
    refine z_aload_n C dX9_readDocument_45 rfl ?_
    refine z_aload_n C dX9_readDocument_46 rfl ?_
    refine z_getM C dX9_readDocument_47 fl_X9_215 (by first | assumption | ((repeat (first | assumption | exact va_up_self _ _ _ | refine (va_up_ne _ _ (by first | assumption | exact hA.ne (by decide) | exact hA.ne (by omega))).trans ?_)); done)) rfl y24 ?_
    refine z_bipush C dX9_readDocument_50 (by decide) ?_
    refine z_icmp_gtZ (tgt := 59) C dX9_readDocument_52 (by decide) (by omega) (by omega) (fun h52 => ?_) (fun h52 => ?_)
    · refine z_iconst C dX9_readDocument_59 ?_
      refine z_iconst C dX9_readDocument_60 ?_
      refine z_callV C dX9_readDocument_61 lk_X9_231 mw_X9_check mi_X9_check ms_X9_check rfl (by first | assumption | ((repeat (first | assumption | exact va_up_self _ _ _ | refine (va_up_ne _ _ (by first | assumption | exact hA.ne (by decide) | exact hA.ne (by omega))).trans ?_)); done)) (k_X9_check hA hO1 (r := 0) (what := 2) (by omega) (by omega) h.c) rfl (by first | decide | exact Nat.le_of_ble_eq_true rfl) ⟨by decide, by decide, by decide, by decide⟩ (fun _ _ h => False.elim h) (fun v M' hp => ?_)
      obtain ⟨b40, rfl, f40, a40⟩ := hp
      refine z_pop C dX9_readDocument_64 rfl ?_
      rw [if_pos (by omega)] at hq
      exact e65 _ _ _ _ (h.no hA f40 a40 (by omega) hq.symm)
    · refine z_iconst C dX9_readDocument_55 ?_
      refine z_goto (tgt := 60) C dX9_readDocument_56 (by decide) ?_
      refine z_iconst C dX9_readDocument_60 ?_
      refine z_callV C dX9_readDocument_61 lk_X9_231 mw_X9_check mi_X9_check ms_X9_check rfl (by first | assumption | ((repeat (first | assumption | exact va_up_self _ _ _ | refine (va_up_ne _ _ (by first | assumption | exact hA.ne (by decide) | exact hA.ne (by omega))).trans ?_)); done)) (k_X9_check hA hO1 (r := 1) (what := 2) (by omega) (by omega) h.c) rfl (by first | decide | exact Nat.le_of_ble_eq_true rfl) ⟨by decide, by decide, by decide, by decide⟩ (fun _ _ h => False.elim h) (fun v M' hp => ?_)
      obtain ⟨b40, rfl, f40, a40⟩ := hp
      refine z_pop C dX9_readDocument_64 rfl ?_
      rw [if_neg (by omega)] at hq
      exact g65 _ F1 _ _ hn8 hk1 (by omega) hq (h.ok hA f40 a40)
  have g22 : ∀ (M1 : zM) (F1 : Nat → Int) (x1 x2 : Option Value), sDn S0 < 8 → (if ztK f n e1 ≠ 1 then (1, ztS f n e1, S0, e0) else if 40 < e2 - ztS f n e1 then (2, ztS f n e1, S0, e0) else zpD3 f n S0 e0 e1 e2) = q → mGS γ A M M1 F F1 f n e0 → zAW p l e { frames := 6, cells := 0, slots := 0, locals := 128 } s m args below meth c γ 3 Q M1 0 0 22 [some (.ref (A 0)), x1, x2] [] := by
    intro M1 F1 x1 x2 hn8 hq h
    obtain ⟨z1, z2, z3, z4, z6⟩ := id h
    have hO1 := z6.1
    have rk := mtk_3 (ztK_rng f n e1)
    refine z_aload_n C dX9_readDocument_22 rfl ?_
    refine z_callV C dX9_readDocument_23 lk_X9_234 mw_X9_next mi_X9_next ms_X9_next rfl (by first | assumption | ((repeat (first | assumption | exact va_up_self _ _ _ | refine (va_up_ne _ _ (by first | assumption | exact hA.ne (by decide) | exact hA.ne (by omega))).trans ?_)); done)) (k_X9_next hA z6 h.c) rfl (by first | decide | exact Nat.le_of_ble_eq_true rfl) ⟨by decide, by decide, by decide, by decide⟩ (fun _ _ h => False.elim h) (fun v M' hp => ?_)
    obtain ⟨rfl, f22, F2, p22, c22⟩ := hp
    have h2 := h.nx f22 p22 c22
    rw [he1] at h2
    obtain ⟨a1, a2, a3, a4, a6⟩ := id h2
    have hO2 := a6.1
    have t22 := a6.2.2.2.2.2.2.2.1
    refine z_aload_n C dX9_readDocument_26 rfl ?_
    refine z_aload_n C dX9_readDocument_27 rfl ?_
    refine z_getM C dX9_readDocument_28 fl_X9_221 (by first | assumption | ((repeat (first | assumption | exact va_up_self _ _ _ | refine (va_up_ne _ _ (by first | assumption | exact hA.ne (by decide) | exact hA.ne (by omega))).trans ?_)); done)) rfl t22 ?_
    refine z_iconst C dX9_readDocument_31 ?_
    refine z_icmp_neZ (tgt := 39) C dX9_readDocument_32 (by decide) (by omega) (by omega) (fun h32 => ?_) (fun h32 => ?_)
    · refine z_iconst C dX9_readDocument_39 ?_
      refine z_iconst C dX9_readDocument_40 ?_
      refine z_callV C dX9_readDocument_41 lk_X9_231 mw_X9_check mi_X9_check ms_X9_check rfl (by first | assumption | ((repeat (first | assumption | exact va_up_self _ _ _ | refine (va_up_ne _ _ (by first | assumption | exact hA.ne (by decide) | exact hA.ne (by omega))).trans ?_)); done)) (k_X9_check hA hO2 (r := 0) (what := 1) (by omega) (by omega) h2.c) rfl (by first | decide | exact Nat.le_of_ble_eq_true rfl) ⟨by decide, by decide, by decide, by decide⟩ (fun _ _ h => False.elim h) (fun v M' hp => ?_)
      obtain ⟨b40, rfl, f40, a40⟩ := hp
      refine z_pop C dX9_readDocument_44 rfl ?_
      rw [if_pos (by omega)] at hq
      exact e45 _ _ _ _ (h2.no hA f40 a40 (by omega) hq.symm)
    · refine z_iconst C dX9_readDocument_35 ?_
      refine z_goto (tgt := 40) C dX9_readDocument_36 (by decide) ?_
      refine z_iconst C dX9_readDocument_40 ?_
      refine z_callV C dX9_readDocument_41 lk_X9_231 mw_X9_check mi_X9_check ms_X9_check rfl (by first | assumption | ((repeat (first | assumption | exact va_up_self _ _ _ | refine (va_up_ne _ _ (by first | assumption | exact hA.ne (by decide) | exact hA.ne (by omega))).trans ?_)); done)) (k_X9_check hA hO2 (r := 1) (what := 1) (by omega) (by omega) h2.c) rfl (by first | decide | exact Nat.le_of_ble_eq_true rfl) ⟨by decide, by decide, by decide, by decide⟩ (fun _ _ h => False.elim h) (fun v M' hp => ?_)
      obtain ⟨b40, rfl, f40, a40⟩ := hp
      refine z_pop C dX9_readDocument_44 rfl ?_
      rw [if_neg (by omega)] at hq
      exact g45 _ F2 _ _ hn8 (by omega) hq (h2.ok hA f40 a40)
  have h0 : mGS γ A M M F F f n e0 := ⟨mF.rf, mKp.rf, h25, h26, hP⟩
  have hO0 := hP.1
  refine z_aload_n C dX9_readDocument_0 rfl ?_
  refine z_aload_n C dX9_readDocument_1 rfl ?_
  refine z_get C dX9_readDocument_2 fl_X9_13 (by first | assumption | ((repeat (first | assumption | exact va_up_self _ _ _ | refine (va_up_ne _ _ (by first | assumption | exact hA.ne (by decide) | exact hA.ne (by omega))).trans ?_)); done)) rfl ?_
  refine z_iconst C dX9_readDocument_5 ?_
  refine z_aldN C dX9_readDocument_6 (by first | assumption | ((repeat (first | assumption | exact va_up_self _ _ _ | refine (va_up_ne _ _ (by first | assumption | exact hA.ne (by decide) | exact hA.ne (by omega))).trans ?_)); done)) (by omega) (by omega) (by assumption) (fun hr6 => ?_)
  rw [g2]
  refine z_bipush C dX9_readDocument_7 (by decide) ?_
  refine z_icmp_geZ (tgt := 16) C dX9_readDocument_9 (by decide) (by omega) (by omega) (fun h9 => ?_) (fun h9 => ?_)
  · refine z_iconst C dX9_readDocument_16 ?_
    refine z_iconst C dX9_readDocument_17 ?_
    refine z_callV C dX9_readDocument_18 lk_X9_231 mw_X9_check mi_X9_check ms_X9_check rfl (by first | assumption | ((repeat (first | assumption | exact va_up_self _ _ _ | refine (va_up_ne _ _ (by first | assumption | exact hA.ne (by decide) | exact hA.ne (by omega))).trans ?_)); done)) (k_X9_check hA hO0 (r := 0) (what := 5) (by omega) (by omega) h0.c) rfl (by first | decide | exact Nat.le_of_ble_eq_true rfl) ⟨by decide, by decide, by decide, by decide⟩ (fun _ _ h => False.elim h) (fun v M' hp => ?_)
    obtain ⟨b17, rfl, f17, a17⟩ := hp
    refine z_pop C dX9_readDocument_21 rfl ?_
    rw [if_pos (by omega)] at hq
    exact e22 _ _ _ _ (h0.no hA f17 a17 (by omega) hq.symm)
  · refine z_iconst C dX9_readDocument_12 ?_
    refine z_goto (tgt := 17) C dX9_readDocument_13 (by decide) ?_
    refine z_iconst C dX9_readDocument_17 ?_
    refine z_callV C dX9_readDocument_18 lk_X9_231 mw_X9_check mi_X9_check ms_X9_check rfl (by first | assumption | ((repeat (first | assumption | exact va_up_self _ _ _ | refine (va_up_ne _ _ (by first | assumption | exact hA.ne (by decide) | exact hA.ne (by omega))).trans ?_)); done)) (k_X9_check hA hO0 (r := 1) (what := 5) (by omega) (by omega) h0.c) rfl (by first | decide | exact Nat.le_of_ble_eq_true rfl) ⟨by decide, by decide, by decide, by decide⟩ (fun _ _ h => False.elim h) (fun v M' hp => ?_)
    obtain ⟨b17, rfl, f17, a17⟩ := hp
    refine z_pop C dX9_readDocument_21 rfl ?_
    rw [if_neg (by omega)] at hq
    exact g22 _ F _ _ (by omega) hq (h0.ok hA f17 a17)

