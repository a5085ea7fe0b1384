/-! the model's parser: a training, the whole text -/
set_option maxHeartbeats 4000000 in
set_option maxRecDepth 100000 in
theorem k_X9_readTrain {l : Launch} {γ : zG} {M : zM} {A : Nat → Nat} {F f g : Nat → Int} {n e0 : Int} {S0 : zSt} (hA : mIA A) (hP : mPs γ M A F f n e0) (h25 : F 25 = 0) (h26 : F 26 = -1) (hM : M (A 2) = some (zar γ 5987 g)) (hS : mSt g S0) (hO : zOk S0) :
    zCon l γ yX9_readTrain cX9_readTrain 4 none [.ref (A 0)] M 7 165 0 0 (fun v' M' => v' = none ∧ mSP γ A M M' F f n (zpT f n S0 e0)) (fun _ _ => False) := by
  have o1 := hO.1
  have hg := hS.1
  have hB := hP.2.2.2.1
  have r0 := hP.2.2.2.2.1
  have bb := hB.1
  have g2 : g (1 : Int).toNat = sDn S0 := hS.2.2.1
  generalize hq : zpT f n S0 e0 = q
  unfold zpT at hq
  have E0 := ztS_rng (f := f) r0
  have E1 := ztE_rng hB r0
  generalize he1 : ztE f n e0 = e1 at *
  have S1 := ztS_rng (f := f) (e := e1) (n := n) (by omega)
  have E2 := ztE_rng (e := e1) hB (by omega)
  generalize he2 : ztE f n e1 = e2 at *
  have S2 := ztS_rng (f := f) (e := e2) (n := n) (by omega)
  have E3 := ztE_rng (e := e2) hB (by omega)
  generalize hrr : zNo S0 f n (ztS f n e1) e2 = rr at *
  have zr := zNo_rng hO f n (ztS f n e1) e2
  rw [hrr] at zr
  unfold zpT1 at hq
  generalize he3 : ztE f n e2 = e3 at *
  have rn1 : ∀ M1, mF A M M1 [0] → M1 (A 2) = some (zar γ 5987 g) := fun M1 h => h.at hA (.of rfl) hM
  refine zEnter [some (.ref (A 0)), none, none, none] (by decide +kernel) rfl rfl (Nat.le_of_ble_eq_true rfl) ?_
  intro p e s m args below meth c Q C hin hQ
  have e141 : ∀ (M1 : zM) (F1 : Nat → Int) (x1 x2 x3 : Option Value), mES γ A M M1 F F1 f n q → zAW p l e { frames := 7, cells := 0, slots := 0, locals := 165 } s m args below meth c γ 4 Q M1 0 0 141 [some (.ref (A 0)), x1, x2, x3] [] := by
    intro M1 F1 x1 x2 x3 h
    have n0 := h.n0
    have rc := h.c
    obtain ⟨z1, z2, z3, z4, z5, y1, z6⟩ := id h
    have hO1 := z6.1
    refine z_aload_n C dX9_readTrain_141 rfl ?_
    refine z_getM C dX9_readTrain_142 fl_X9_199 (by first | assumption | ((repeat (first | assumption | exact va_up_self _ _ _ | refine (va_up_ne _ _ (by first | assumption | exact hA.ne (by decide) | exact hA.ne (by omega))).trans ?_)); done)) rfl rfl ?_
    refine z_if_neZ (tgt := 157) C dX9_readTrain_145 (by decide) (by omega) (fun h145 => ?_) (fun h145 => ?_)
    · refine z_vret C hQ dX9_readTrain_157 (by decide) (by decide) ?_
      exact ⟨rfl, h.sp hA hM hg⟩
    · exact absurd h145 n0
  have e128 : ∀ (M1 : zM) (F1 : Nat → Int) (x1 x2 x3 : Option Value), mES γ A M M1 F F1 f n q → zAW p l e { frames := 7, cells := 0, slots := 0, locals := 165 } s m args below meth c γ 4 Q M1 0 0 128 [some (.ref (A 0)), x1, x2, x3] [] := by
    intro M1 F1 x1 x2 x3 h
    obtain ⟨z1, z2, z3, z4, z5, y1, z6⟩ := id h
    have hO1 := z6.1
    refine z_aload_n C dX9_readTrain_128 rfl ?_
    refine z_getM C dX9_readTrain_129 fl_X9_218 (by first | assumption | ((repeat (first | assumption | exact va_up_self _ _ _ | refine (va_up_ne _ _ (by first | assumption | exact hA.ne (by decide) | exact hA.ne (by omega))).trans ?_)); done)) rfl rfl ?_
    refine z_istore_n C dX9_readTrain_132 (by decide) ?_
    refine z_aload_n C dX9_readTrain_133 rfl ?_
    refine z_callV C dX9_readTrain_134 lk_X9_234 mw_X9_next mi_X9_next ms_X9_next rfl (by first | assumption | ((repeat (first | assumption | exact va_up_self _ _ _ | refine (va_up_ne _ _ (by first | assumption | exact hA.ne (by decide) | exact hA.ne (by omega))).trans ?_)); done)) (k_X9_next hA z6 h.c) rfl (by first | decide | exact Nat.le_of_ble_eq_true rfl) ⟨by decide, by decide, by decide, by decide⟩ (fun _ _ h => False.elim h) (fun v M' hp => ?_)
    obtain ⟨rfl, f176, F2, p176, c176⟩ := hp
    have h2 := h.nx f176 p176 c176
    obtain ⟨a1, a2, a3, a4, a5, y2, a6⟩ := id h2
    have hO2 := a6.1
    refine z_aload_n C dX9_readTrain_137 rfl ?_
    refine z_callV C dX9_readTrain_138 lk_X9_253 mw_X9_finish mi_X9_finish ms_X9_finish rfl (by first | assumption | ((repeat (first | assumption | exact va_up_self _ _ _ | refine (va_up_ne _ _ (by first | assumption | exact hA.ne (by decide) | exact hA.ne (by omega))).trans ?_)); done)) (k_X9_finish hA a6 h2.c) rfl (by first | decide | exact Nat.le_of_ble_eq_true rfl) ⟨by decide, by decide, by decide, by decide⟩ (fun _ _ h => False.elim h) (fun v M' hp => ?_)
    obtain ⟨rfl, f180, F3, p180, c180⟩ := hp
    exact e141 _ F3 _ _ _ (h2.fn f180 p180 c180)
  have e104 : ∀ (M1 : zM) (F1 : Nat → Int) (x1 x2 x3 : Option Value), mES γ A M M1 F F1 f n q → zAW p l e { frames := 7, cells := 0, slots := 0, locals := 165 } s m args below meth c γ 4 Q M1 0 0 104 [some (.ref (A 0)), x1, x2, x3] [] := by
    intro M1 F1 x1 x2 x3 h
    obtain ⟨z1, z2, z3, z4, z5, y1, z6⟩ := id h
    have hO1 := z6.1
    have hM1 := rn1 M1 z1
    have tr := z6.2.2.2.2.2.r hB z6.2.2.2.2.1
    refine z_aload_n C dX9_readTrain_104 rfl ?_
    refine z_aload_n C dX9_readTrain_105 rfl ?_
    refine z_getM C dX9_readTrain_106 fl_X9_218 (by first | assumption | ((repeat (first | assumption | exact va_up_self _ _ _ | refine (va_up_ne _ _ (by first | assumption | exact hA.ne (by decide) | exact hA.ne (by omega))).trans ?_)); done)) rfl rfl ?_
    refine z_aload_n C dX9_readTrain_109 rfl ?_
    refine z_get C dX9_readTrain_110 fl_X9_13 (by first | assumption | ((repeat (first | assumption | exact va_up_self _ _ _ | refine (va_up_ne _ _ (by first | assumption | exact hA.ne (by decide) | exact hA.ne (by omega))).trans ?_)); done)) rfl ?_
    refine z_iconst C dX9_readTrain_113 ?_
    refine z_aldN C dX9_readTrain_114 (by first | assumption | ((repeat (first | assumption | exact va_up_self _ _ _ | refine (va_up_ne _ _ (by first | assumption | exact hA.ne (by decide) | exact hA.ne (by omega))).trans ?_)); done)) (by omega) (by omega) (by assumption) (fun hr114 => ?_)
    rw [g2]
    refine z_icmp_geZ (tgt := 122) C dX9_readTrain_115 (by decide) (by omega) (by omega) (fun h115 => ?_) (fun h115 => ?_)
    · refine z_iconst C dX9_readTrain_122 ?_
      refine z_iconst C dX9_readTrain_123 ?_
      refine z_callV C dX9_readTrain_124 lk_X9_231 mw_X9_check mi_X9_check ms_X9_check rfl (by first | assumption | ((repeat (first | assumption | exact va_up_self _ _ _ | refine (va_up_ne _ _ (by first | assumption | exact hA.ne (by decide) | exact hA.ne (by omega))).trans ?_)); done)) (k_X9_check hA hO1 (r := 0) (what := 2) (by omega) (by omega) h.c) rfl (by first | decide | exact Nat.le_of_ble_eq_true rfl) ⟨by decide, by decide, by decide, by decide⟩ (fun _ _ h => False.elim h) (fun v M' hp => ?_)
      obtain ⟨b40, rfl, f40, a40⟩ := hp
      refine z_pop C dX9_readTrain_127 rfl ?_
      exact e128 _ F1 _ _ _ (h.ck hA f40 a40)
    · refine z_iconst C dX9_readTrain_118 ?_
      refine z_goto (tgt := 123) C dX9_readTrain_119 (by decide) ?_
      refine z_iconst C dX9_readTrain_123 ?_
      refine z_callV C dX9_readTrain_124 lk_X9_231 mw_X9_check mi_X9_check ms_X9_check rfl (by first | assumption | ((repeat (first | assumption | exact va_up_self _ _ _ | refine (va_up_ne _ _ (by first | assumption | exact hA.ne (by decide) | exact hA.ne (by omega))).trans ?_)); done)) (k_X9_check hA hO1 (r := 1) (what := 2) (by omega) (by omega) h.c) rfl (by first | decide | exact Nat.le_of_ble_eq_true rfl) ⟨by decide, by decide, by decide, by decide⟩ (fun _ _ h => False.elim h) (fun v M' hp => ?_)
      obtain ⟨b40, rfl, f40, a40⟩ := hp
      refine z_pop C dX9_readTrain_127 rfl ?_
      exact e128 _ F1 _ _ _ (h.ck hA f40 a40)
  have e81 : ∀ (M1 : zM) (F1 : Nat → Int) (x1 x2 x3 : Option Value), mES γ A M M1 F F1 f n q → zAW p l e { frames := 7, cells := 0, slots := 0, locals := 165 } s m args below meth c γ 4 Q M1 0 0 81 [some (.ref (A 0)), x1, x2, x3] [] := by
    intro M1 F1 x1 x2 x3 h
    obtain ⟨z1, z2, z3, z4, z5, y1, z6⟩ := id h
    have hO1 := z6.1
    refine z_aload_n C dX9_readTrain_81 rfl ?_
    refine z_callV C dX9_readTrain_82 lk_X9_234 mw_X9_next mi_X9_next ms_X9_next rfl (by first | assumption | ((repeat (first | assumption | exact va_up_self _ _ _ | refine (va_up_ne _ _ (by first | assumption | exact hA.ne (by decide) | exact hA.ne (by omega))).trans ?_)); done)) (k_X9_next hA z6 h.c) rfl (by first | decide | exact Nat.le_of_ble_eq_true rfl) ⟨by decide, by decide, by decide, by decide⟩ (fun _ _ h => False.elim h) (fun v M' hp => ?_)
    obtain ⟨rfl, f22, F2, p22, c22⟩ := hp
    have h2 := h.nx f22 p22 c22
    obtain ⟨a1, a2, a3, a4, a5, y2, a6⟩ := id h2
    have hO2 := a6.1
    have t22 := a6.2.2.2.2.2.2.2.1
    have rk := mtk_3 (ztK_rng f n y2)
    refine z_aload_n C dX9_readTrain_85 rfl ?_
    refine z_aload_n C dX9_readTrain_86 rfl ?_
    refine z_getM C dX9_readTrain_87 fl_X9_221 (by first | assumption | ((repeat (first | assumption | exact va_up_self _ _ _ | refine (va_up_ne _ _ (by first | assumption | exact hA.ne (by decide) | exact hA.ne (by omega))).trans ?_)); done)) rfl t22 ?_
    refine z_iconst C dX9_readTrain_90 ?_
    refine z_icmp_neZ (tgt := 98) C dX9_readTrain_91 (by decide) (by omega) (by omega) (fun h91 => ?_) (fun h91 => ?_)
    · refine z_iconst C dX9_readTrain_98 ?_
      refine z_iconst C dX9_readTrain_99 ?_
      refine z_callV C dX9_readTrain_100 lk_X9_231 mw_X9_check mi_X9_check ms_X9_check rfl (by first | assumption | ((repeat (first | assumption | exact va_up_self _ _ _ | refine (va_up_ne _ _ (by first | assumption | exact hA.ne (by decide) | exact hA.ne (by omega))).trans ?_)); done)) (k_X9_check hA hO2 (r := 0) (what := 1) (by omega) (by omega) h2.c) rfl (by first | decide | exact Nat.le_of_ble_eq_true rfl) ⟨by decide, by decide, by decide, by decide⟩ (fun _ _ h => False.elim h) (fun v M' hp => ?_)
      obtain ⟨b40, rfl, f40, a40⟩ := hp
      refine z_pop C dX9_readTrain_103 rfl ?_
      exact e104 _ F2 _ _ _ (h2.ck hA f40 a40)
    · refine z_iconst C dX9_readTrain_94 ?_
      refine z_goto (tgt := 99) C dX9_readTrain_95 (by decide) ?_
      refine z_iconst C dX9_readTrain_99 ?_
      refine z_callV C dX9_readTrain_100 lk_X9_231 mw_X9_check mi_X9_check ms_X9_check rfl (by first | assumption | ((repeat (first | assumption | exact va_up_self _ _ _ | refine (va_up_ne _ _ (by first | assumption | exact hA.ne (by decide) | exact hA.ne (by omega))).trans ?_)); done)) (k_X9_check hA hO2 (r := 1) (what := 1) (by omega) (by omega) h2.c) rfl (by first | decide | exact Nat.le_of_ble_eq_true rfl) ⟨by decide, by decide, by decide, by decide⟩ (fun _ _ h => False.elim h) (fun v M' hp => ?_)
      obtain ⟨b40, rfl, f40, a40⟩ := hp
      refine z_pop C dX9_readTrain_103 rfl ?_
      exact e104 _ F2 _ _ _ (h2.ck hA f40 a40)
  have e23 : ∀ (M1 : zM) (F1 : Nat → Int) (x1 x2 x3 : Option Value), mES γ A M M1 F F1 f n q → zAW p l e { frames := 7, cells := 0, slots := 0, locals := 165 } s m args below meth c γ 4 Q M1 0 0 23 [some (.ref (A 0)), x1, x2, x3] [] := by
    intro M1 F1 x1 x2 x3 h
    have n0 := h.n0
    have rc := h.c
    obtain ⟨z1, z2, z3, z4, z5, y1, z6⟩ := id h
    have hO1 := z6.1
    refine z_aload_n C dX9_readTrain_23 rfl ?_
    refine z_getM C dX9_readTrain_24 fl_X9_199 (by first | assumption | ((repeat (first | assumption | exact va_up_self _ _ _ | refine (va_up_ne _ _ (by first | assumption | exact hA.ne (by decide) | exact hA.ne (by omega))).trans ?_)); done)) rfl rfl ?_
    refine z_if_neZ (tgt := 45) C dX9_readTrain_27 (by decide) (by omega) (fun h27 => ?_) (fun h27 => ?_)
    · refine z_iconst C dX9_readTrain_45 ?_
      refine z_istore_n C dX9_readTrain_46 (by decide) ?_
      refine z_iload_n C dX9_readTrain_47 rfl ?_
      refine z_iconst C dX9_readTrain_48 ?_
      refine z_icmp_neZ (tgt := 56) C dX9_readTrain_49 (by decide) (by omega) (by omega) (fun h49 => ?_) (fun h49 => ?_)
      · exact absurd rfl h49
      · refine z_iconst C dX9_readTrain_52 ?_
        refine z_goto (tgt := 64) C dX9_readTrain_53 (by decide) ?_
        refine z_istore_n C dX9_readTrain_64 (by decide) ?_
        refine z_aload_n C dX9_readTrain_65 rfl ?_
        refine z_iload_n C dX9_readTrain_66 rfl ?_
        refine z_iconst C dX9_readTrain_67 ?_
        refine z_icmp_eqZ (tgt := 75) C dX9_readTrain_68 (by decide) (by omega) (by omega) (fun h68 => ?_) (fun h68 => ?_)
        · refine z_iconst C dX9_readTrain_75 ?_
          refine z_iconst C dX9_readTrain_76 ?_
          refine z_callV C dX9_readTrain_77 lk_X9_231 mw_X9_check mi_X9_check ms_X9_check rfl (by first | assumption | ((repeat (first | assumption | exact va_up_self _ _ _ | refine (va_up_ne _ _ (by first | assumption | exact hA.ne (by decide) | exact hA.ne (by omega))).trans ?_)); done)) (k_X9_check hA hO1 (r := 0) (what := 4) (by omega) (by omega) h.c) rfl (by first | decide | exact Nat.le_of_ble_eq_true rfl) ⟨by decide, by decide, by decide, by decide⟩ (fun _ _ h => False.elim h) (fun v M' hp => ?_)
          obtain ⟨b40, rfl, f40, a40⟩ := hp
          refine z_pop C dX9_readTrain_80 rfl ?_
          exact e81 _ F1 _ _ _ (h.ck hA f40 a40)
        · exact absurd rfl h68
    · exact absurd h27 n0
  have g141 : ∀ (M1 : zM) (F1 : Nat → Int) (x1 : Option Value) (d : Int), (0 ≤ rr ∧ rr < sRn S0) → (0 ≤ d ∧ d < sDn S0) → (0, -1, sTrn S0 rr d, ztE f n e3) = q → mGS γ A M M1 F F1 f n (ztE f n e3) → zAW p l e { frames := 7, cells := 0, slots := 0, locals := 165 } s m args below meth c γ 4 Q M1 0 0 141 [some (.ref (A 0)), x1, some (.int (zi rr)), some (.int (zi d))] [] := by
    intro M1 F1 x1 d rrr rd hq h
    obtain ⟨z1, z2, z3, z4, z6⟩ := id h
    have hO1 := z6.1
    have hM1 := rn1 M1 z1
    refine z_aload_n C dX9_readTrain_141 rfl ?_
    refine z_getM C dX9_readTrain_142 fl_X9_199 (by first | assumption | ((repeat (first | assumption | exact va_up_self _ _ _ | refine (va_up_ne _ _ (by first | assumption | exact hA.ne (by decide) | exact hA.ne (by omega))).trans ?_)); done)) rfl z3 ?_
    refine z_if_neZ (tgt := 157) C dX9_readTrain_145 (by decide) (by omega) (fun h145 => ?_) (fun h145 => ?_)
    · exact absurd rfl h145
    · refine z_aload_n C dX9_readTrain_148 rfl ?_
      refine z_get C dX9_readTrain_149 fl_X9_13 (by first | assumption | ((repeat (first | assumption | exact va_up_self _ _ _ | refine (va_up_ne _ _ (by first | assumption | exact hA.ne (by decide) | exact hA.ne (by omega))).trans ?_)); done)) rfl ?_
      refine z_iload_n C dX9_readTrain_152 rfl ?_
      refine z_iload_n C dX9_readTrain_153 rfl ?_
      refine z_callS C dX9_readTrain_154 lk_X9_262 mw_X9_trainOn mst_X9_trainOn (k_X9_trainOnS hM1 hS hO rrr rd) rfl (by first | decide | exact Nat.le_of_ble_eq_true rfl) ⟨by decide, by decide, by decide, by decide⟩ (fun _ _ h => False.elim h) (fun v M' hp => ?_)
      obtain ⟨rfl, f97, g', a97, s97⟩ := hp
      refine z_vret C hQ dX9_readTrain_157 (by decide) (by decide) ?_
      exact ⟨rfl, h.sp hA (f97 : mF A M1 _ [2]) a97 (by rw [← hq]) (by rw [← hq]) (by rw [← hq]; exact s97)⟩
  have g128 : ∀ (M1 : zM) (F1 : Nat → Int) (x1 x3 : Option Value) (d : Int), F1 23 = d → (0 ≤ rr ∧ rr < sRn S0) → (0 ≤ d ∧ d < sDn S0) → zpT3 f n S0 e0 rr d e3 = q → mGS γ A M M1 F F1 f n e2 → zAW p l e { frames := 7, cells := 0, slots := 0, locals := 165 } s m args below meth c γ 4 Q M1 0 0 128 [some (.ref (A 0)), x1, some (.int (zi rr)), x3] [] := by
    intro M1 F1 x1 x3 d h23 rrr rd hq h
    obtain ⟨z1, z2, z3, z4, z6⟩ := id h
    have hO1 := z6.1
    unfold zpT3 at hq
    refine z_aload_n C dX9_readTrain_128 rfl ?_
    refine z_getM C dX9_readTrain_129 fl_X9_218 (by first | assumption | ((repeat (first | assumption | exact va_up_self _ _ _ | refine (va_up_ne _ _ (by first | assumption | exact hA.ne (by decide) | exact hA.ne (by omega))).trans ?_)); done)) rfl h23 ?_
    refine z_istore_n C dX9_readTrain_132 (by decide) ?_
    refine z_aload_n C dX9_readTrain_133 rfl ?_
    refine z_callV C dX9_readTrain_134 lk_X9_234 mw_X9_next mi_X9_next ms_X9_next rfl (by first | assumption | ((repeat (first | assumption | exact va_up_self _ _ _ | refine (va_up_ne _ _ (by first | assumption | exact hA.ne (by decide) | exact hA.ne (by omega))).trans ?_)); done)) (k_X9_next hA z6 h.c) rfl (by first | decide | exact Nat.le_of_ble_eq_true rfl) ⟨by decide, by decide, by decide, by decide⟩ (fun _ _ h => False.elim h) (fun v M' hp => ?_)
    obtain ⟨rfl, f176, F2, p176, c176⟩ := hp
    have h2 := h.nx f176 p176 c176
    rw [he3] at h2
    obtain ⟨a1, a2, a3, a4, a6⟩ := id h2
    have hO2 := a6.1
    refine z_aload_n C dX9_readTrain_137 rfl ?_
    refine z_callV C dX9_readTrain_138 lk_X9_253 mw_X9_finish mi_X9_finish ms_X9_finish rfl (by first | assumption | ((repeat (first | assumption | exact va_up_self _ _ _ | refine (va_up_ne _ _ (by first | assumption | exact hA.ne (by decide) | exact hA.ne (by omega))).trans ?_)); done)) (k_X9_finish hA a6 h2.c) rfl (by first | decide | exact Nat.le_of_ble_eq_true rfl) ⟨by decide, by decide, by decide, by decide⟩ (fun _ _ h => False.elim h) (fun v M' hp => ?_)
    obtain ⟨rfl, f180, F3, p180, c180⟩ := hp
    rcases h2.fn (q := q) (S := S0) (e := e0) f180 p180 c180 (fun w => by rw [if_neg w] at hq; exact hq.symm) with ⟨c1, c2⟩ | ⟨c1, c2⟩
    · rw [if_pos c1] at hq
      exact g141 _ F3 _ d rrr rd hq c2
    · exact e141 _ F3 _ _ _ c2
  have g104 : ∀ (M1 : zM) (F1 : Nat → Int) (x1 x3 : Option Value), (0 ≤ rr ∧ rr < sRn S0) → ztK f n e2 = 2 → (if sDn S0 ≤ znv f n (e3 - ztS f n e2).toNat (ztS f n e2) 0 then (2, ztS f n e2, S0, e0) else zpT3 f n S0 e0 rr (znv f n (e3 - ztS f n e2).toNat (ztS f n e2) 0) e3) = q → mGS γ A M M1 F F1 f n e2 → zAW p l e { frames := 7, cells := 0, slots := 0, locals := 165 } s m args below meth c γ 4 Q M1 0 0 104 [some (.ref (A 0)), x1, some (.int (zi rr)), x3] [] := by
    intro M1 F1 x1 x3 rrr hk2 hq h
    obtain ⟨z1, z2, z3, z4, z6⟩ := id h
    have hO1 := z6.1
    have hM1 := rn1 M1 z1
    have tr := z6.2.2.2.2.2.r hB z6.2.2.2.2.1
    have t23 := z6.2.2.2.2.2.2.2.2.2
    rw [if_pos hk2, he3] at t23
    have dg := ztK_dg hk2 (by omega)
    rw [he3] at dg
    have mq := mnv_eq (e3 - ztS f n e2).toNat (ztS f n e2) 0 (by omega) dg
    rw [show min (0 : Int) 1000 = 0 by decide, ← t23] at mq
    rw [mq.1] at hq
    refine z_aload_n C dX9_readTrain_104 rfl ?_
    refine z_aload_n C dX9_readTrain_105 rfl ?_
    refine z_getM C dX9_readTrain_106 fl_X9_218 (by first | assumption | ((repeat (first | assumption | exact va_up_self _ _ _ | refine (va_up_ne _ _ (by first | assumption | exact hA.ne (by decide) | exact hA.ne (by omega))).trans ?_)); done)) rfl rfl ?_
    refine z_aload_n C dX9_readTrain_109 rfl ?_
    refine z_get C dX9_readTrain_110 fl_X9_13 (by first | assumption | ((repeat (first | assumption | exact va_up_self _ _ _ | refine (va_up_ne _ _ (by first | assumption | exact hA.ne (by decide) | exact hA.ne (by omega))).trans ?_)); done)) rfl ?_
    refine z_iconst C dX9_readTrain_113 ?_
    refine z_aldN C dX9_readTrain_114 (by first | assumption | ((repeat (first | assumption | exact va_up_self _ _ _ | refine (va_up_ne _ _ (by first | assumption | exact hA.ne (by decide) | exact hA.ne (by omega))).trans ?_)); done)) (by omega) (by omega) (by assumption) (fun hr114 => ?_)
    rw [g2]
    refine z_icmp_geZ (tgt := 122) C dX9_readTrain_115 (by decide) (by omega) (by omega) (fun h115 => ?_) (fun h115 => ?_)
    · refine z_iconst C dX9_readTrain_122 ?_
      refine z_iconst C dX9_readTrain_123 ?_
      refine z_callV C dX9_readTrain_124 lk_X9_231 mw_X9_check mi_X9_check ms_X9_check rfl (by first | assumption | ((repeat (first | assumption | exact va_up_self _ _ _ | refine (va_up_ne _ _ (by first | assumption | exact hA.ne (by decide) | exact hA.ne (by omega))).trans ?_)); done)) (k_X9_check hA hO1 (r := 0) (what := 2) (by omega) (by omega) h.c) rfl (by first | decide | exact Nat.le_of_ble_eq_true rfl) ⟨by decide, by decide, by decide, by decide⟩ (fun _ _ h => False.elim h) (fun v M' hp => ?_)
      obtain ⟨b40, rfl, f40, a40⟩ := hp
      refine z_pop C dX9_readTrain_127 rfl ?_
      rw [if_pos (by omega)] at hq
      exact e128 _ _ _ _ _ (h.no hA f40 a40 (by omega) hq.symm)
    · refine z_iconst C dX9_readTrain_118 ?_
      refine z_goto (tgt := 123) C dX9_readTrain_119 (by decide) ?_
      refine z_iconst C dX9_readTrain_123 ?_
      refine z_callV C dX9_readTrain_124 lk_X9_231 mw_X9_check mi_X9_check ms_X9_check rfl (by first | assumption | ((repeat (first | assumption | exact va_up_self _ _ _ | refine (va_up_ne _ _ (by first | assumption | exact hA.ne (by decide) | exact hA.ne (by omega))).trans ?_)); done)) (k_X9_check hA hO1 (r := 1) (what := 2) (by omega) (by omega) h.c) rfl (by first | decide | exact Nat.le_of_ble_eq_true rfl) ⟨by decide, by decide, by decide, by decide⟩ (fun _ _ h => False.elim h) (fun v M' hp => ?_)
      obtain ⟨b40, rfl, f40, a40⟩ := hp
      refine z_pop C dX9_readTrain_127 rfl ?_
      rw [if_neg (by omega), show min (F1 23) 1000 = F1 23 by omega] at hq
      exact g128 _ F1 _ _ (F1 23) rfl rrr (by omega) hq (h.ok hA f40 a40)
  have g81 : ∀ (M1 : zM) (F1 : Nat → Int) (x1 x3 : Option Value), (0 ≤ rr ∧ rr < sRn S0) → zpT2 f n S0 e0 rr e2 e3 (znv f n (e3 - ztS f n e2).toNat (ztS f n e2) 0) = q → mGS γ A M M1 F F1 f n e1 → zAW p l e { frames := 7, cells := 0, slots := 0, locals := 165 } s m args below meth c γ 4 Q M1 0 0 81 [some (.ref (A 0)), x1, some (.int (zi rr)), x3] [] := by
    intro M1 F1 x1 x3 rrr hq h
    obtain ⟨z1, z2, z3, z4, z6⟩ := id h
    have hO1 := z6.1
    have rk := mtk_3 (ztK_rng f n e2)
    unfold zpT2 at hq
    refine z_aload_n C dX9_readTrain_81 rfl ?_
    refine z_callV C dX9_readTrain_82 lk_X9_234 mw_X9_next mi_X9_next ms_X9_next rfl (by first | assumption | ((repeat (first | assumption | exact va_up_self _ _ _ | refine (va_up_ne _ _ (by first | assumption | exact hA.ne (by decide) | exact hA.ne (by omega))).trans ?_)); done)) (k_X9_next hA z6 h.c) rfl (by first | decide | exact Nat.le_of_ble_eq_true rfl) ⟨by decide, by decide, by decide, by decide⟩ (fun _ _ h => False.elim h) (fun v M' hp => ?_)
    obtain ⟨rfl, f22, F2, p22, c22⟩ := hp
    have h2 := h.nx f22 p22 c22
    rw [he2] at h2
    obtain ⟨a1, a2, a3, a4, a6⟩ := id h2
    have hO2 := a6.1
    have t22 := a6.2.2.2.2.2.2.2.1
    refine z_aload_n C dX9_readTrain_85 rfl ?_
    refine z_aload_n C dX9_readTrain_86 rfl ?_
    refine z_getM C dX9_readTrain_87 fl_X9_221 (by first | assumption | ((repeat (first | assumption | exact va_up_self _ _ _ | refine (va_up_ne _ _ (by first | assumption | exact hA.ne (by decide) | exact hA.ne (by omega))).trans ?_)); done)) rfl t22 ?_
    refine z_iconst C dX9_readTrain_90 ?_
    refine z_icmp_neZ (tgt := 98) C dX9_readTrain_91 (by decide) (by omega) (by omega) (fun h91 => ?_) (fun h91 => ?_)
    · refine z_iconst C dX9_readTrain_98 ?_
      refine z_iconst C dX9_readTrain_99 ?_
      refine z_callV C dX9_readTrain_100 lk_X9_231 mw_X9_check mi_X9_check ms_X9_check rfl (by first | assumption | ((repeat (first | assumption | exact va_up_self _ _ _ | refine (va_up_ne _ _ (by first | assumption | exact hA.ne (by decide) | exact hA.ne (by omega))).trans ?_)); done)) (k_X9_check hA hO2 (r := 0) (what := 1) (by omega) (by omega) h2.c) rfl (by first | decide | exact Nat.le_of_ble_eq_true rfl) ⟨by decide, by decide, by decide, by decide⟩ (fun _ _ h => False.elim h) (fun v M' hp => ?_)
      obtain ⟨b40, rfl, f40, a40⟩ := hp
      refine z_pop C dX9_readTrain_103 rfl ?_
      rw [if_pos (by omega)] at hq
      exact e104 _ _ _ _ _ (h2.no hA f40 a40 (by omega) hq.symm)
    · refine z_iconst C dX9_readTrain_94 ?_
      refine z_goto (tgt := 99) C dX9_readTrain_95 (by decide) ?_
      refine z_iconst C dX9_readTrain_99 ?_
      refine z_callV C dX9_readTrain_100 lk_X9_231 mw_X9_check mi_X9_check ms_X9_check rfl (by first | assumption | ((repeat (first | assumption | exact va_up_self _ _ _ | refine (va_up_ne _ _ (by first | assumption | exact hA.ne (by decide) | exact hA.ne (by omega))).trans ?_)); done)) (k_X9_check hA hO2 (r := 1) (what := 1) (by omega) (by omega) h2.c) rfl (by first | decide | exact Nat.le_of_ble_eq_true rfl) ⟨by decide, by decide, by decide, by decide⟩ (fun _ _ h => False.elim h) (fun v M' hp => ?_)
      obtain ⟨b40, rfl, f40, a40⟩ := hp
      refine z_pop C dX9_readTrain_103 rfl ?_
      rw [if_neg (by omega)] at hq
      exact g104 _ F2 _ _ rrr (by omega) hq (h2.ok hA f40 a40)
  have g65 : ∀ (M1 : zM) (F1 : Nat → Int) (x1 x3 : Option Value), (if rr = -1 then (4, ztS f n e1, S0, e0) else zpT2 f n S0 e0 rr e2 e3 (znv f n (e3 - ztS f n e2).toNat (ztS f n e2) 0)) = q → mGS γ A M M1 F F1 f n e1 → zAW p l e { frames := 7, cells := 0, slots := 0, locals := 165 } s m args below meth c γ 4 Q M1 0 0 65 [some (.ref (A 0)), x1, some (.int (zi rr)), x3] [] := by
    intro M1 F1 x1 x3 hq h
    obtain ⟨z1, z2, z3, z4, z6⟩ := id h
    have hO1 := z6.1
    refine z_aload_n C dX9_readTrain_65 rfl ?_
    refine z_iload_n C dX9_readTrain_66 rfl ?_
    refine z_iconst C dX9_readTrain_67 ?_
    refine z_icmp_eqZ (tgt := 75) C dX9_readTrain_68 (by decide) (by omega) (by omega) (fun h68 => ?_) (fun h68 => ?_)
    · refine z_iconst C dX9_readTrain_75 ?_
      refine z_iconst C dX9_readTrain_76 ?_
      refine z_callV C dX9_readTrain_77 lk_X9_231 mw_X9_check mi_X9_check ms_X9_check rfl (by first | assumption | ((repeat (first | assumption | exact va_up_self _ _ _ | refine (va_up_ne _ _ (by first | assumption | exact hA.ne (by decide) | exact hA.ne (by omega))).trans ?_)); done)) (k_X9_check hA hO1 (r := 0) (what := 4) (by omega) (by omega) h.c) rfl (by first | decide | exact Nat.le_of_ble_eq_true rfl) ⟨by decide, by decide, by decide, by decide⟩ (fun _ _ h => False.elim h) (fun v M' hp => ?_)
      obtain ⟨b40, rfl, f40, a40⟩ := hp
      refine z_pop C dX9_readTrain_80 rfl ?_
      rw [if_pos (by omega)] at hq
      exact e81 _ _ _ _ _ (h.no hA f40 a40 (by omega) hq.symm)
    · refine z_iconst C dX9_readTrain_71 ?_
      refine z_goto (tgt := 76) C dX9_readTrain_72 (by decide) ?_
      refine z_iconst C dX9_readTrain_76 ?_
      refine z_callV C dX9_readTrain_77 lk_X9_231 mw_X9_check mi_X9_check ms_X9_check rfl (by first | assumption | ((repeat (first | assumption | exact va_up_self _ _ _ | refine (va_up_ne _ _ (by first | assumption | exact hA.ne (by decide) | exact hA.ne (by omega))).trans ?_)); done)) (k_X9_check hA hO1 (r := 1) (what := 4) (by omega) (by omega) h.c) rfl (by first | decide | exact Nat.le_of_ble_eq_true rfl) ⟨by decide, by decide, by decide, by decide⟩ (fun _ _ h => False.elim h) (fun v M' hp => ?_)
      obtain ⟨b40, rfl, f40, a40⟩ := hp
      refine z_pop C dX9_readTrain_80 rfl ?_
      rw [if_neg (by omega)] at hq
      exact g81 _ F1 _ _ (by omega) hq (h.ok hA f40 a40)
  have g23 : ∀ (M1 : zM) (F1 : Nat → Int) (x1 x2 x3 : Option Value), ztK f n e1 = 1 → (if rr = -1 then (4, ztS f n e1, S0, e0) else zpT2 f n S0 e0 rr e2 e3 (znv f n (e3 - ztS f n e2).toNat (ztS f n e2) 0)) = q → mGS γ A M M1 F F1 f n e1 → zAW p l e { frames := 7, cells := 0, slots := 0, locals := 165 } s m args below meth c γ 4 Q M1 0 0 23 [some (.ref (A 0)), x1, x2, x3] [] := by
    intro M1 F1 x1 x2 x3 hk1 hq h
    obtain ⟨z1, z2, z3, z4, z6⟩ := id h
    have hO1 := z6.1
    have hM1 := rn1 M1 z1
    obtain ⟨y20, y21, y22, y24, y23⟩ := z6.2.2.2.2.2
    rw [if_pos hk1, he2] at y24
    have nx := E2.2.2 (by omega)
    have eb : ztS f n e1 + (e2 - ztS f n e1) = e2 := by omega
    refine z_aload_n C dX9_readTrain_23 rfl ?_
    refine z_getM C dX9_readTrain_24 fl_X9_199 (by first | assumption | ((repeat (first | assumption | exact va_up_self _ _ _ | refine (va_up_ne _ _ (by first | assumption | exact hA.ne (by decide) | exact hA.ne (by omega))).trans ?_)); done)) rfl z3 ?_
    refine z_if_neZ (tgt := 45) C dX9_readTrain_27 (by decide) (by omega) (fun h27 => ?_) (fun h27 => ?_)
    · exact absurd rfl h27
    · refine z_aload_n C dX9_readTrain_30 rfl ?_
      refine z_aload_n C dX9_readTrain_31 rfl ?_
      refine z_getM C dX9_readTrain_32 fl_X9_212 (by first | assumption | ((repeat (first | assumption | exact va_up_self _ _ _ | refine (va_up_ne _ _ (by first | assumption | exact hA.ne (by decide) | exact hA.ne (by omega))).trans ?_)); done)) rfl y21 ?_
      refine z_aload_n C dX9_readTrain_35 rfl ?_
      refine z_getM C dX9_readTrain_36 fl_X9_215 (by first | assumption | ((repeat (first | assumption | exact va_up_self _ _ _ | refine (va_up_ne _ _ (by first | assumption | exact hA.ne (by decide) | exact hA.ne (by omega))).trans ?_)); done)) rfl y24 ?_
      refine z_callV C dX9_readTrain_39 lk_X9_237 mw_X9_nameFrom mi_X9_nameFrom ms_X9_nameFrom rfl (by first | assumption | ((repeat (first | assumption | exact va_up_self _ _ _ | refine (va_up_ne _ _ (by first | assumption | exact hA.ne (by decide) | exact hA.ne (by omega))).trans ?_)); done)) (k_X9_nameFrom z6.1 z6.2.1 hB (b := ztS f n e1) (m0 := e2 - ztS f n e1) (by omega)) rfl (by first | decide | exact Nat.le_of_ble_eq_true rfl) ⟨by decide, by decide, by decide, by decide⟩ (fun _ _ h => False.elim h) (fun v M' hp => ?_)
      obtain ⟨v39, rfl, rfl, c39⟩ := hp
      refine z_goto (tgt := 46) C dX9_readTrain_42 (by decide) ?_
      refine z_istore_n C dX9_readTrain_46 (by decide) ?_
      refine z_iload_n C dX9_readTrain_47 rfl ?_
      refine z_iconst C dX9_readTrain_48 ?_
      refine z_icmp_neZ (tgt := 56) C dX9_readTrain_49 (by decide) (by omega) (by omega) (fun h49 => ?_) (fun h49 => ?_)
      · refine z_aload_n C dX9_readTrain_56 rfl ?_
        refine z_get C dX9_readTrain_57 fl_X9_13 (by first | assumption | ((repeat (first | assumption | exact va_up_self _ _ _ | refine (va_up_ne _ _ (by first | assumption | exact hA.ne (by decide) | exact hA.ne (by omega))).trans ?_)); done)) rfl ?_
        refine z_iload_n C dX9_readTrain_60 rfl ?_
        refine z_callS C dX9_readTrain_61 lk_X9_240 mw_X9_named mst_X9_named (k_X9_named hM1 hS hO (v := v39) (by omega)) rfl (by first | decide | exact Nat.le_of_ble_eq_true rfl) ⟨by decide, by decide, by decide, by decide⟩ (fun _ _ h => False.elim h) (fun v M' hp => ?_)
        obtain ⟨rfl, rfl⟩ := hp
        refine z_istore_n C dX9_readTrain_64 (by decide) ?_
        rcases c39 with ⟨c1, c2, c3⟩ | ⟨c1, c2⟩
        · have hz := zNo_v hO c1
          rw [← c2, eb, hrr] at hz
          rw [hz]
          exact g65 _ F1 _ _ hq h
        · exact absurd c2 h49
      · refine z_iconst C dX9_readTrain_52 ?_
        refine z_goto (tgt := 64) C dX9_readTrain_53 (by decide) ?_
        refine z_istore_n C dX9_readTrain_64 (by decide) ?_
        rcases c39 with ⟨c1, c2, c3⟩ | ⟨c1, c2⟩
        · omega
        · have hz := zNo_n hO c1
          rw [eb, hrr] at hz
          have := g65 _ F1 (some (.int (zi v39))) x3 hq h
          rw [hz] at this
          exact this
  have h0 : mGS γ A M M F F f n e0 := ⟨mF.rf, mKp.rf, h25, h26, hP⟩
  have hO0 := hP.1
  have rk := mtk_3 (ztK_rng f n e1)
  refine z_aload_n C dX9_readTrain_0 rfl ?_
  refine z_callV C dX9_readTrain_1 lk_X9_234 mw_X9_next mi_X9_next ms_X9_next rfl (by first | assumption | ((repeat (first | assumption | exact va_up_self _ _ _ | refine (va_up_ne _ _ (by first | assumption | exact hA.ne (by decide) | exact hA.ne (by omega))).trans ?_)); done)) (k_X9_next hA hP h0.c) rfl (by first | decide | exact Nat.le_of_ble_eq_true rfl) ⟨by decide, by decide, by decide, by decide⟩ (fun _ _ h => False.elim h) (fun v M' hp => ?_)
  obtain ⟨rfl, f22, F2, p22, c22⟩ := hp
  have h2 := h0.nx f22 p22 c22
  rw [he1] at h2
  obtain ⟨a1, a2, a3, a4, a6⟩ := id h2
  have hO2 := a6.1
  have t22 := a6.2.2.2.2.2.2.2.1
  refine z_aload_n C dX9_readTrain_4 rfl ?_
  refine z_aload_n C dX9_readTrain_5 rfl ?_
  refine z_getM C dX9_readTrain_6 fl_X9_221 (by first | assumption | ((repeat (first | assumption | exact va_up_self _ _ _ | refine (va_up_ne _ _ (by first | assumption | exact hA.ne (by decide) | exact hA.ne (by omega))).trans ?_)); done)) rfl t22 ?_
  refine z_iconst C dX9_readTrain_9 ?_
  refine z_icmp_neZ (tgt := 17) C dX9_readTrain_10 (by decide) (by omega) (by omega) (fun h10 => ?_) (fun h10 => ?_)
  · refine z_iconst C dX9_readTrain_17 ?_
    refine z_iconst C dX9_readTrain_18 ?_
    refine z_callV C dX9_readTrain_19 lk_X9_231 mw_X9_check mi_X9_check ms_X9_check rfl (by first | assumption | ((repeat (first | assumption | exact va_up_self _ _ _ | refine (va_up_ne _ _ (by first | assumption | exact hA.ne (by decide) | exact hA.ne (by omega))).trans ?_)); done)) (k_X9_check hA hO2 (r := 0) (what := 1) (by omega) (by omega) h2.c) rfl (by first | decide | exact Nat.le_of_ble_eq_true rfl) ⟨by decide, by decide, by decide, by decide⟩ (fun _ _ h => False.elim h) (fun v M' hp => ?_)
    obtain ⟨b17, rfl, f17, a17⟩ := hp
    refine z_pop C dX9_readTrain_22 rfl ?_
    rw [if_pos (by omega)] at hq
    exact e23 _ _ _ _ _ (h2.no hA f17 a17 (by omega) hq.symm)
  · refine z_iconst C dX9_readTrain_13 ?_
    refine z_goto (tgt := 18) C dX9_readTrain_14 (by decide) ?_
    refine z_iconst C dX9_readTrain_18 ?_
    refine z_callV C dX9_readTrain_19 lk_X9_231 mw_X9_check mi_X9_check ms_X9_check rfl (by first | assumption | ((repeat (first | assumption | exact va_up_self _ _ _ | refine (va_up_ne _ _ (by first | assumption | exact hA.ne (by decide) | exact hA.ne (by omega))).trans ?_)); done)) (k_X9_check hA hO2 (r := 1) (what := 1) (by omega) (by omega) h2.c) rfl (by first | decide | exact Nat.le_of_ble_eq_true rfl) ⟨by decide, by decide, by decide, by decide⟩ (fun _ _ h => False.elim h) (fun v M' hp => ?_)
    obtain ⟨b17, rfl, f17, a17⟩ := hp
    refine z_pop C dX9_readTrain_22 rfl ?_
    rw [if_neg (by omega)] at hq
    exact g23 _ F2 _ _ _ (by omega) hq (h2.ok hA f17 a17)

