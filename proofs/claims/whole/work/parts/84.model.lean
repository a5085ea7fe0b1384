/-! the model's parser: a reader's statement -/
theorem zWj_of : zWj 1 ∧ zWj 2 ∧ zWj 3 ∧ zWj 4 ∧ zWj 5 ∧ zWj 6 ∧ zWj 7 := by
  unfold zWj zLet
  decide +kernel
set_option maxHeartbeats 4000000 in
set_option maxRecDepth 100000 in
theorem k_X9_readReader {l : Launch} {γ : zG} {M : zM} {A : Nat → Nat} {F f g : Nat → Int} {n e0 : Int} {S0 : zSt} (hA : mIA A) (hP : mPs γ M A F f n e0) (h25 : F 25 = 0) (h26 : F 26 = -1) (hM : M (A 2) = some (zar γ 5987 g)) (hS : mSt g S0) (hO : zOk S0) :
    zCon l γ yX9_readReader cX9_readReader 3 none [.ref (A 0)] M 6 128 0 0 (fun v' M' => v' = none ∧ mSP γ A M M' F f n (zpR f n S0 e0)) (fun _ _ => False) := by
  have o1 := hO.1
  have hg := hS.1
  have hB := hP.2.2.2.1
  have r0 := hP.2.2.2.2.1
  have bb := hB.1
  have g2 : g (2 : Int).toNat = sRn S0 := hS.2.2.2.1
  obtain ⟨w1, w2, w3, w4, w5, w6, w7⟩ := zWj_of
  generalize hq : zpR f n S0 e0 = q
  have hq0 := hq
  unfold zpR at hq
  have E0 := ztS_rng (f := f) r0
  have E1 := ztE_rng hB r0
  generalize he1 : ztE f n e0 = e1 at *
  have S1 := ztS_rng (f := f) (e := e1) (n := n) (by omega)
  have E2 := ztE_rng (e := e1) hB (by omega)
  generalize he2 : ztE f n e1 = e2 at *
  have S2 := ztS_rng (f := f) (e := e2) (n := n) (by omega)
  have E3 := ztE_rng (e := e2) hB (by omega)
  generalize he3 : ztE f n e2 = e3 at *
  have rn1 : ∀ M1, mF A M M1 [0] → M1 (A 2) = some (zar γ 5987 g) := fun M1 h => h.at hA (.of rfl) hM
  refine zEnter [some (.ref (A 0)), none, none] (by decide +kernel) rfl rfl (Nat.le_of_ble_eq_true rfl) ?_
  intro p e s m args below meth c Q C hin hQ
  have e183 : ∀ (M1 : zM) (F1 : Nat → Int) (x1 x2 : Option Value), mES γ A M M1 F F1 f n q → zAW p l e { frames := 6, cells := 0, slots := 0, locals := 128 } s m args below meth c γ 3 Q M1 0 0 183 [some (.ref (A 0)), x1, x2] [] := by
    intro M1 F1 x1 x2 h
    have n0 := h.n0
    have rc := h.c
    obtain ⟨z1, z2, z3, z4, z5, y1, z6⟩ := id h
    have hO1 := z6.1
    refine z_aload_n C dX9_readReader_183 rfl ?_
    refine z_getM C dX9_readReader_184 fl_X9_199 (by first | assumption | ((repeat (first | assumption | exact va_up_self _ _ _ | refine (va_up_ne _ _ (by first | assumption | exact hA.ne (by decide) | exact hA.ne (by omega))).trans ?_)); done)) rfl rfl ?_
    refine z_if_neZ (tgt := 207) C dX9_readReader_187 (by decide) (by omega) (fun h187 => ?_) (fun h187 => ?_)
    · refine z_vret C hQ dX9_readReader_207 (by decide) (by decide) ?_
      exact ⟨rfl, h.sp hA hM hg⟩
    · exact absurd h187 n0
  have e175 : ∀ (M1 : zM) (F1 : Nat → Int) (x1 x2 : Option Value), mES γ A M M1 F F1 f n q → zAW p l e { frames := 6, cells := 0, slots := 0, locals := 128 } s m args below meth c γ 3 Q M1 0 0 175 [some (.ref (A 0)), x1, x2] [] := by
    intro M1 F1 x1 x2 h
    obtain ⟨z1, z2, z3, z4, z5, y1, z6⟩ := id h
    have hO1 := z6.1
    refine z_aload_n C dX9_readReader_175 rfl ?_
    refine z_callV C dX9_readReader_176 lk_X9_234 mw_X9_next mi_X9_next ms_X9_next rfl (by first | assumption | ((repeat (first | assumption | exact va_up_self _ _ _ | refine (va_up_ne _ _ (by first | assumption | exact hA.ne (by decide) | exact hA.ne (by omega))).trans ?_)); done)) (k_X9_next hA z6 h.c) rfl (by first | decide | exact Nat.le_of_ble_eq_true rfl) ⟨by decide, by decide, by decide, by decide⟩ (fun _ _ h => False.elim h) (fun v M' hp => ?_)
    obtain ⟨rfl, f176, F2, p176, c176⟩ := hp
    have h2 := h.nx f176 p176 c176
    obtain ⟨a1, a2, a3, a4, a5, y2, a6⟩ := id h2
    have hO2 := a6.1
    refine z_aload_n C dX9_readReader_179 rfl ?_
    refine z_callV C dX9_readReader_180 lk_X9_253 mw_X9_finish mi_X9_finish ms_X9_finish rfl (by first | assumption | ((repeat (first | assumption | exact va_up_self _ _ _ | refine (va_up_ne _ _ (by first | assumption | exact hA.ne (by decide) | exact hA.ne (by omega))).trans ?_)); done)) (k_X9_finish hA a6 h2.c) rfl (by first | decide | exact Nat.le_of_ble_eq_true rfl) ⟨by decide, by decide, by decide, by decide⟩ (fun _ _ h => False.elim h) (fun v M' hp => ?_)
    obtain ⟨rfl, f180, F3, p180, c180⟩ := hp
    exact e183 _ F3 x1 x2 (h2.fn f180 p180 c180)
  have e159 : ∀ (M1 : zM) (F1 : Nat → Int) (x1 : Option Value) (me : Int), (-1 ≤ me ∧ me ≤ 2) → mES γ A M M1 F F1 f n q → zAW p l e { frames := 6, cells := 0, slots := 0, locals := 128 } s m args below meth c γ 3 Q M1 0 0 159 [some (.ref (A 0)), x1, some (.int (zi me))] [] := by
    intro M1 F1 x1 me rm h
    obtain ⟨z1, z2, z3, z4, z5, y1, z6⟩ := id h
    have hO1 := z6.1
    refine z_aload_n C dX9_readReader_159 rfl ?_
    refine z_iload_n C dX9_readReader_160 rfl ?_
    refine z_iconst C dX9_readReader_161 ?_
    refine z_icmp_eqZ (tgt := 169) C dX9_readReader_162 (by decide) (by omega) (by omega) (fun h162 => ?_) (fun h162 => ?_)
    · refine z_iconst C dX9_readReader_169 ?_
      refine z_iconst C dX9_readReader_170 ?_
      refine z_callV C dX9_readReader_171 lk_X9_231 mw_X9_check mi_X9_check ms_X9_check rfl (by first | assumption | ((repeat (first | assumption | exact va_up_self _ _ _ | refine (va_up_ne _ _ (by first | assumption | exact hA.ne (by decide) | exact hA.ne (by omega))).trans ?_)); done)) (k_X9_check hA hO1 (r := 0) (what := 1) (by omega) (by omega) h.c) rfl (by first | decide | exact Nat.le_of_ble_eq_true rfl) ⟨by decide, by decide, by decide, by decide⟩ (fun _ _ h => False.elim h) (fun v M' hp => ?_)
      obtain ⟨b171, rfl, f171, a171⟩ := hp
      refine z_pop C dX9_readReader_174 rfl ?_
      exact e175 _ F1 _ _ (h.ck hA f171 a171)
    · refine z_iconst C dX9_readReader_165 ?_
      refine z_goto (tgt := 170) C dX9_readReader_166 (by decide) ?_
      refine z_iconst C dX9_readReader_170 ?_
      refine z_callV C dX9_readReader_171 lk_X9_231 mw_X9_check mi_X9_check ms_X9_check rfl (by first | assumption | ((repeat (first | assumption | exact va_up_self _ _ _ | refine (va_up_ne _ _ (by first | assumption | exact hA.ne (by decide) | exact hA.ne (by omega))).trans ?_)); done)) (k_X9_check hA hO1 (r := 1) (what := 1) (by omega) (by omega) h.c) rfl (by first | decide | exact Nat.le_of_ble_eq_true rfl) ⟨by decide, by decide, by decide, by decide⟩ (fun _ _ h => False.elim h) (fun v M' hp => ?_)
      obtain ⟨b171, rfl, f171, a171⟩ := hp
      refine z_pop C dX9_readReader_174 rfl ?_
      exact e175 _ F1 _ _ (h.ck hA f171 a171)
  have e118 : ∀ (M1 : zM) (F1 : Nat → Int) (x1 x2 : Option Value), mES γ A M M1 F F1 f n q → zAW p l e { frames := 6, cells := 0, slots := 0, locals := 128 } s m args below meth c γ 3 Q M1 0 0 118 [some (.ref (A 0)), x1, x2] [] := by
    intro M1 F1 x1 x2 h
    obtain ⟨z1, z2, z3, z4, z5, y1, z6⟩ := id h
    have hO1 := z6.1
    have is := fun j (hj : zWj j) => @k_X9_is l γ M1 A F1 f n y1 j z6.1 z6.2.1 hB z6.2.2.2.2.1 z6.2.2.2.2.2 hj
    refine z_aload_n C dX9_readReader_118 rfl ?_
    refine z_ldcS (i := 32) C rfl dX9_readReader_119 ?_
    refine z_callV C dX9_readReader_121 lk_X9_245 mw_X9_is mi_X9_is ms_X9_is rfl (by first | assumption | ((repeat (first | assumption | exact va_up_self _ _ _ | refine (va_up_ne _ _ (by first | assumption | exact hA.ne (by decide) | exact hA.ne (by omega))).trans ?_)); done)) (is 2 w2) rfl (by first | decide | exact Nat.le_of_ble_eq_true rfl) ⟨by decide, by decide, by decide, by decide⟩ (fun _ _ h => False.elim h) (fun v M' hp => ?_)
    obtain ⟨r121, rfl, rfl, q121⟩ := hp
    have s121 := q121.rng
    refine z_if_eqZ (tgt := 131) C dX9_readReader_124 (by decide) (by omega) (fun h124 => ?_) (fun h124 => ?_)
    · refine z_aload_n C dX9_readReader_131 rfl ?_
      refine z_ldcS (i := 33) C rfl dX9_readReader_132 ?_
      refine z_callV C dX9_readReader_134 lk_X9_245 mw_X9_is mi_X9_is ms_X9_is rfl (by first | assumption | ((repeat (first | assumption | exact va_up_self _ _ _ | refine (va_up_ne _ _ (by first | assumption | exact hA.ne (by decide) | exact hA.ne (by omega))).trans ?_)); done)) (is 3 w3) rfl (by first | decide | exact Nat.le_of_ble_eq_true rfl) ⟨by decide, by decide, by decide, by decide⟩ (fun _ _ h => False.elim h) (fun v M' hp => ?_)
      obtain ⟨r134, rfl, rfl, q134⟩ := hp
      have s134 := q134.rng
      refine z_if_eqZ (tgt := 144) C dX9_readReader_137 (by decide) (by omega) (fun h137 => ?_) (fun h137 => ?_)
      · refine z_aload_n C dX9_readReader_144 rfl ?_
        refine z_ldcS (i := 34) C rfl dX9_readReader_145 ?_
        refine z_callV C dX9_readReader_147 lk_X9_245 mw_X9_is mi_X9_is ms_X9_is rfl (by first | assumption | ((repeat (first | assumption | exact va_up_self _ _ _ | refine (va_up_ne _ _ (by first | assumption | exact hA.ne (by decide) | exact hA.ne (by omega))).trans ?_)); done)) (is 4 w4) rfl (by first | decide | exact Nat.le_of_ble_eq_true rfl) ⟨by decide, by decide, by decide, by decide⟩ (fun _ _ h => False.elim h) (fun v M' hp => ?_)
        obtain ⟨r147, rfl, rfl, q147⟩ := hp
        have s147 := q147.rng
        refine z_if_eqZ (tgt := 157) C dX9_readReader_150 (by decide) (by omega) (fun h150 => ?_) (fun h150 => ?_)
        · refine z_iconst C dX9_readReader_157 ?_
          refine z_istore_n C dX9_readReader_158 (by decide) ?_
          exact e159 _ F1 _ (-1) (by omega) h
        · refine z_iconst C dX9_readReader_153 ?_
          refine z_goto (tgt := 158) C dX9_readReader_154 (by decide) ?_
          refine z_istore_n C dX9_readReader_158 (by decide) ?_
          exact e159 _ F1 _ 2 (by omega) h
      · refine z_iconst C dX9_readReader_140 ?_
        refine z_goto (tgt := 158) C dX9_readReader_141 (by decide) ?_
        refine z_istore_n C dX9_readReader_158 (by decide) ?_
        exact e159 _ F1 _ 1 (by omega) h
    · refine z_iconst C dX9_readReader_127 ?_
      refine z_goto (tgt := 158) C dX9_readReader_128 (by decide) ?_
      refine z_istore_n C dX9_readReader_158 (by decide) ?_
      exact e159 _ F1 _ 0 (by omega) h
  have e114 : ∀ (M1 : zM) (F1 : Nat → Int) (x1 x2 : Option Value), mES γ A M M1 F F1 f n q → zAW p l e { frames := 6, cells := 0, slots := 0, locals := 128 } s m args below meth c γ 3 Q M1 0 0 114 [some (.ref (A 0)), x1, x2] [] := by
    intro M1 F1 x1 x2 h
    obtain ⟨z1, z2, z3, z4, z5, y1, z6⟩ := id h
    have hO1 := z6.1
    refine z_aload_n C dX9_readReader_114 rfl ?_
    refine z_callV C dX9_readReader_115 lk_X9_234 mw_X9_next mi_X9_next ms_X9_next rfl (by first | assumption | ((repeat (first | assumption | exact va_up_self _ _ _ | refine (va_up_ne _ _ (by first | assumption | exact hA.ne (by decide) | exact hA.ne (by omega))).trans ?_)); done)) (k_X9_next hA z6 h.c) rfl (by first | decide | exact Nat.le_of_ble_eq_true rfl) ⟨by decide, by decide, by decide, by decide⟩ (fun _ _ h => False.elim h) (fun v M' hp => ?_)
    obtain ⟨rfl, f115, F2, p115, c115⟩ := hp
    exact e118 _ F2 _ _ (h.nx f115 p115 c115)
  have e84 : ∀ (M1 : zM) (F1 : Nat → Int) (x1 x2 : Option Value), mES γ A M M1 F F1 f n q → zAW p l e { frames := 6, cells := 0, slots := 0, locals := 128 } s m args below meth c γ 3 Q M1 0 0 84 [some (.ref (A 0)), x1, x2] [] := by
    intro M1 F1 x1 x2 h
    have n0 := h.n0
    have rc := h.c
    obtain ⟨z1, z2, z3, z4, z5, y1, z6⟩ := id h
    have hO1 := z6.1
    refine z_aload_n C dX9_readReader_84 rfl ?_
    refine z_aload_n C dX9_readReader_85 rfl ?_
    refine z_getM C dX9_readReader_86 fl_X9_199 (by first | assumption | ((repeat (first | assumption | exact va_up_self _ _ _ | refine (va_up_ne _ _ (by first | assumption | exact hA.ne (by decide) | exact hA.ne (by omega))).trans ?_)); done)) rfl rfl ?_
    refine z_if_neZ (tgt := 104) C dX9_readReader_89 (by decide) (by omega) (fun h89 => ?_) (fun h89 => ?_)
    · refine z_iconst C dX9_readReader_104 ?_
      refine z_goto (tgt := 109) C dX9_readReader_105 (by decide) ?_
      refine z_iconst C dX9_readReader_109 ?_
      refine z_callV C dX9_readReader_110 lk_X9_231 mw_X9_check mi_X9_check ms_X9_check rfl (by first | assumption | ((repeat (first | assumption | exact va_up_self _ _ _ | refine (va_up_ne _ _ (by first | assumption | exact hA.ne (by decide) | exact hA.ne (by omega))).trans ?_)); done)) (k_X9_check hA hO1 (r := 1) (what := 3) (by omega) (by omega) h.c) rfl (by first | decide | exact Nat.le_of_ble_eq_true rfl) ⟨by decide, by decide, by decide, by decide⟩ (fun _ _ h => False.elim h) (fun v M' hp => ?_)
      obtain ⟨b110, rfl, f110, a110⟩ := hp
      refine z_pop C dX9_readReader_113 rfl ?_
      exact e114 _ F1 _ _ (h.ck hA f110 a110)
    · exact absurd h89 n0
  have e68 : ∀ (M1 : zM) (F1 : Nat → Int) (v : Int) (x2 : Option Value), (-1 ≤ v ∧ v ≤ 531440) → mES γ A M M1 F F1 f n q → zAW p l e { frames := 6, cells := 0, slots := 0, locals := 128 } s m args below meth c γ 3 Q M1 0 0 68 [some (.ref (A 0)), some (.int (zi v)), x2] [] := by
    intro M1 F1 v x2 rv h
    obtain ⟨z1, z2, z3, z4, z5, y1, z6⟩ := id h
    have hO1 := z6.1
    refine z_aload_n C dX9_readReader_68 rfl ?_
    refine z_iload_n C dX9_readReader_69 rfl ?_
    refine z_iconst C dX9_readReader_70 ?_
    refine z_icmp_eqZ (tgt := 78) C dX9_readReader_71 (by decide) (by omega) (by omega) (fun h71 => ?_) (fun h71 => ?_)
    · refine z_iconst C dX9_readReader_78 ?_
      refine z_iconst C dX9_readReader_79 ?_
      refine z_callV C dX9_readReader_80 lk_X9_231 mw_X9_check mi_X9_check ms_X9_check rfl (by first | assumption | ((repeat (first | assumption | exact va_up_self _ _ _ | refine (va_up_ne _ _ (by first | assumption | exact hA.ne (by decide) | exact hA.ne (by omega))).trans ?_)); done)) (k_X9_check hA hO1 (r := 0) (what := 2) (by omega) (by omega) h.c) rfl (by first | decide | exact Nat.le_of_ble_eq_true rfl) ⟨by decide, by decide, by decide, by decide⟩ (fun _ _ h => False.elim h) (fun v M' hp => ?_)
      obtain ⟨b80, rfl, f80, a80⟩ := hp
      refine z_pop C dX9_readReader_83 rfl ?_
      exact e84 _ F1 _ _ (h.ck hA f80 a80)
    · refine z_iconst C dX9_readReader_74 ?_
      refine z_goto (tgt := 79) C dX9_readReader_75 (by decide) ?_
      refine z_iconst C dX9_readReader_79 ?_
      refine z_callV C dX9_readReader_80 lk_X9_231 mw_X9_check mi_X9_check ms_X9_check rfl (by first | assumption | ((repeat (first | assumption | exact va_up_self _ _ _ | refine (va_up_ne _ _ (by first | assumption | exact hA.ne (by decide) | exact hA.ne (by omega))).trans ?_)); done)) (k_X9_check hA hO1 (r := 1) (what := 2) (by omega) (by omega) h.c) rfl (by first | decide | exact Nat.le_of_ble_eq_true rfl) ⟨by decide, by decide, by decide, by decide⟩ (fun _ _ h => False.elim h) (fun v M' hp => ?_)
      obtain ⟨b80, rfl, f80, a80⟩ := hp
      refine z_pop C dX9_readReader_83 rfl ?_
      exact e84 _ F1 _ _ (h.ck hA f80 a80)
  have e44 : ∀ (M1 : zM) (F1 : Nat → Int) (x1 x2 : Option Value), mES γ A M M1 F F1 f n q → zAW p l e { frames := 6, cells := 0, slots := 0, locals := 128 } s m args below meth c γ 3 Q M1 0 0 44 [some (.ref (A 0)), x1, x2] [] := by
    intro M1 F1 x1 x2 h
    have n0 := h.n0
    have rc := h.c
    obtain ⟨z1, z2, z3, z4, z5, y1, z6⟩ := id h
    have hO1 := z6.1
    refine z_aload_n C dX9_readReader_44 rfl ?_
    refine z_getM C dX9_readReader_45 fl_X9_199 (by first | assumption | ((repeat (first | assumption | exact va_up_self _ _ _ | refine (va_up_ne _ _ (by first | assumption | exact hA.ne (by decide) | exact hA.ne (by omega))).trans ?_)); done)) rfl rfl ?_
    refine z_if_neZ (tgt := 66) C dX9_readReader_48 (by decide) (by omega) (fun h48 => ?_) (fun h48 => ?_)
    · refine z_iconst C dX9_readReader_66 ?_
      refine z_istore_n C dX9_readReader_67 (by decide) ?_
      exact e68 _ F1 (-1) _ (by omega) h
    · exact absurd h48 n0
  have e21 : ∀ (M1 : zM) (F1 : Nat → Int) (x1 x2 : Option Value), mES γ A M M1 F F1 f n q → zAW p l e { frames := 6, cells := 0, slots := 0, locals := 128 } s m args below meth c γ 3 Q M1 0 0 21 [some (.ref (A 0)), x1, x2] [] := by
    intro M1 F1 x1 x2 h
    obtain ⟨z1, z2, z3, z4, z5, y1, z6⟩ := id h
    have hO1 := z6.1
    refine z_aload_n C dX9_readReader_21 rfl ?_
    refine z_callV C dX9_readReader_22 lk_X9_234 mw_X9_next mi_X9_next ms_X9_next rfl (by first | assumption | ((repeat (first | assumption | exact va_up_self _ _ _ | refine (va_up_ne _ _ (by first | assumption | exact hA.ne (by decide) | exact hA.ne (by omega))).trans ?_)); done)) (k_X9_next hA z6 h.c) rfl (by first | decide | exact Nat.le_of_ble_eq_true rfl) ⟨by decide, by decide, by decide, by decide⟩ (fun _ _ h => False.elim h) (fun v M' hp => ?_)
    obtain ⟨rfl, f22, F2, p22, c22⟩ := hp
    have h2 := h.nx f22 p22 c22
    obtain ⟨a1, a2, a3, a4, a5, y2, a6⟩ := id h2
    have hO2 := a6.1
    have t22 := a6.2.2.2.2.2.2.2.1
    have rk := mtk_3 (ztK_rng f n y2)
    refine z_aload_n C dX9_readReader_25 rfl ?_
    refine z_aload_n C dX9_readReader_26 rfl ?_
    refine z_getM C dX9_readReader_27 fl_X9_221 (by first | assumption | ((repeat (first | assumption | exact va_up_self _ _ _ | refine (va_up_ne _ _ (by first | assumption | exact hA.ne (by decide) | exact hA.ne (by omega))).trans ?_)); done)) rfl t22 ?_
    refine z_iconst C dX9_readReader_30 ?_
    refine z_icmp_neZ (tgt := 38) C dX9_readReader_31 (by decide) (by omega) (by omega) (fun h31 => ?_) (fun h31 => ?_)
    · refine z_iconst C dX9_readReader_38 ?_
      refine z_iconst C dX9_readReader_39 ?_
      refine z_callV C dX9_readReader_40 lk_X9_231 mw_X9_check mi_X9_check ms_X9_check rfl (by first | assumption | ((repeat (first | assumption | exact va_up_self _ _ _ | refine (va_up_ne _ _ (by first | assumption | exact hA.ne (by decide) | exact hA.ne (by omega))).trans ?_)); done)) (k_X9_check hA hO2 (r := 0) (what := 1) (by omega) (by omega) h2.c) rfl (by first | decide | exact Nat.le_of_ble_eq_true rfl) ⟨by decide, by decide, by decide, by decide⟩ (fun _ _ h => False.elim h) (fun v M' hp => ?_)
      obtain ⟨b40, rfl, f40, a40⟩ := hp
      refine z_pop C dX9_readReader_43 rfl ?_
      exact e44 _ F2 _ _ (h2.ck hA f40 a40)
    · refine z_iconst C dX9_readReader_34 ?_
      refine z_goto (tgt := 39) C dX9_readReader_35 (by decide) ?_
      refine z_iconst C dX9_readReader_39 ?_
      refine z_callV C dX9_readReader_40 lk_X9_231 mw_X9_check mi_X9_check ms_X9_check rfl (by first | assumption | ((repeat (first | assumption | exact va_up_self _ _ _ | refine (va_up_ne _ _ (by first | assumption | exact hA.ne (by decide) | exact hA.ne (by omega))).trans ?_)); done)) (k_X9_check hA hO2 (r := 1) (what := 1) (by omega) (by omega) h2.c) rfl (by first | decide | exact Nat.le_of_ble_eq_true rfl) ⟨by decide, by decide, by decide, by decide⟩ (fun _ _ h => False.elim h) (fun v M' hp => ?_)
      obtain ⟨b40, rfl, f40, a40⟩ := hp
      refine z_pop C dX9_readReader_43 rfl ?_
      exact e44 _ F2 _ _ (h2.ck hA f40 a40)
  have g183 : ∀ (M1 : zM) (F1 : Nat → Int) (v me : Int), sRn S0 < 4 → mNv f n (ztS f n e1) (e2 - ztS f n e1) → v = mNf (fun j => hAt f n (ztS f n e1 + j)) (e2 - ztS f n e1) 4 → (0 ≤ v ∧ v ≤ 531440) → (0 ≤ me ∧ me ≤ 2) → (0, -1, sAddR S0 (rNew f n (ztS f n e1) e2 me), ztE f n e3) = q → mGS γ A M M1 F F1 f n (ztE f n e3) → zAW p l e { frames := 6, cells := 0, slots := 0, locals := 128 } s m args below meth c γ 3 Q M1 0 0 183 [some (.ref (A 0)), some (.int (zi v)), some (.int (zi me))] [] := by
    intro M1 F1 v me hn4 hnv hv rv rm hq h
    obtain ⟨z1, z2, z3, z4, z6⟩ := id h
    have hO1 := z6.1
    have hM1 := rn1 M1 z1
    refine z_aload_n C dX9_readReader_183 rfl ?_
    refine z_getM C dX9_readReader_184 fl_X9_199 (by first | assumption | ((repeat (first | assumption | exact va_up_self _ _ _ | refine (va_up_ne _ _ (by first | assumption | exact hA.ne (by decide) | exact hA.ne (by omega))).trans ?_)); done)) rfl z3 ?_
    refine z_if_neZ (tgt := 207) C dX9_readReader_187 (by decide) (by omega) (fun h187 => ?_) (fun h187 => ?_)
    · exact absurd rfl h187
    · refine z_aload_n C dX9_readReader_190 rfl ?_
      refine z_get C dX9_readReader_191 fl_X9_13 (by first | assumption | ((repeat (first | assumption | exact va_up_self _ _ _ | refine (va_up_ne _ _ (by first | assumption | exact hA.ne (by decide) | exact hA.ne (by omega))).trans ?_)); done)) rfl ?_
      refine z_iload_n C dX9_readReader_194 rfl ?_
      refine z_iload_n C dX9_readReader_195 rfl ?_
      refine z_callS C dX9_readReader_196 lk_X9_256 mw_X9_layReader mst_X9_layReader (k_X9_layReader hM1 hS hO hn4 rv rm (R0 := rNew f n (ztS f n e1) e2 me) hv.symm rfl rfl rfl rfl) rfl (by first | decide | exact Nat.le_of_ble_eq_true rfl) ⟨by decide, by decide, by decide, by decide⟩ (fun _ _ h => False.elim h) (fun v M' hp => ?_)
      obtain ⟨rfl, f196, g', a196, s196⟩ := hp
      refine z_if_geZ (tgt := 207) C dX9_readReader_199 (by decide) (by omega) (fun h199 => ?_) (fun h199 => ?_)
      · refine z_vret C hQ dX9_readReader_207 (by decide) (by decide) ?_
        exact ⟨rfl, h.sp hA (f196 : mF A M1 _ [2]) a196 (by rw [← hq]) (by rw [← hq]) (by rw [← hq]; exact s196)⟩
      · exact absurd h199 (by omega)
  have g175 : ∀ (M1 : zM) (F1 : Nat → Int) (v me : Int), sRn S0 < 4 → mNv f n (ztS f n e1) (e2 - ztS f n e1) → v = mNf (fun j => hAt f n (ztS f n e1 + j)) (e2 - ztS f n e1) 4 → (0 ≤ v ∧ v ≤ 531440) → (0 ≤ me ∧ me ≤ 2) → (if hAt f n (ztS f n e3) = 59 then (0, -1, sAddR S0 (rNew f n (ztS f n e1) e2 me), ztE f n e3) else (1, ztS f n e3, S0, e0)) = q → mGS γ A M M1 F F1 f n e2 → zAW p l e { frames := 6, cells := 0, slots := 0, locals := 128 } s m args below meth c γ 3 Q M1 0 0 175 [some (.ref (A 0)), some (.int (zi v)), some (.int (zi me))] [] := by
    intro M1 F1 v me hn4 hnv hv rv rm hq h
    obtain ⟨z1, z2, z3, z4, z6⟩ := id h
    have hO1 := z6.1
    refine z_aload_n C dX9_readReader_175 rfl ?_
    refine z_callV C dX9_readReader_176 lk_X9_234 mw_X9_next mi_X9_next ms_X9_next rfl (by first | assumption | ((repeat (first | assumption | exact va_up_self _ _ _ | refine (va_up_ne _ _ (by first | assumption | exact hA.ne (by decide) | exact hA.ne (by omega))).trans ?_)); done)) (k_X9_next hA z6 h.c) rfl (by first | decide | exact Nat.le_of_ble_eq_true rfl) ⟨by decide, by decide, by decide, by decide⟩ (fun _ _ h => False.elim h) (fun v M' hp => ?_)
    obtain ⟨rfl, f176, F2, p176, c176⟩ := hp
    have h2 := h.nx f176 p176 c176
    rw [he3] at h2
    obtain ⟨a1, a2, a3, a4, a6⟩ := id h2
    have hO2 := a6.1
    refine z_aload_n C dX9_readReader_179 rfl ?_
    refine z_callV C dX9_readReader_180 lk_X9_253 mw_X9_finish mi_X9_finish ms_X9_finish rfl (by first | assumption | ((repeat (first | assumption | exact va_up_self _ _ _ | refine (va_up_ne _ _ (by first | assumption | exact hA.ne (by decide) | exact hA.ne (by omega))).trans ?_)); done)) (k_X9_finish hA a6 h2.c) rfl (by first | decide | exact Nat.le_of_ble_eq_true rfl) ⟨by decide, by decide, by decide, by decide⟩ (fun _ _ h => False.elim h) (fun v M' hp => ?_)
    obtain ⟨rfl, f180, F3, p180, c180⟩ := hp
    rcases h2.fn (q := q) (S := S0) (e := e0) f180 p180 c180 (fun w => by rw [if_neg w] at hq; exact hq.symm) with ⟨c1, c2⟩ | ⟨c1, c2⟩
    · rw [if_pos c1] at hq
      exact g183 _ F3 v me hn4 hnv hv rv rm hq c2
    · exact e183 _ F3 _ _ c2
  have g159 : ∀ (M1 : zM) (F1 : Nat → Int) (v me : Int), sRn S0 < 4 → mNv f n (ztS f n e1) (e2 - ztS f n e1) → v = mNf (fun j => hAt f n (ztS f n e1 + j)) (e2 - ztS f n e1) 4 → (0 ≤ v ∧ v ≤ 531440) → me = zMw f n (ztS f n e2) e3 → zpR3 f n S0 e0 e1 e2 e3 = q → mGS γ A M M1 F F1 f n e2 → zAW p l e { frames := 6, cells := 0, slots := 0, locals := 128 } s m args below meth c γ 3 Q M1 0 0 159 [some (.ref (A 0)), some (.int (zi v)), some (.int (zi me))] [] := by
    intro M1 F1 v me hn4 hnv hv rv hme hq h
    obtain ⟨z1, z2, z3, z4, z6⟩ := id h
    have hO1 := z6.1
    have rm := zMw_rng f n (ztS f n e2) e3
    rw [← hme] at rm
    unfold zpR3 at hq
    rw [← hme] at hq
    refine z_aload_n C dX9_readReader_159 rfl ?_
    refine z_iload_n C dX9_readReader_160 rfl ?_
    refine z_iconst C dX9_readReader_161 ?_
    refine z_icmp_eqZ (tgt := 169) C dX9_readReader_162 (by decide) (by omega) (by omega) (fun h162 => ?_) (fun h162 => ?_)
    · refine z_iconst C dX9_readReader_169 ?_
      refine z_iconst C dX9_readReader_170 ?_
      refine z_callV C dX9_readReader_171 lk_X9_231 mw_X9_check mi_X9_check ms_X9_check rfl (by first | assumption | ((repeat (first | assumption | exact va_up_self _ _ _ | refine (va_up_ne _ _ (by first | assumption | exact hA.ne (by decide) | exact hA.ne (by omega))).trans ?_)); done)) (k_X9_check hA hO1 (r := 0) (what := 1) (by omega) (by omega) h.c) rfl (by first | decide | exact Nat.le_of_ble_eq_true rfl) ⟨by decide, by decide, by decide, by decide⟩ (fun _ _ h => False.elim h) (fun v M' hp => ?_)
      obtain ⟨b171, rfl, f171, a171⟩ := hp
      refine z_pop C dX9_readReader_174 rfl ?_
      rw [if_pos (by omega)] at hq
      exact e175 _ _ _ _ (h.no hA f171 a171 (by omega) hq.symm)
    · refine z_iconst C dX9_readReader_165 ?_
      refine z_goto (tgt := 170) C dX9_readReader_166 (by decide) ?_
      refine z_iconst C dX9_readReader_170 ?_
      refine z_callV C dX9_readReader_171 lk_X9_231 mw_X9_check mi_X9_check ms_X9_check rfl (by first | assumption | ((repeat (first | assumption | exact va_up_self _ _ _ | refine (va_up_ne _ _ (by first | assumption | exact hA.ne (by decide) | exact hA.ne (by omega))).trans ?_)); done)) (k_X9_check hA hO1 (r := 1) (what := 1) (by omega) (by omega) h.c) rfl (by first | decide | exact Nat.le_of_ble_eq_true rfl) ⟨by decide, by decide, by decide, by decide⟩ (fun _ _ h => False.elim h) (fun v M' hp => ?_)
      obtain ⟨b171, rfl, f171, a171⟩ := hp
      refine z_pop C dX9_readReader_174 rfl ?_
      rw [if_neg (by omega)] at hq
      exact g175 _ F1 v me hn4 hnv hv rv (by omega) hq (h.ok hA f171 a171)
  have g118 : ∀ (M1 : zM) (F1 : Nat → Int) (v : Int) (x2 : Option Value), sRn S0 < 4 → mNv f n (ztS f n e1) (e2 - ztS f n e1) → v = mNf (fun j => hAt f n (ztS f n e1 + j)) (e2 - ztS f n e1) 4 → (0 ≤ v ∧ v ≤ 531440) → zpR3 f n S0 e0 e1 e2 e3 = q → mGS γ A M M1 F F1 f n e2 → zAW p l e { frames := 6, cells := 0, slots := 0, locals := 128 } s m args below meth c γ 3 Q M1 0 0 118 [some (.ref (A 0)), some (.int (zi v)), x2] [] := by
    intro M1 F1 v x2 hn4 hnv hv rv hq h
    obtain ⟨z1, z2, z3, z4, z6⟩ := id h
    have hO1 := z6.1
    have is := fun j (hj : zWj j) => @k_X9_is l γ M1 A F1 f n e2 j z6.1 z6.2.1 hB z6.2.2.2.2.1 z6.2.2.2.2.2 hj
    rw [he3] at is
    refine z_aload_n C dX9_readReader_118 rfl ?_
    refine z_ldcS (i := 32) C rfl dX9_readReader_119 ?_
    refine z_callV C dX9_readReader_121 lk_X9_245 mw_X9_is mi_X9_is ms_X9_is rfl (by first | assumption | ((repeat (first | assumption | exact va_up_self _ _ _ | refine (va_up_ne _ _ (by first | assumption | exact hA.ne (by decide) | exact hA.ne (by omega))).trans ?_)); done)) (is 2 w2) rfl (by first | decide | exact Nat.le_of_ble_eq_true rfl) ⟨by decide, by decide, by decide, by decide⟩ (fun _ _ h => False.elim h) (fun v M' hp => ?_)
    obtain ⟨r121, rfl, rfl, q121⟩ := hp
    have s121 := q121.rng
    refine z_if_eqZ (tgt := 131) C dX9_readReader_124 (by decide) (by omega) (fun h124 => ?_) (fun h124 => ?_)
    · refine z_aload_n C dX9_readReader_131 rfl ?_
      refine z_ldcS (i := 33) C rfl dX9_readReader_132 ?_
      refine z_callV C dX9_readReader_134 lk_X9_245 mw_X9_is mi_X9_is ms_X9_is rfl (by first | assumption | ((repeat (first | assumption | exact va_up_self _ _ _ | refine (va_up_ne _ _ (by first | assumption | exact hA.ne (by decide) | exact hA.ne (by omega))).trans ?_)); done)) (is 3 w3) rfl (by first | decide | exact Nat.le_of_ble_eq_true rfl) ⟨by decide, by decide, by decide, by decide⟩ (fun _ _ h => False.elim h) (fun v M' hp => ?_)
      obtain ⟨r134, rfl, rfl, q134⟩ := hp
      have s134 := q134.rng
      refine z_if_eqZ (tgt := 144) C dX9_readReader_137 (by decide) (by omega) (fun h137 => ?_) (fun h137 => ?_)
      · refine z_aload_n C dX9_readReader_144 rfl ?_
        refine z_ldcS (i := 34) C rfl dX9_readReader_145 ?_
        refine z_callV C dX9_readReader_147 lk_X9_245 mw_X9_is mi_X9_is ms_X9_is rfl (by first | assumption | ((repeat (first | assumption | exact va_up_self _ _ _ | refine (va_up_ne _ _ (by first | assumption | exact hA.ne (by decide) | exact hA.ne (by omega))).trans ?_)); done)) (is 4 w4) rfl (by first | decide | exact Nat.le_of_ble_eq_true rfl) ⟨by decide, by decide, by decide, by decide⟩ (fun _ _ h => False.elim h) (fun v M' hp => ?_)
        obtain ⟨r147, rfl, rfl, q147⟩ := hp
        have s147 := q147.rng
        refine z_if_eqZ (tgt := 157) C dX9_readReader_150 (by decide) (by omega) (fun h150 => ?_) (fun h150 => ?_)
        · refine z_iconst C dX9_readReader_157 ?_
          refine z_istore_n C dX9_readReader_158 (by decide) ?_
          exact g159 _ F1 v (-1) hn4 hnv hv rv (by rw [zMw, zif_f (q121.f h124), zif_f (q134.f h137), zif_f (q147.f h150)]) hq h
        · refine z_iconst C dX9_readReader_153 ?_
          refine z_goto (tgt := 158) C dX9_readReader_154 (by decide) ?_
          refine z_istore_n C dX9_readReader_158 (by decide) ?_
          exact g159 _ F1 v 2 hn4 hnv hv rv (by rw [zMw, zif_f (q121.f h124), zif_f (q134.f h137), zif_t (q147.t h150)]) hq h
      · refine z_iconst C dX9_readReader_140 ?_
        refine z_goto (tgt := 158) C dX9_readReader_141 (by decide) ?_
        refine z_istore_n C dX9_readReader_158 (by decide) ?_
        exact g159 _ F1 v 1 hn4 hnv hv rv (by rw [zMw, zif_f (q121.f h124), zif_t (q134.t h137)]) hq h
    · refine z_iconst C dX9_readReader_127 ?_
      refine z_goto (tgt := 158) C dX9_readReader_128 (by decide) ?_
      refine z_istore_n C dX9_readReader_158 (by decide) ?_
      exact g159 _ F1 v 0 hn4 hnv hv rv (by rw [zMw, zif_t (q121.t h124)]) hq h
  have g84 : ∀ (M1 : zM) (F1 : Nat → Int) (v : Int) (x2 : Option Value), sRn S0 < 4 → mNv f n (ztS f n e1) (e2 - ztS f n e1) → v = mNf (fun j => hAt f n (ztS f n e1 + j)) (e2 - ztS f n e1) 4 → (0 ≤ v ∧ v ≤ 531440) → (if zNo S0 f n (ztS f n e1) e2 ≠ -1 then (3, ztS f n e1, S0, e0) else zpR3 f n S0 e0 e1 e2 e3) = q → mGS γ A M M1 F F1 f n e1 → zAW p l e { frames := 6, cells := 0, slots := 0, locals := 128 } s m args below meth c γ 3 Q M1 0 0 84 [some (.ref (A 0)), some (.int (zi v)), x2] [] := by
    intro M1 F1 v x2 hn4 hnv hv rv hq h
    obtain ⟨z1, z2, z3, z4, z6⟩ := id h
    have hO1 := z6.1
    have hM1 := rn1 M1 z1
    have hz := zNo_v hO hnv
    rw [← hv, show ztS f n e1 + (e2 - ztS f n e1) = e2 by omega] at hz
    have zr := zNo_rng hO f n (ztS f n e1) e2
    refine z_aload_n C dX9_readReader_84 rfl ?_
    refine z_aload_n C dX9_readReader_85 rfl ?_
    refine z_getM C dX9_readReader_86 fl_X9_199 (by first | assumption | ((repeat (first | assumption | exact va_up_self _ _ _ | refine (va_up_ne _ _ (by first | assumption | exact hA.ne (by decide) | exact hA.ne (by omega))).trans ?_)); done)) rfl z3 ?_
    refine z_if_neZ (tgt := 104) C dX9_readReader_89 (by decide) (by omega) (fun h89 => ?_) (fun h89 => ?_)
    · exact absurd rfl h89
    · refine z_aload_n C dX9_readReader_92 rfl ?_
      refine z_get C dX9_readReader_93 fl_X9_13 (by first | assumption | ((repeat (first | assumption | exact va_up_self _ _ _ | refine (va_up_ne _ _ (by first | assumption | exact hA.ne (by decide) | exact hA.ne (by omega))).trans ?_)); done)) rfl ?_
      refine z_iload_n C dX9_readReader_96 rfl ?_
      refine z_callS C dX9_readReader_97 lk_X9_240 mw_X9_named mst_X9_named (k_X9_named hM1 hS hO (v := v) (by omega)) rfl (by first | decide | exact Nat.le_of_ble_eq_true rfl) ⟨by decide, by decide, by decide, by decide⟩ (fun _ _ h => False.elim h) (fun v M' hp => ?_)
      obtain ⟨rfl, rfl⟩ := hp
      rw [hz]
      refine z_iconst C dX9_readReader_100 ?_
      refine z_icmp_neZ (tgt := 108) C dX9_readReader_101 (by decide) (by omega) (by omega) (fun h101 => ?_) (fun h101 => ?_)
      · refine z_iconst C dX9_readReader_108 ?_
        refine z_iconst C dX9_readReader_109 ?_
        refine z_callV C dX9_readReader_110 lk_X9_231 mw_X9_check mi_X9_check ms_X9_check rfl (by first | assumption | ((repeat (first | assumption | exact va_up_self _ _ _ | refine (va_up_ne _ _ (by first | assumption | exact hA.ne (by decide) | exact hA.ne (by omega))).trans ?_)); done)) (k_X9_check hA hO1 (r := 0) (what := 3) (by omega) (by omega) h.c) rfl (by first | decide | exact Nat.le_of_ble_eq_true rfl) ⟨by decide, by decide, by decide, by decide⟩ (fun _ _ h => False.elim h) (fun v M' hp => ?_)
        obtain ⟨b110, rfl, f110, a110⟩ := hp
        refine z_pop C dX9_readReader_113 rfl ?_
        rw [if_pos h101] at hq
        exact e114 _ _ _ _ (h.no hA f110 a110 (by omega) hq.symm)
      · refine z_iconst C dX9_readReader_104 ?_
        refine z_goto (tgt := 109) C dX9_readReader_105 (by decide) ?_
        refine z_iconst C dX9_readReader_109 ?_
        refine z_callV C dX9_readReader_110 lk_X9_231 mw_X9_check mi_X9_check ms_X9_check rfl (by first | assumption | ((repeat (first | assumption | exact va_up_self _ _ _ | refine (va_up_ne _ _ (by first | assumption | exact hA.ne (by decide) | exact hA.ne (by omega))).trans ?_)); done)) (k_X9_check hA hO1 (r := 1) (what := 3) (by omega) (by omega) h.c) rfl (by first | decide | exact Nat.le_of_ble_eq_true rfl) ⟨by decide, by decide, by decide, by decide⟩ (fun _ _ h => False.elim h) (fun v M' hp => ?_)
        obtain ⟨b110, rfl, f110, a110⟩ := hp
        refine z_pop C dX9_readReader_113 rfl ?_
        rw [if_neg (by omega)] at hq
        have h2 := h.ok hA f110 a110
        obtain ⟨a1, a2, a3, a4, a6⟩ := id h2
        have hO2 := a6.1
        refine z_aload_n C dX9_readReader_114 rfl ?_
        refine z_callV C dX9_readReader_115 lk_X9_234 mw_X9_next mi_X9_next ms_X9_next rfl hO2 (k_X9_next hA a6 h2.c) rfl (by first | decide | exact Nat.le_of_ble_eq_true rfl) ⟨by decide, by decide, by decide, by decide⟩ (fun _ _ h => False.elim h) (fun v M' hp => ?_)
        obtain ⟨rfl, f115, F2, p115, c115⟩ := hp
        have h3 := h2.nx f115 p115 c115
        rw [he2] at h3
        exact g118 _ F2 _ _ hn4 hnv hv rv hq h3
  have g44 : ∀ (M1 : zM) (F1 : Nat → Int) (x1 x2 : Option Value), sRn S0 < 4 → ztK f n e1 = 1 → zif (e2 - ztS f n e1 ≤ 4 ∧ hNm f n (ztS f n e1) e2) (if zNo S0 f n (ztS f n e1) e2 ≠ -1 then (3, ztS f n e1, S0, e0) else zpR3 f n S0 e0 e1 e2 e3) (2, ztS f n e1, S0, e0) = q → mGS γ A M M1 F F1 f n e1 → zAW p l e { frames := 6, cells := 0, slots := 0, locals := 128 } s m args below meth c γ 3 Q M1 0 0 44 [some (.ref (A 0)), x1, x2] [] := by
    intro M1 F1 x1 x2 hn4 hk1 hq h
    obtain ⟨z1, z2, z3, z4, z6⟩ := id h
    have hO1 := z6.1
    obtain ⟨y20, y21, y22, y24, y23⟩ := z6.2.2.2.2.2
    rw [if_pos hk1, he2] at y24
    have nx := E2.2.2 (by omega)
    have hnv : mNv f n (ztS f n e1) (e2 - ztS f n e1) ↔ (e2 - ztS f n e1 ≤ 4 ∧ hNm f n (ztS f n e1) e2) := by
      unfold mNv
      rw [show ztS f n e1 + (e2 - ztS f n e1) = e2 by omega]
      constructor
      · rintro ⟨a, b⟩
        exact ⟨a.2, b⟩
      · rintro ⟨a, b⟩
        exact ⟨by omega, b⟩
    refine z_aload_n C dX9_readReader_44 rfl ?_
    refine z_getM C dX9_readReader_45 fl_X9_199 (by first | assumption | ((repeat (first | assumption | exact va_up_self _ _ _ | refine (va_up_ne _ _ (by first | assumption | exact hA.ne (by decide) | exact hA.ne (by omega))).trans ?_)); done)) rfl z3 ?_
    refine z_if_neZ (tgt := 66) C dX9_readReader_48 (by decide) (by omega) (fun h48 => ?_) (fun h48 => ?_)
    · exact absurd rfl h48
    · refine z_aload_n C dX9_readReader_51 rfl ?_
      refine z_aload_n C dX9_readReader_52 rfl ?_
      refine z_getM C dX9_readReader_53 fl_X9_212 (by first | assumption | ((repeat (first | assumption | exact va_up_self _ _ _ | refine (va_up_ne _ _ (by first | assumption | exact hA.ne (by decide) | exact hA.ne (by omega))).trans ?_)); done)) rfl y21 ?_
      refine z_aload_n C dX9_readReader_56 rfl ?_
      refine z_getM C dX9_readReader_57 fl_X9_215 (by first | assumption | ((repeat (first | assumption | exact va_up_self _ _ _ | refine (va_up_ne _ _ (by first | assumption | exact hA.ne (by decide) | exact hA.ne (by omega))).trans ?_)); done)) rfl y24 ?_
      refine z_callV C dX9_readReader_60 lk_X9_237 mw_X9_nameFrom mi_X9_nameFrom ms_X9_nameFrom rfl (by first | assumption | ((repeat (first | assumption | exact va_up_self _ _ _ | refine (va_up_ne _ _ (by first | assumption | exact hA.ne (by decide) | exact hA.ne (by omega))).trans ?_)); done)) (k_X9_nameFrom z6.1 z6.2.1 hB (b := ztS f n e1) (m0 := e2 - ztS f n e1) (by omega)) rfl (by first | decide | exact Nat.le_of_ble_eq_true rfl) ⟨by decide, by decide, by decide, by decide⟩ (fun _ _ h => False.elim h) (fun v M' hp => ?_)
      obtain ⟨v60, rfl, rfl, c60⟩ := hp
      refine z_goto (tgt := 67) C dX9_readReader_63 (by decide) ?_
      refine z_istore_n C dX9_readReader_67 (by decide) ?_
      refine z_aload_n C dX9_readReader_68 rfl ?_
      refine z_iload_n C dX9_readReader_69 rfl ?_
      refine z_iconst C dX9_readReader_70 ?_
      refine z_icmp_eqZ (tgt := 78) C dX9_readReader_71 (by decide) (by omega) (by omega) (fun h71 => ?_) (fun h71 => ?_)
      · refine z_iconst C dX9_readReader_78 ?_
        refine z_iconst C dX9_readReader_79 ?_
        refine z_callV C dX9_readReader_80 lk_X9_231 mw_X9_check mi_X9_check ms_X9_check rfl (by first | assumption | ((repeat (first | assumption | exact va_up_self _ _ _ | refine (va_up_ne _ _ (by first | assumption | exact hA.ne (by decide) | exact hA.ne (by omega))).trans ?_)); done)) (k_X9_check hA hO1 (r := 0) (what := 2) (by omega) (by omega) h.c) rfl (by first | decide | exact Nat.le_of_ble_eq_true rfl) ⟨by decide, by decide, by decide, by decide⟩ (fun _ _ h => False.elim h) (fun v M' hp => ?_)
        obtain ⟨b80, rfl, f80, a80⟩ := hp
        refine z_pop C dX9_readReader_83 rfl ?_
        rw [zif_f (fun w => by rcases c60 with c | c; omega; exact c.1 (hnv.mpr w))] at hq
        exact e84 _ _ _ _ (h.no hA f80 a80 (by omega) hq.symm)
      · refine z_iconst C dX9_readReader_74 ?_
        refine z_goto (tgt := 79) C dX9_readReader_75 (by decide) ?_
        refine z_iconst C dX9_readReader_79 ?_
        refine z_callV C dX9_readReader_80 lk_X9_231 mw_X9_check mi_X9_check ms_X9_check rfl (by first | assumption | ((repeat (first | assumption | exact va_up_self _ _ _ | refine (va_up_ne _ _ (by first | assumption | exact hA.ne (by decide) | exact hA.ne (by omega))).trans ?_)); done)) (k_X9_check hA hO1 (r := 1) (what := 2) (by omega) (by omega) h.c) rfl (by first | decide | exact Nat.le_of_ble_eq_true rfl) ⟨by decide, by decide, by decide, by decide⟩ (fun _ _ h => False.elim h) (fun v M' hp => ?_)
        obtain ⟨b80, rfl, f80, a80⟩ := hp
        refine z_pop C dX9_readReader_83 rfl ?_
        rcases c60 with ⟨c1, c2, c3⟩ | c
        · rw [zif_t (hnv.mp c1)] at hq
          exact g84 _ F1 v60 _ hn4 c1 c2 c3 hq (h.ok hA f80 a80)
        · exact absurd c.2 h71
  have g21 : ∀ (M1 : zM) (F1 : Nat → Int) (x1 x2 : Option Value), sRn S0 < 4 → (if ztK f n e1 ≠ 1 then (1, ztS f n e1, S0, e0) else zif (e2 - ztS f n e1 ≤ 4 ∧ hNm f n (ztS f n e1) e2) (if zNo S0 f n (ztS f n e1) e2 ≠ -1 then (3, ztS f n e1, S0, e0) else zpR3 f n S0 e0 e1 e2 e3) (2, ztS f n e1, S0, e0)) = q → mGS γ A M M1 F F1 f n e0 → zAW p l e { frames := 6, cells := 0, slots := 0, locals := 128 } s m args below meth c γ 3 Q M1 0 0 21 [some (.ref (A 0)), x1, x2] [] := by
    intro M1 F1 x1 x2 hn4 hq h
    obtain ⟨z1, z2, z3, z4, z6⟩ := id h
    have hO1 := z6.1
    have rk := mtk_3 (ztK_rng f n e1)
    refine z_aload_n C dX9_readReader_21 rfl ?_
    refine z_callV C dX9_readReader_22 lk_X9_234 mw_X9_next mi_X9_next ms_X9_next rfl (by first | assumption | ((repeat (first | assumption | exact va_up_self _ _ _ | refine (va_up_ne _ _ (by first | assumption | exact hA.ne (by decide) | exact hA.ne (by omega))).trans ?_)); done)) (k_X9_next hA z6 h.c) rfl (by first | decide | exact Nat.le_of_ble_eq_true rfl) ⟨by decide, by decide, by decide, by decide⟩ (fun _ _ h => False.elim h) (fun v M' hp => ?_)
    obtain ⟨rfl, f22, F2, p22, c22⟩ := hp
    have h2 := h.nx f22 p22 c22
    rw [he1] at h2
    obtain ⟨a1, a2, a3, a4, a6⟩ := id h2
    have hO2 := a6.1
    have t22 := a6.2.2.2.2.2.2.2.1
    refine z_aload_n C dX9_readReader_25 rfl ?_
    refine z_aload_n C dX9_readReader_26 rfl ?_
    refine z_getM C dX9_readReader_27 fl_X9_221 (by first | assumption | ((repeat (first | assumption | exact va_up_self _ _ _ | refine (va_up_ne _ _ (by first | assumption | exact hA.ne (by decide) | exact hA.ne (by omega))).trans ?_)); done)) rfl t22 ?_
    refine z_iconst C dX9_readReader_30 ?_
    refine z_icmp_neZ (tgt := 38) C dX9_readReader_31 (by decide) (by omega) (by omega) (fun h31 => ?_) (fun h31 => ?_)
    · refine z_iconst C dX9_readReader_38 ?_
      refine z_iconst C dX9_readReader_39 ?_
      refine z_callV C dX9_readReader_40 lk_X9_231 mw_X9_check mi_X9_check ms_X9_check rfl (by first | assumption | ((repeat (first | assumption | exact va_up_self _ _ _ | refine (va_up_ne _ _ (by first | assumption | exact hA.ne (by decide) | exact hA.ne (by omega))).trans ?_)); done)) (k_X9_check hA hO2 (r := 0) (what := 1) (by omega) (by omega) h2.c) rfl (by first | decide | exact Nat.le_of_ble_eq_true rfl) ⟨by decide, by decide, by decide, by decide⟩ (fun _ _ h => False.elim h) (fun v M' hp => ?_)
      obtain ⟨b40, rfl, f40, a40⟩ := hp
      refine z_pop C dX9_readReader_43 rfl ?_
      rw [if_pos (by omega)] at hq
      exact e44 _ _ _ _ (h2.no hA f40 a40 (by omega) hq.symm)
    · refine z_iconst C dX9_readReader_34 ?_
      refine z_goto (tgt := 39) C dX9_readReader_35 (by decide) ?_
      refine z_iconst C dX9_readReader_39 ?_
      refine z_callV C dX9_readReader_40 lk_X9_231 mw_X9_check mi_X9_check ms_X9_check rfl (by first | assumption | ((repeat (first | assumption | exact va_up_self _ _ _ | refine (va_up_ne _ _ (by first | assumption | exact hA.ne (by decide) | exact hA.ne (by omega))).trans ?_)); done)) (k_X9_check hA hO2 (r := 1) (what := 1) (by omega) (by omega) h2.c) rfl (by first | decide | exact Nat.le_of_ble_eq_true rfl) ⟨by decide, by decide, by decide, by decide⟩ (fun _ _ h => False.elim h) (fun v M' hp => ?_)
      obtain ⟨b40, rfl, f40, a40⟩ := hp
      refine z_pop C dX9_readReader_43 rfl ?_
      rw [if_neg (by omega)] at hq
      exact g44 _ F2 _ _ hn4 (by omega) hq (h2.ok hA f40 a40)
  have h0 : mGS γ A M M F F f n e0 := ⟨mF.rf, mKp.rf, h25, h26, hP⟩
  have hO0 := hP.1
  refine z_aload_n C dX9_readReader_0 rfl ?_
  refine z_aload_n C dX9_readReader_1 rfl ?_
  refine z_get C dX9_readReader_2 fl_X9_13 (by first | assumption | ((repeat (first | assumption | exact va_up_self _ _ _ | refine (va_up_ne _ _ (by first | assumption | exact hA.ne (by decide) | exact hA.ne (by omega))).trans ?_)); done)) rfl ?_
  refine z_iconst C dX9_readReader_5 ?_
  refine z_aldN C dX9_readReader_6 (by first | assumption | ((repeat (first | assumption | exact va_up_self _ _ _ | refine (va_up_ne _ _ (by first | assumption | exact hA.ne (by decide) | exact hA.ne (by omega))).trans ?_)); done)) (by omega) (by omega) (by assumption) (fun hr6 => ?_)
  rw [g2]
  refine z_iconst C dX9_readReader_7 ?_
  refine z_icmp_geZ (tgt := 15) C dX9_readReader_8 (by decide) (by omega) (by omega) (fun h8 => ?_) (fun h8 => ?_)
  · refine z_iconst C dX9_readReader_15 ?_
    refine z_iconst C dX9_readReader_16 ?_
    refine z_callV C dX9_readReader_17 lk_X9_231 mw_X9_check mi_X9_check ms_X9_check rfl (by first | assumption | ((repeat (first | assumption | exact va_up_self _ _ _ | refine (va_up_ne _ _ (by first | assumption | exact hA.ne (by decide) | exact hA.ne (by omega))).trans ?_)); done)) (k_X9_check hA hO0 (r := 0) (what := 5) (by omega) (by omega) h0.c) rfl (by first | decide | exact Nat.le_of_ble_eq_true rfl) ⟨by decide, by decide, by decide, by decide⟩ (fun _ _ h => False.elim h) (fun v M' hp => ?_)
    obtain ⟨b17, rfl, f17, a17⟩ := hp
    refine z_pop C dX9_readReader_20 rfl ?_
    rw [if_pos (by omega)] at hq
    exact e21 _ _ _ _ (h0.no hA f17 a17 (by omega) hq.symm)
  · refine z_iconst C dX9_readReader_11 ?_
    refine z_goto (tgt := 16) C dX9_readReader_12 (by decide) ?_
    refine z_iconst C dX9_readReader_16 ?_
    refine z_callV C dX9_readReader_17 lk_X9_231 mw_X9_check mi_X9_check ms_X9_check rfl (by first | assumption | ((repeat (first | assumption | exact va_up_self _ _ _ | refine (va_up_ne _ _ (by first | assumption | exact hA.ne (by decide) | exact hA.ne (by omega))).trans ?_)); done)) (k_X9_check hA hO0 (r := 1) (what := 5) (by omega) (by omega) h0.c) rfl (by first | decide | exact Nat.le_of_ble_eq_true rfl) ⟨by decide, by decide, by decide, by decide⟩ (fun _ _ h => False.elim h) (fun v M' hp => ?_)
    obtain ⟨b17, rfl, f17, a17⟩ := hp
    refine z_pop C dX9_readReader_20 rfl ?_
    rw [if_neg (by omega)] at hq
    exact g21 _ F _ _ (by omega) hq (h0.ok hA f17 a17)

