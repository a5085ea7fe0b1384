/-! StringBuilder: numbers of one digit, its making, its text -/
set_option maxHeartbeats 4000000 in
set_option maxRecDepth 100000 in
theorem k_B_size {l : Launch} {γ : zG} {M : zM} {x : Int} (hx : 0 ≤ x ∧ x ≤ 9) :
    zCon l γ yJ6_stringSize_0f7a4 cJ6_stringSize_0f7a4 4 (some .int) [.int (zi x)] M 0 0 0 0 (fun v' M' => v' = some (.int (zi 1)) ∧ M' = M) (fun _ _ => False) := by
  refine zEnter [some (.int (zi x)), none, none, none] (by decide +kernel) rfl rfl (Nat.le_of_ble_eq_true rfl) ?_
  intro p e s m args below meth c Q C hin hQ
  refine z_iconst C dJ6_stringSize_0f7a4_0 ?_
  refine z_istore_n C dJ6_stringSize_0f7a4_1 (by decide) ?_
  refine z_iload_n C dJ6_stringSize_0f7a4_2 rfl ?_
  refine z_if_ltZ (tgt := 11) C dJ6_stringSize_0f7a4_3 (by decide) (by omega) (fun h3 => ?_) (fun h3 => ?_)
  · exact absurd h3 (by omega)
  · refine z_iconst C dJ6_stringSize_0f7a4_6 ?_
    refine z_istore_n C dJ6_stringSize_0f7a4_7 (by decide) ?_
    refine z_iload_n C dJ6_stringSize_0f7a4_8 rfl ?_
    refine z_ineg C dJ6_stringSize_0f7a4_9 ?_
    refine z_istore_n C dJ6_stringSize_0f7a4_10 (by decide) ?_
    refine z_bipush C dJ6_stringSize_0f7a4_11 (by decide) ?_
    refine z_istore_n C dJ6_stringSize_0f7a4_13 (by decide) ?_
    refine z_iconst C dJ6_stringSize_0f7a4_14 ?_
    refine z_istore_n C dJ6_stringSize_0f7a4_15 (by decide) ?_
    refine z_iload_n C dJ6_stringSize_0f7a4_16 rfl ?_
    refine z_bipush C dJ6_stringSize_0f7a4_17 (by decide) ?_
    refine z_icmp_geZ (tgt := 42) C dJ6_stringSize_0f7a4_19 (by decide) (by omega) (by omega) (fun h19 => ?_) (fun h19 => ?_)
    · exact absurd h19 (by omega)
    · refine z_iload_n C dJ6_stringSize_0f7a4_22 rfl ?_
      refine z_iload_n C dJ6_stringSize_0f7a4_23 rfl ?_
      refine z_icmp_leZ (tgt := 31) C dJ6_stringSize_0f7a4_24 (by decide) (by omega) (by omega) (fun h24 => ?_) (fun h24 => ?_)
      · exact absurd h24 (by omega)
      · refine z_iload_n C dJ6_stringSize_0f7a4_27 rfl ?_
        refine z_iload_n C dJ6_stringSize_0f7a4_28 rfl ?_
        refine z_iaddZ C dJ6_stringSize_0f7a4_29 ?_
        refine z_iret C hQ dJ6_stringSize_0f7a4_30 rfl (by decide) (by decide) ?_
        exact ⟨rfl, rfl⟩
set_option maxHeartbeats 4000000 in
set_option maxRecDepth 100000 in
theorem k_B_chars {l : Launch} {γ : zG} {M : zM} {x q : Int} {v mm : Nat} {g : Nat → Int} (hx : 0 ≤ x ∧ x ≤ 9) (hv : M v = some (zba γ mm g)) (hq : 1 ≤ q ∧ q ≤ mm) (hm : mm ≤ 1002) :
    zCon l γ yJ6_getChars_ba4f3 cJ6_getChars_ba4f3 7 (some .int) [.int (zi x), .int (zi q), .ref v] M 0 0 0 0 (fun v' M' => v' = some (.int (zi (q - 1))) ∧ M' = va_up M v (some (zba γ mm (va_up g (q - 1).toNat (48 + x))))) (fun _ _ => False) := by
  refine zEnter [some (.int (zi x)), some (.int (zi q)), some (.ref v), none, none, none, none] (by decide +kernel) rfl rfl (Nat.le_of_ble_eq_true rfl) ?_
  intro p e s m args below meth c Q C hin hQ
  obtain ⟨d, hZ, hT⟩ := C.ev.2.2.2.2.2.1.2.2.2.1
  refine z_iload_n C dJ6_getChars_ba4f3_0 rfl ?_
  refine z_istore C dJ6_getChars_ba4f3_1 (by decide) ?_
  refine z_iload_n C dJ6_getChars_ba4f3_3 rfl ?_
  refine z_if_geZ (tgt := 11) C dJ6_getChars_ba4f3_4 (by decide) (by omega) (fun h4 => ?_) (fun h4 => ?_)
  · refine z_iconst C dJ6_getChars_ba4f3_11 ?_
    refine z_istore C dJ6_getChars_ba4f3_12 (by decide) ?_
    refine z_iload C dJ6_getChars_ba4f3_14 rfl ?_
    refine z_if_neZ (tgt := 22) C dJ6_getChars_ba4f3_16 (by decide) (by omega) (fun h16 => ?_) (fun h16 => ?_)
    · exact absurd rfl h16
    · refine z_iload_n C dJ6_getChars_ba4f3_19 rfl ?_
      refine z_ineg C dJ6_getChars_ba4f3_20 ?_
      refine z_istore_n C dJ6_getChars_ba4f3_21 (by decide) ?_
      refine z_iload_n C dJ6_getChars_ba4f3_22 rfl ?_
      refine z_bipush C dJ6_getChars_ba4f3_23 (by decide) ?_
      refine z_icmp_gtZ (tgt := 72) C dJ6_getChars_ba4f3_25 (by decide) (by omega) (by omega) (fun h25 => ?_) (fun h25 => ?_)
      · refine z_aload_n C dJ6_getChars_ba4f3_72 rfl ?_
        refine z_iincZ C dJ6_getChars_ba4f3_73 rfl (by decide) ?_
        refine z_iload C dJ6_getChars_ba4f3_76 rfl ?_
        refine z_gets C hZ dg_J6 dJ6_getChars_ba4f3_78 ?_
        refine z_iload_n C dJ6_getChars_ba4f3_81 rfl ?_
        refine z_ineg C dJ6_getChars_ba4f3_82 ?_
        refine z_stb C (f := fun j => Int32.ofInt (48 + ((j : Int) % 10))) hT (by omega) (by decide) dJ6_getChars_ba4f3_83 ?_
        have e83 : Int32.ofInt (48 + (((- -x).toNat : Int) % 10)) = zi (48 + x) := by rw [show ((- -x).toNat : Int) % 10 = x by omega]
        rw [e83]
        refine z_astB C dJ6_getChars_ba4f3_84 hv (by omega) (by omega) ?_
        rw [znarB (by omega), zba_up]
        refine z_iload_n C dJ6_getChars_ba4f3_85 rfl ?_
        refine z_bipush C dJ6_getChars_ba4f3_86 (by decide) ?_
        refine z_icmp_geZ (tgt := 104) C dJ6_getChars_ba4f3_88 (by decide) (by omega) (by omega) (fun h88 => ?_) (fun h88 => ?_)
        · refine z_iload C dJ6_getChars_ba4f3_104 rfl ?_
          refine z_if_eqZ (tgt := 118) C dJ6_getChars_ba4f3_106 (by decide) (by omega) (fun h106 => ?_) (fun h106 => ?_)
          · refine z_iload C dJ6_getChars_ba4f3_118 rfl ?_
            refine z_iret C hQ dJ6_getChars_ba4f3_120 rfl (by decide) (by decide) ?_
            exact ⟨rfl, rfl⟩
          · exact absurd rfl h106
        · exact absurd (by omega) h88
      · exact absurd (by omega) h25
  · exact absurd hx.1 h4
set_option maxHeartbeats 4000000 in
set_option maxRecDepth 100000 in
theorem k_B_appI5 {l : Launch} {γ : zG} {M : zM} {a v mm : Nat} {w : List Int} {x : Int} (hB : hSb γ M a v w mm) (hx : 0 ≤ x ∧ x ≤ 9) (hl : w.length + 1 ≤ 500) :
    zCon l γ yJ5_append_c97b9 cJ5_append_c97b9 4 (some (.object "java/lang/AbstractStringBuilder")) [.ref a, .int (zi x)] M 4 120 1 1002 (fun v' M' => v' = some (.ref a) ∧ hBx γ M M' a v (w ++ [48 + x])) (fun _ _ => False) := by
  have hB0 := hB
  obtain ⟨hw, hm, hob, g, hv, hg, hgw⟩ := hB
  refine zEnter [some (.ref a), some (.int (zi x)), none, none] (by decide +kernel) rfl rfl (Nat.le_of_ble_eq_true rfl) ?_
  intro p e s m args below meth c Q C hin hQ
  refine z_aload_n C dJ5_append_c97b9_0 rfl ?_
  refine z_get C dJ5_append_c97b9_1 fl_J5_79 (by first | assumption | ((repeat (first | assumption | exact va_up_self _ _ _ | refine (va_up_ne _ _ (by assumption)).trans ?_)); done) | (simp [va_up, *] <;> rfl)) rfl ?_
  refine z_istore_n C dJ5_append_c97b9_4 (by decide) ?_
  refine z_iload_n C dJ5_append_c97b9_5 rfl ?_
  refine z_iload_n C dJ5_append_c97b9_6 rfl ?_
  refine z_callS C dJ5_append_c97b9_7 lk_J5_245 mw_J6_stringSize_0f7a4 mst_J6_stringSize_0f7a4 (k_B_size hx) rfl (by first | decide | exact Nat.le_of_ble_eq_true rfl) ⟨by decide, by decide, by decide, by decide⟩ (fun _ _ h => False.elim h) (fun v M' hp => ?_)
  obtain ⟨rfl, rfl⟩ := hp
  refine z_iaddZ C dJ5_append_c97b9_10 ?_
  refine z_istore_n C dJ5_append_c97b9_11 (by decide) ?_
  refine z_aload_n C dJ5_append_c97b9_12 rfl ?_
  refine z_iload_n C dJ5_append_c97b9_13 rfl ?_
  refine z_callP (Cn := RJ4) (ci := 9) C dJ5_append_c97b9_14 lk_J5_100 mw_J5_ensureCapacityInternal_d00df mi_J5_ensureCapacityInternal_d00df (sel_J4 C ⟨by decide, by decide⟩ rfl pm_J5_ensureCapacityInternal_d00df mi_J5_ensureCapacityInternal_d00df) rfl hob (k_B_ensure hB0 (q := w.length + 1) (by omega)) rfl (by first | decide | exact Nat.le_of_ble_eq_true rfl) ⟨by decide, by decide, by decide, by decide⟩ (fun _ _ h => False.elim h) (fun v M' hp => ?_)
  obtain ⟨rfl, v2, m2, hB1, hq7, hv7, f7⟩ := hp
  have n2 := hB1.ne
  have hB2 := hB1
  obtain ⟨-, hm1, hob1, g1, hv1, hg1, hgw1⟩ := hB1
  refine z_aload_n C dJ5_append_c97b9_17 rfl ?_
  refine z_callV (Cn := RJ4) (ci := 9) C dJ5_append_c97b9_18 lk_J5_83 mw_J5_isLatin1_aae02 mi_J5_isLatin1_aae02 msb_J5_isLatin1_aae02 rfl hob1 (k_B_isLatin1 hB2) rfl (by first | decide | exact Nat.le_of_ble_eq_true rfl) ⟨by decide, by decide, by decide, by decide⟩ (fun _ _ h => False.elim h) (fun v M' hp => ?_)
  obtain ⟨rfl, rfl⟩ := hp
  refine z_if_eqZ (tgt := 37) C dJ5_append_c97b9_21 (by decide) (by omega) (fun h21 => ?_) (fun h21 => ?_)
  · exact absurd h21 (by decide)
  · refine z_iload_n C dJ5_append_c97b9_24 rfl ?_
    refine z_iload_n C dJ5_append_c97b9_25 rfl ?_
    refine z_aload_n C dJ5_append_c97b9_26 rfl ?_
    refine z_get C dJ5_append_c97b9_27 fl_J5_15 (by first | assumption | ((repeat (first | assumption | exact va_up_self _ _ _ | refine (va_up_ne _ _ (by assumption)).trans ?_)); done) | (simp [va_up, *] <;> rfl)) rfl ?_
    refine z_callS C dJ5_append_c97b9_30 lk_J5_248 mw_J6_getChars_ba4f3 mst_J6_getChars_ba4f3 (k_B_chars hx hv1 (q := w.length + 1) (by omega) hm1.2) rfl (by first | decide | exact Nat.le_of_ble_eq_true rfl) ⟨by decide, by decide, by decide, by decide⟩ (fun _ _ h => False.elim h) (fun v M' hp => ?_)
    obtain ⟨rfl, rfl⟩ := hp
    rw [show ((w.length : Int) + 1 - 1).toNat = w.length by omega]
    have hob3 := (va_up_ne M' (some (zba γ m2 (va_up g1 w.length (48 + x)))) n2).trans hob1
    refine z_pop C dJ5_append_c97b9_33 rfl ?_
    refine z_goto (tgt := 48) C dJ5_append_c97b9_34 (by decide) ?_
    refine z_aload_n C dJ5_append_c97b9_48 rfl ?_
    refine z_iload_n C dJ5_append_c97b9_49 rfl ?_
    refine z_put C dJ5_append_c97b9_50 fl_J5_79 (by first | assumption | ((repeat (first | assumption | exact va_up_self _ _ _ | refine (va_up_ne _ _ (by assumption)).trans ?_)); done) | (simp [va_up, *] <;> rfl)) rfl rfl (by simp) ?_
    refine z_aload_n C dJ5_append_c97b9_53 rfl ?_
    refine z_aret C hQ dJ5_append_c97b9_54 (by first | exact Or.inl ⟨_, rfl⟩ | exact Or.inr ⟨_, rfl⟩) (Or.inr ⟨_, rfl⟩) (by decide) (by decide) ?_
    refine ⟨rfl, v2, m2, ⟨hw.app (.one (by omega)) (by simpa using hl), by simp; omega, ?_, va_up g1 w.length (48 + x), (va_up_ne _ _ (fun w => n2 w.symm)).trans (va_up_self _ _ _), fun j => ?_, fun j hj => ?_⟩, hv7, (zFr.u2 f7 (by simp) (by simp))⟩
    · rw [va_up_self, List.length_append]
      rfl
    · unfold va_up
      split
      · omega
      · exact hg1 j
    · rw [List.length_append] at hj
      have hj : j < w.length + 1 := hj
      by_cases e : j = w.length
      · subst e
        rw [va_up_self, zgd_r (Nat.le_refl _)]
        simp
      · rw [va_up_ne _ _ e, zgd_l (by omega)]
        exact hgw1 j (by omega)
set_option maxHeartbeats 4000000 in
set_option maxRecDepth 100000 in
theorem k_B_appI {l : Launch} {γ : zG} {M : zM} {a v mm : Nat} {w : List Int} {x : Int} (hB : hSb γ M a v w mm) (hx : 0 ≤ x ∧ x ≤ 9) (hl : w.length + 1 ≤ 500) :
    zCon l γ yJ4_append_bf812 cJ4_append_bf812 2 (some (.object "java/lang/StringBuilder")) [.ref a, .int (zi x)] M 5 150 1 1002 (fun v' M' => v' = some (.ref a) ∧ hBx γ M M' a v (w ++ [48 + x])) (fun _ _ => False) := by
  have hob := hB.2.2.1
  refine zEnter [some (.ref a), some (.int (zi x))] (by decide +kernel) rfl rfl (Nat.le_of_ble_eq_true rfl) ?_
  intro p e s m args below meth c Q C hin hQ
  refine z_aload_n C dJ4_append_bf812_0 rfl ?_
  refine z_iload_n C dJ4_append_bf812_1 rfl ?_
  refine z_callSU (ci := 9) C dJ4_append_bf812_2 lk_J4_53 mw_J5_append_c97b9 sm_J5_append_c97b9 su_J4 mi_J5_append_c97b9 (by decide) rfl hob (k_B_appI5 hB hx hl) rfl (by first | decide | exact Nat.le_of_ble_eq_true rfl) ⟨by decide, by decide, by decide, by decide⟩ (fun _ _ h => False.elim h) (fun v M' hp => ?_)
  obtain ⟨rfl, hx2⟩ := hp
  refine z_pop C dJ4_append_bf812_5 rfl ?_
  refine z_aload_n C dJ4_append_bf812_6 rfl ?_
  refine z_aret C hQ dJ4_append_bf812_7 (by first | exact Or.inl ⟨_, rfl⟩ | exact Or.inr ⟨_, rfl⟩) (Or.inr ⟨_, rfl⟩) (by decide) (by decide) ?_
  exact ⟨rfl, hx2⟩
set_option maxHeartbeats 4000000 in
set_option maxRecDepth 100000 in
theorem k_B_init5 {l : Launch} {γ : zG} {M : zM} {a : Nat} (hM : M a = some (.inr (9, [.null, .int 0, .int 0, .int 0]))) :
    zCon l γ yJ5_init_d00df cJ5_init_d00df 2 none [.ref a, .int (zi 16)] M 1 20 1 16 (fun v' M' => v' = none ∧ ∃ v, M v = none ∧ hSb γ M' a v [] 16 ∧ zFr M M' [a, v]) (fun _ _ => False) := by
  refine zEnter [some (.ref a), some (.int (zi 16))] (by decide +kernel) rfl rfl (Nat.le_of_ble_eq_true rfl) ?_
  intro p e s m args below meth c Q C hin hQ
  refine z_aload_n C dJ5_init_d00df_0 rfl ?_
  refine z_objInit C dJ5_init_d00df_1 t3_223 ob_in ob_co ⟨by decide, (by first | decide | exact Nat.le_of_ble_eq_true rfl)⟩ ?_
  refine z_com C cm_J5 dJ5_init_d00df_4 ?_
  refine z_if_eqZ (tgt := 25) C dJ5_init_d00df_7 (by decide) (by omega) (fun h7 => ?_) (fun h7 => ?_)
  · exact absurd h7 (by decide)
  · refine z_aload_n C dJ5_init_d00df_10 rfl ?_
    refine z_iload_n C dJ5_init_d00df_11 rfl ?_
    refine z_newB C dJ5_init_d00df_12 t1_148 (by omega) ⟨by decide, by decide⟩ (fun q hq => ?_)
    have nq : a ≠ q := fun w => by rw [w, hq] at hM; cases hM
    have hM1 := (va_up_ne M (some (zaB γ (16 : Int).toNat (fun _ => 0))) nq).trans hM
    refine z_put C dJ5_init_d00df_14 fl_J5_15 (by first | assumption | ((repeat (first | assumption | exact va_up_self _ _ _ | refine (va_up_ne _ _ (by assumption)).trans ?_)); done) | (simp [va_up, *] <;> rfl)) rfl rfl (by simp) ?_
    refine z_aload_n C dJ5_init_d00df_17 rfl ?_
    refine z_iconst C dJ5_init_d00df_18 ?_
    refine z_put C dJ5_init_d00df_19 fl_J5_22 (by first | assumption | ((repeat (first | assumption | exact va_up_self _ _ _ | refine (va_up_ne _ _ (by assumption)).trans ?_)); done) | (simp [va_up, *] <;> rfl)) rfl rfl (by simp) ?_
    refine z_goto (tgt := 38) C dJ5_init_d00df_22 (by decide) ?_
    refine z_vret C hQ dJ5_init_d00df_38 (by decide) (by decide) ?_
    refine ⟨rfl, q, hq, ⟨.nil, by simp, ?_, fun _ => 0, ?_, fun j => ⟨Int.le_refl 0, (by decide : (0 : Int) ≤ 127)⟩, fun j hj => by simp at hj⟩, ?_⟩
    · rw [va_up_self]
      rfl
    · rw [va_up_ne _ _ (fun w => nq w.symm), va_up_ne _ _ (fun w => nq w.symm), va_up_self]
      rfl
    · exact (zFr.u1 (zFr.u1 (zFr.u1 zFr.rf (by simp)) (by simp)) (by simp))
set_option maxHeartbeats 4000000 in
set_option maxRecDepth 100000 in
theorem k_B_init {l : Launch} {γ : zG} {M : zM} {a : Nat} (hM : M a = some (.inr (9, [.null, .int 0, .int 0, .int 0]))) :
    zCon l γ yJ4_init_da8c8 cJ4_init_da8c8 1 none [.ref a] M 2 45 1 16 (fun v' M' => v' = none ∧ ∃ v, M v = none ∧ hSb γ M' a v [] 16 ∧ zFr M M' [a, v]) (fun _ _ => False) := by
  refine zEnter [some (.ref a)] (by decide +kernel) rfl rfl (Nat.le_of_ble_eq_true rfl) ?_
  intro p e s m args below meth c Q C hin hQ
  refine z_aload_n C dJ4_init_da8c8_0 rfl ?_
  refine z_bipush C dJ4_init_da8c8_1 (by decide) ?_
  refine z_callI C dJ4_init_da8c8_3 lk_J4_1 mw_J5_init_d00df rfl mi_J5_init_d00df (k_B_init5 hM) rfl (by first | decide | exact Nat.le_of_ble_eq_true rfl) ⟨by decide, by decide, by decide, by decide⟩ (fun _ _ h => False.elim h) (fun v M' hp => ?_)
  obtain ⟨rfl, hp⟩ := hp
  refine z_vret C hQ dJ4_init_da8c8_6 (by decide) (by decide) ?_
  exact ⟨rfl, hp⟩
set_option maxHeartbeats 4000000 in
set_option maxRecDepth 100000 in
theorem k_B_getValue {l : Launch} {γ : zG} {M : zM} {a v mm : Nat} {w : List Int} (hB : hSb γ M a v w mm) :
    zCon l γ yJ5_getValue_6d5f1 cJ5_getValue_6d5f1 1 (some (.array .byte)) [.ref a] M 0 0 0 0 (fun v' M' => v' = some (.ref v) ∧ M' = M) (fun _ _ => False) := by
  have hob := hB.2.2.1
  refine zEnter [some (.ref a)] (by decide +kernel) rfl rfl (Nat.le_of_ble_eq_true rfl) ?_
  intro p e s m args below meth c Q C hin hQ
  refine z_aload_n C dJ5_getValue_6d5f1_0 rfl ?_
  refine z_get C dJ5_getValue_6d5f1_1 fl_J5_15 (by first | assumption | ((repeat (first | assumption | exact va_up_self _ _ _ | refine (va_up_ne _ _ (by assumption)).trans ?_)); done) | (simp [va_up, *] <;> rfl)) rfl ?_
  refine z_aret C hQ dJ5_getValue_6d5f1_4 (by first | exact Or.inl ⟨_, rfl⟩ | exact Or.inr ⟨_, rfl⟩) (Or.inr ⟨_, rfl⟩) (by decide) (by decide) ?_
  exact ⟨rfl, rfl⟩
set_option maxHeartbeats 4000000 in
set_option maxRecDepth 100000 in
theorem k_B_length5 {l : Launch} {γ : zG} {M : zM} {a v mm : Nat} {w : List Int} (hB : hSb γ M a v w mm) :
    zCon l γ yJ5_length_8abf5 cJ5_length_8abf5 1 (some .int) [.ref a] M 0 0 0 0 (fun v' M' => v' = some (.int (zi w.length)) ∧ M' = M) (fun _ _ => False) := by
  have hob := hB.2.2.1
  refine zEnter [some (.ref a)] (by decide +kernel) rfl rfl (Nat.le_of_ble_eq_true rfl) ?_
  intro p e s m args below meth c Q C hin hQ
  refine z_aload_n C dJ5_length_8abf5_0 rfl ?_
  refine z_get C dJ5_length_8abf5_1 fl_J5_79 (by first | assumption | ((repeat (first | assumption | exact va_up_self _ _ _ | refine (va_up_ne _ _ (by assumption)).trans ?_)); done) | (simp [va_up, *] <;> rfl)) rfl ?_
  refine z_iret C hQ dJ5_length_8abf5_4 rfl (by decide) (by decide) ?_
  exact ⟨rfl, rfl⟩
set_option maxHeartbeats 4000000 in
set_option maxRecDepth 100000 in
theorem k_B_length {l : Launch} {γ : zG} {M : zM} {a v mm : Nat} {w : List Int} (hB : hSb γ M a v w mm) :
    zCon l γ yJ4_length_8abf5 cJ4_length_8abf5 1 (some .int) [.ref a] M 1 20 0 0 (fun v' M' => v' = some (.int (zi w.length)) ∧ M' = M) (fun _ _ => False) := by
  have hob := hB.2.2.1
  refine zEnter [some (.ref a)] (by decide +kernel) rfl rfl (Nat.le_of_ble_eq_true rfl) ?_
  intro p e s m args below meth c Q C hin hQ
  refine z_aload_n C dJ4_length_8abf5_0 rfl ?_
  refine z_callSU (ci := 9) C dJ4_length_8abf5_1 lk_J4_343 mw_J5_length_8abf5 sm_J5_length_8abf5 su_J4 mi_J5_length_8abf5 (by decide) rfl hob (k_B_length5 hB) rfl (by first | decide | exact Nat.le_of_ble_eq_true rfl) ⟨by decide, by decide, by decide, by decide⟩ (fun _ _ h => False.elim h) (fun v M' hp => ?_)
  obtain ⟨rfl, rfl⟩ := hp
  refine z_iret C hQ dJ4_length_8abf5_4 rfl (by decide) (by decide) ?_
  exact ⟨rfl, rfl⟩
set_option maxHeartbeats 4000000 in
set_option maxRecDepth 100000 in
theorem k_B_chk {l : Launch} {γ : zG} {M : zM} {x y : Int} (h : 0 ≤ x ∧ x ≤ y ∧ y ≤ 2000) :
    zCon l γ yJ7_checkLength_df160 cJ7_checkLength_df160 2 none [.int (zi x), .int (zi y)] M 0 0 0 0 (fun v' M' => v' = none ∧ M' = M) (fun _ _ => False) := by
  refine zEnter [some (.int (zi x)), some (.int (zi y))] (by decide +kernel) rfl rfl (Nat.le_of_ble_eq_true rfl) ?_
  intro p e s m args below meth c Q C hin hQ
  refine z_iload_n C dJ7_checkLength_df160_0 rfl ?_
  refine z_iload_n C dJ7_checkLength_df160_1 rfl ?_
  refine z_icmp_geZ (tgt := 37) C dJ7_checkLength_df160_2 (by decide) (by omega) (by omega) (fun h2 => ?_) (fun h2 => ?_)
  · refine z_vret C hQ dJ7_checkLength_df160_37 (by decide) (by decide) ?_
    exact ⟨rfl, rfl⟩
  · exact absurd (by omega) h2
/-- a copy of the first N bytes -/
def zcp (γ : zG) (M M' : zM) (v' : Option Value) (g : Nat → Int) (N : Nat) : Prop := ∃ q, M q = none ∧ v' = some (.ref q) ∧ ∃ g', M' = va_up M q (some (zba γ N g')) ∧ zBv g' ∧ ∀ j, j < N → g' j = g j
set_option maxHeartbeats 4000000 in
set_option maxRecDepth 100000 in
theorem k_B_rangeB {l : Launch} {γ : zG} {M : zM} {v mm : Nat} {g : Nat → Int} {N : Int} (hv : M v = some (zba γ mm g)) (hg : zBv g) (hN : 0 ≤ N ∧ N ≤ mm) (hm : mm ≤ 1002) :
    zCon l γ yJ7_copyOfRangeByte_39247 cJ7_copyOfRangeByte_39247 5 (some (.array .byte)) [.ref v, .int (zi 0), .int (zi N)] M 1 40 1 1002 (fun v' M' => zcp γ M M' v' g N.toNat) (fun _ _ => False) := by
  refine zEnter [some (.ref v), some (.int (zi 0)), some (.int (zi N)), none, none] (by decide +kernel) rfl rfl (Nat.le_of_ble_eq_true rfl) ?_
  intro p e s m args below meth c Q C hin hQ
  refine z_iload_n C dJ7_copyOfRangeByte_39247_0 rfl ?_
  refine z_iload_n C dJ7_copyOfRangeByte_39247_1 rfl ?_
  refine z_callS C dJ7_copyOfRangeByte_39247_2 lk_J7_343 mw_J7_checkLength_df160 mst_J7_checkLength_df160 (k_B_chk (by omega)) rfl (by first | decide | exact Nat.le_of_ble_eq_true rfl) ⟨by decide, by decide, by decide, by decide⟩ (fun _ _ h => False.elim h) (fun v M' hp => ?_)
  obtain ⟨rfl, rfl⟩ := hp
  refine z_iload_n C dJ7_copyOfRangeByte_39247_5 rfl ?_
  refine z_iload_n C dJ7_copyOfRangeByte_39247_6 rfl ?_
  refine z_isubZ C dJ7_copyOfRangeByte_39247_7 ?_
  refine z_istore_n C dJ7_copyOfRangeByte_39247_8 (by decide) ?_
  refine z_iload_n C dJ7_copyOfRangeByte_39247_9 rfl ?_
  refine z_newB C dJ7_copyOfRangeByte_39247_10 t1_148 (by omega) ⟨by decide, by show 0 + (N - 0).toNat ≤ 1002; omega⟩ (fun q hq => ?_)
  have nq : v ≠ q := fun w => by rw [w, hq] at hv; cases hv
  have hv1 : va_up M' q (some (zaB γ (N - 0).toNat (fun _ => 0))) v = some (zba γ mm g) := (va_up_ne _ _ nq).trans hv
  refine z_astore C dJ7_copyOfRangeByte_39247_12 (by decide) ?_
  refine z_aload_n C dJ7_copyOfRangeByte_39247_14 rfl ?_
  refine z_iload_n C dJ7_copyOfRangeByte_39247_15 rfl ?_
  refine z_aload C dJ7_copyOfRangeByte_39247_16 rfl ?_
  refine z_iconst C dJ7_copyOfRangeByte_39247_18 ?_
  refine z_aload_n C dJ7_copyOfRangeByte_39247_19 rfl ?_
  refine z_alenB C dJ7_copyOfRangeByte_39247_20 hv1 (by omega) ?_
  refine z_iload_n C dJ7_copyOfRangeByte_39247_21 rfl ?_
  refine z_isubZ C dJ7_copyOfRangeByte_39247_22 ?_
  refine z_iload_n C dJ7_copyOfRangeByte_39247_23 rfl ?_
  refine z_min C dJ7_copyOfRangeByte_39247_24 lk_J7_304 mmin_st ma_in mmin_co (by omega) (by omega) ⟨by decide, (by first | decide | exact Nat.le_of_ble_eq_true rfl), by decide, by show 0 + (N - 0).toNat ≤ 1002; omega⟩ ?_
  rw [Int.min_eq_right (by omega)]
  refine z_copyB C dJ7_copyOfRangeByte_39247_27 t4_47 ar_nat ar_st ar_in hv1 (va_up_self _ _ _) (by omega) (by omega) (by omega) (by omega) (by omega) (fun j => zfit (hg j)) (by omega) (by omega) ⟨by decide, (by first | decide | exact Nat.le_of_ble_eq_true rfl)⟩ ?_
  rw [va_up_tw]
  refine z_aload C dJ7_copyOfRangeByte_39247_30 rfl ?_
  refine z_aret C hQ dJ7_copyOfRangeByte_39247_32 (by first | exact Or.inl ⟨_, rfl⟩ | exact Or.inr ⟨_, rfl⟩) (Or.inr ⟨_, rfl⟩) (by decide) (by show 0 + (N - 0).toNat ≤ 1002; omega) ?_
  refine ⟨q, hq, rfl, fun j => if j < N.toNat then g j else 0, ?_, fun j => ?_, fun j hj => if_pos hj⟩
  · rw [show (N - 0).toNat = N.toNat by omega]
    refine congrArg (fun x => va_up _ q (some (zaB γ N.toNat x))) (funext fun j => ?_)
    show va_cpy _ _ _ _ _ j = zi (if j < N.toNat then g j else 0)
    unfold va_cpy
    by_cases h : j < N.toNat
    · rw [if_pos (by omega), if_pos h]
      simp
    · rw [if_neg (by omega), if_neg h]
      rfl
  · show 0 ≤ (if j < N.toNat then g j else 0) ∧ (if j < N.toNat then g j else 0) ≤ 127
    split
    · exact hg j
    · omega
set_option maxHeartbeats 4000000 in
set_option maxRecDepth 100000 in
theorem k_B_range {l : Launch} {γ : zG} {M : zM} {v mm : Nat} {g : Nat → Int} {N : Int} (hv : M v = some (zba γ mm g)) (hg : zBv g) (hN : 0 ≤ N ∧ N ≤ mm) (hm : mm ≤ 1002) :
    zCon l γ yJ7_copyOfRange_39247 cJ7_copyOfRange_39247 3 (some (.array .byte)) [.ref v, .int (zi 0), .int (zi N)] M 2 70 1 1002 (fun v' M' => zcp γ M M' v' g N.toNat) (fun _ _ => False) := by
  refine zEnter [some (.ref v), some (.int (zi 0)), some (.int (zi N))] (by decide +kernel) rfl rfl (Nat.le_of_ble_eq_true rfl) ?_
  intro p e s m args below meth c Q C hin hQ
  refine z_iload_n C dJ7_copyOfRange_39247_0 rfl ?_
  refine z_if_neZ (tgt := 10) C dJ7_copyOfRange_39247_1 (by decide) (by omega) (fun h1 => ?_) (fun h1 => ?_)
  · exact absurd rfl h1
  · refine z_iload_n C dJ7_copyOfRange_39247_4 rfl ?_
    refine z_aload_n C dJ7_copyOfRange_39247_5 rfl ?_
    refine z_alenB C dJ7_copyOfRange_39247_6 hv (by omega) ?_
    refine z_icmp_eqZ (tgt := 17) C dJ7_copyOfRange_39247_7 (by decide) (by omega) (by omega) (fun h7 => ?_) (fun h7 => ?_)
    · refine z_aload_n C dJ7_copyOfRange_39247_17 rfl ?_
      refine z_clone C hv hg dJ7_copyOfRange_39247_18 ⟨by decide, by decide, by decide, by show 0 + mm ≤ 1002; omega⟩ (fun q hq => ?_)
      refine z_castB C (va_up_self _ _ _) dJ7_copyOfRange_39247_21 ?_
      refine z_aret C hQ dJ7_copyOfRange_39247_24 (by first | exact Or.inl ⟨_, rfl⟩ | exact Or.inr ⟨_, rfl⟩) (Or.inr ⟨_, rfl⟩) (by decide) (by show 0 + mm ≤ 1002; omega) ?_
      exact ⟨q, hq, rfl, g, by rw [show N.toNat = mm by omega], hg, fun j _ => rfl⟩
    · refine z_aload_n C dJ7_copyOfRange_39247_10 rfl ?_
      refine z_iload_n C dJ7_copyOfRange_39247_11 rfl ?_
      refine z_iload_n C dJ7_copyOfRange_39247_12 rfl ?_
      refine z_callS C dJ7_copyOfRange_39247_13 lk_J7_339 mw_J7_copyOfRangeByte_39247 mst_J7_copyOfRangeByte_39247 (k_B_rangeB hv hg hN hm) rfl (by first | decide | exact Nat.le_of_ble_eq_true rfl) ⟨by decide, by decide, by decide, by decide⟩ (fun _ _ h => False.elim h) (fun v M' hp => ?_)
      obtain ⟨q, hq, rfl, hp⟩ := hp
      refine z_aret C hQ dJ7_copyOfRange_39247_16 (by first | exact Or.inl ⟨_, rfl⟩ | exact Or.inr ⟨_, rfl⟩) (Or.inr ⟨_, rfl⟩) (by decide) (by decide) ?_
      exact ⟨q, hq, rfl, hp⟩
set_option maxHeartbeats 4000000 in
set_option maxRecDepth 100000 in
theorem k_B_str0 {l : Launch} {γ : zG} {M : zM} {a v mm b : Nat} {w : List Int} (hB : hSb γ M a v w mm) (hM : M b = some (.inr (10, [.null, .int 0, .int 0, .int 0]))) :
    zCon l γ yJ0_init_db425 cJ0_init_db425 5 none [.ref b, .ref a, .null] M 3 100 1 1002 (fun v' M' => v' = none ∧ ∃ u, M u = none ∧ hSg γ M' b u w ∧ zFr M M' [b, u]) (fun _ _ => False) := by
  have hB0 := hB
  obtain ⟨hw, hm, hob, g, hv, hg, hgw⟩ := hB
  refine zEnter [some (.ref b), some (.ref a), some .null, none, none] (by decide +kernel) rfl rfl (Nat.le_of_ble_eq_true rfl) ?_
  intro p e s m args below meth c Q C hin hQ
  have nvb : v ≠ b := fun h => zne_ka hM hv h.symm
  refine z_aload_n C dJ0_init_db425_0 rfl ?_
  refine z_objInit C dJ0_init_db425_1 t4_138 ob_in ob_co ⟨by decide, (by first | decide | exact Nat.le_of_ble_eq_true rfl)⟩ ?_
  refine z_aload_n C dJ0_init_db425_4 rfl ?_
  refine z_callV (Cn := RJ4) (ci := 9) C dJ0_init_db425_5 lk_J0_552 mw_J5_getValue_6d5f1 mi_J5_getValue_6d5f1 msb_J5_getValue_6d5f1 rfl hob (k_B_getValue hB0) rfl (by first | decide | exact Nat.le_of_ble_eq_true rfl) ⟨by decide, by decide, by decide, by decide⟩ (fun _ _ h => False.elim h) (fun v M' hp => ?_)
  obtain ⟨rfl, rfl⟩ := hp
  refine z_astore_n C dJ0_init_db425_8 (by decide) ?_
  refine z_aload_n C dJ0_init_db425_9 rfl ?_
  refine z_callU (ci := 9) C dJ0_init_db425_10 lk_J0_549 mw_J5_length_8abf5 mi_J5_length_8abf5 mw_J4_length_8abf5 sm_J5_length_8abf5 mi_J4_length_8abf5 se_len rfl hob (k_B_length hB0) rfl (by first | decide | exact Nat.le_of_ble_eq_true rfl) ⟨by decide, by decide, by decide, by decide⟩ (fun _ _ h => False.elim h) (fun v M' hp => ?_)
  obtain ⟨rfl, rfl⟩ := hp
  refine z_istore C dJ0_init_db425_13 (by decide) ?_
  refine z_aload_n C dJ0_init_db425_15 rfl ?_
  refine z_callV (Cn := RJ4) (ci := 9) C dJ0_init_db425_16 lk_J0_1047 mw_J5_isLatin1_aae02 mi_J5_isLatin1_aae02 msb_J5_isLatin1_aae02 rfl hob (k_B_isLatin1 hB0) rfl (by first | decide | exact Nat.le_of_ble_eq_true rfl) ⟨by decide, by decide, by decide, by decide⟩ (fun _ _ h => False.elim h) (fun v M' hp => ?_)
  obtain ⟨rfl, rfl⟩ := hp
  refine z_if_eqZ (tgt := 41) C dJ0_init_db425_19 (by decide) (by omega) (fun h19 => ?_) (fun h19 => ?_)
  · exact absurd h19 (by decide)
  · refine z_aload_n C dJ0_init_db425_22 rfl ?_
    refine z_iconst C dJ0_init_db425_23 ?_
    refine z_putF C dJ0_init_db425_24 fl_J0_15 hin (by first | assumption | ((repeat (first | assumption | exact va_up_self _ _ _ | refine (va_up_ne _ _ (by assumption)).trans ?_)); done) | (simp [va_up, *] <;> rfl)) (fun _ _ _ h => by cases h; rfl) rfl rfl (by simp) ?_
    refine z_aload_n C dJ0_init_db425_27 rfl ?_
    refine z_aload_n C dJ0_init_db425_28 rfl ?_
    refine z_iconst C dJ0_init_db425_29 ?_
    refine z_iload C dJ0_init_db425_30 rfl ?_
    refine z_callS C dJ0_init_db425_32 lk_J0_54 mw_J7_copyOfRange_39247 mst_J7_copyOfRange_39247 (k_B_range (N := w.length) ((va_up_ne _ _ nvb).trans hv) hg (by omega) hm.2) rfl (by first | decide | exact Nat.le_of_ble_eq_true rfl) ⟨by decide, by decide, by decide, by decide⟩ (fun _ _ h => False.elim h) (fun v M' hp => ?_)
    obtain ⟨u, hu, rfl, g', rfl, hg', hgg⟩ := hp
    have nub : b ≠ u := fun w => by rw [← w, va_up_self] at hu; cases hu
    rw [va_up_ne _ _ nub.symm] at hu
    refine z_putF C dJ0_init_db425_35 fl_J0_9 hin ((va_up_ne _ _ nub).trans (va_up_self _ _ _)) (fun _ _ _ h => by cases h; rfl) rfl rfl (by simp) ?_
    refine z_goto (tgt := 97) C dJ0_init_db425_38 (by decide) ?_
    refine z_vret C hQ dJ0_init_db425_97 (by decide) (by decide) ?_
    refine ⟨rfl, u, hu, ⟨hw, .inr ⟨g', (va_up_ne _ _ nub.symm).trans (va_up_self _ _ _), hg', fun j hj => (hgg j hj).trans (hgw j hj)⟩, .inr (va_up_self _ _ _)⟩, ?_⟩
    exact (zFr.u1 (zFr.u1 (zFr.u1 zFr.rf (by simp)) (by simp)) (by simp))
set_option maxHeartbeats 4000000 in
set_option maxRecDepth 100000 in
theorem k_B_str1 {l : Launch} {γ : zG} {M : zM} {a v mm b : Nat} {w : List Int} (hB : hSb γ M a v w mm) (hM : M b = some (.inr (10, [.null, .int 0, .int 0, .int 0]))) :
    zCon l γ yJ0_init_81219 cJ0_init_81219 2 none [.ref b, .ref a] M 4 130 1 1002 (fun v' M' => v' = none ∧ ∃ u, M u = none ∧ hSg γ M' b u w ∧ zFr M M' [b, u]) (fun _ _ => False) := by
  refine zEnter [some (.ref b), some (.ref a)] (by decide +kernel) rfl rfl (Nat.le_of_ble_eq_true rfl) ?_
  intro p e s m args below meth c Q C hin hQ
  refine z_aload_n C dJ0_init_81219_0 rfl ?_
  refine z_aload_n C dJ0_init_81219_1 rfl ?_
  refine z_null C dJ0_init_81219_2 ?_
  refine z_callI C dJ0_init_81219_3 lk_J0_489 mw_J0_init_db425 rfl mi_J0_init_db425 (k_B_str0 hB hM) rfl (by first | decide | exact Nat.le_of_ble_eq_true rfl) ⟨by decide, by decide, by decide, by decide⟩ (fun _ _ h => False.elim h) (fun v M' hp => ?_)
  obtain ⟨rfl, hp⟩ := hp
  refine z_vret C hQ dJ0_init_81219_6 (by decide) (by decide) ?_
  exact ⟨rfl, hp⟩
set_option maxHeartbeats 4000000 in
set_option maxRecDepth 100000 in
theorem k_B_toString {l : Launch} {γ : zG} {M : zM} {a v mm : Nat} {w : List Int} (hB : hSb γ M a v w mm) :
    zCon l γ yJ4_toString_0e30d cJ4_toString_0e30d 1 (some (.object "java/lang/String")) [.ref a] M 5 160 2 1010 (fun v' M' => ∃ b u, M b = none ∧ M u = none ∧ v' = some (.ref b) ∧ hSg γ M' b u w ∧ zFr M M' [b, u]) (fun _ _ => False) := by
  obtain ⟨hw, hm, hob, g, hv, hg, hgw⟩ := hB
  refine zEnter [some (.ref a)] (by decide +kernel) rfl rfl (Nat.le_of_ble_eq_true rfl) ?_
  intro p e s m args below meth c Q C hin hQ
  refine z_new C dJ4_toString_0e30d_0 nw_J4_18 ⟨by decide, by decide⟩ (fun q0 hq0 => ?_)
  have nb : a ≠ q0 := fun w => by rw [w, hq0] at hob; cases hob
  have nb2 : v ≠ q0 := fun w => by rw [w, hq0] at hv; cases hv
  have hB1 : hSb γ (va_up M q0 (some (.inr (10, [.null, .int 0, .int 0, .int 0])))) a v w mm := ⟨hw, hm, (va_up_ne _ _ nb).trans hob, g, (va_up_ne _ _ nb2).trans hv, hg, hgw⟩
  refine z_dup C dJ4_toString_0e30d_3 rfl ?_
  refine z_aload_n C dJ4_toString_0e30d_4 rfl ?_
  refine z_callI C dJ4_toString_0e30d_5 lk_J4_137 mw_J0_init_81219 rfl mi_J0_init_81219 (k_B_str1 hB1 (va_up_self _ _ _)) rfl (by first | decide | exact Nat.le_of_ble_eq_true rfl) ⟨by decide, by decide, by decide, by decide⟩ (fun _ _ h => False.elim h) (fun v M' hp => ?_)
  obtain ⟨rfl, u, hu, hS, f⟩ := hp
  have nu : u ≠ q0 := fun w => by rw [w, va_up_self] at hu; cases hu
  rw [va_up_ne _ _ nu] at hu
  refine z_aret C hQ dJ4_toString_0e30d_8 (by first | exact Or.inl ⟨_, rfl⟩ | exact Or.inr ⟨_, rfl⟩) (Or.inr ⟨_, rfl⟩) (by decide) (by decide) ?_
  exact ⟨q0, u, hq0, hu, rfl, hS, (zFr.up (by simp)).tr f (fun _ h => h) (fun _ h => h)⟩

