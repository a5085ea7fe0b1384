/-! the face's queries on arguments in range -/
theorem zCv.zb {b p : Int} (h : zCv b p) : zR b := by
  unfold zCv zSy at h
  unfold zR
  omega
theorem zCv.zp {b p : Int} (h : zCv b p) : zR p := by
  unfold zCv zSy at h
  unfold zR
  omega
theorem zSy.z {x : Int} (h : zSy x) : zR x := by
  unfold zSy at h
  unfold zR
  omega
set_option maxHeartbeats 4000000 in
set_option maxRecDepth 100000 in
theorem k_I_sym {l : Launch} {γ : zG} {M : zM} {i : Int} (hi : zSy i) :
    zCon l γ yX8_requireSymbol cX8_requireSymbol 1 none [.int (zi i)] M 1 30 0 0 (fun v' M' => v' = none ∧ M' = M) (fun _ _ => False) := by
  refine zEnter [some (.int (zi i))] (by decide +kernel) rfl rfl (Nat.le_of_ble_eq_true rfl) ?_
  intro p e s m args below meth c Q C hin hQ
  refine z_iload_n C dX8_requireSymbol_0 rfl ?_
  refine z_callS C dX8_requireSymbol_1 lk_X8_378 mw_X8_isSymbol mst_X8_isSymbol (k_X8_isSymbol hi.z) rfl (by first | decide | exact Nat.le_of_ble_eq_true rfl) ⟨by decide, by decide, by decide, by decide⟩ (fun _ _ h => False.elim h) (fun v M' hp => ?_)
  obtain ⟨r1, rfl, rfl, hr1⟩ := hp
  have q1 := hr1.rng
  refine z_if_neZ (tgt := 18) C dX8_requireSymbol_4 (by decide) (by omega) (fun h4 => ?_) (fun h4 => ?_)
  · refine z_vret C hQ dX8_requireSymbol_18 (by decide) (by decide) ?_
    exact ⟨rfl, rfl⟩
  · exact absurd hi (hr1.f h4)
set_option maxHeartbeats 4000000 in
set_option maxRecDepth 100000 in
theorem k_I_ctx {l : Launch} {γ : zG} {M : zM} {b p0 : Int} (hcv : zCv b p0) :
    zCon l γ yX8_requireContext cX8_requireContext 3 none [.int (zi b), .int (zi p0)] M 1 40 0 0 (fun v' M' => v' = none ∧ M' = M) (fun _ _ => False) := by
  have hb := hcv.zb
  have hp0 := hcv.zp
  have hb1 := hb
  have hp1 := hp0
  unfold zR at hb1 hp1
  refine zEnter [some (.int (zi b)), some (.int (zi p0)), none] (by decide +kernel) rfl rfl (Nat.le_of_ble_eq_true rfl) ?_
  intro p e s m args below meth c Q C hin hQ
  have fin : ∀ r : Int, zB r (zCv b p0) → zAW p l e { frames := 1, cells := 0, slots := 0, locals := 40 } s m args below meth c γ 3 Q M 0 0 43 [some (.int (zi b)), some (.int (zi p0)), some (.int (zi r))] [] := by
    intro r hr
    have q := hr.rng
    refine z_iload_n C dX8_requireContext_43 rfl ?_
    refine z_if_neZ (tgt := 58) C dX8_requireContext_44 (by decide) (by omega) (fun h44 => ?_) (fun h44 => ?_)
    · refine z_vret C hQ dX8_requireContext_58 (by decide) (by decide) ?_
      exact ⟨rfl, rfl⟩
    · exact absurd hcv (hr.f h44)
  have ex : ∀ r : Int, zB r (zCv b p0) → zAW p l e { frames := 1, cells := 0, slots := 0, locals := 40 } s m args below meth c γ 3 Q M 0 0 42 [some (.int (zi b)), some (.int (zi p0)), none] [.int (zi r)] := by
    intro r hr
    refine z_istore_n C dX8_requireContext_42 (by decide) ?_
    exact fin r hr
  refine z_iload_n C dX8_requireContext_0 rfl ?_
  refine z_iconst C dX8_requireContext_1 ?_
  refine z_icmp_neZ (tgt := 18) C dX8_requireContext_2 (by decide) (by omega) (by omega) (fun h2 => ?_) (fun h2 => ?_)
  · refine z_iload_n C dX8_requireContext_18 rfl ?_
    refine z_callS C dX8_requireContext_19 lk_X8_378 mw_X8_isSymbol mst_X8_isSymbol (k_X8_isSymbol hp0) rfl (by first | decide | exact Nat.le_of_ble_eq_true rfl) ⟨by decide, by decide, by decide, by decide⟩ (fun _ _ h => False.elim h) (fun v M' hp => ?_)
    obtain ⟨r19, rfl, rfl, hr19⟩ := hp
    have q19 := hr19.rng
    refine z_if_eqZ (tgt := 41) C dX8_requireContext_22 (by decide) (by omega) (fun h22 => ?_) (fun h22 => ?_)
    · refine z_iconst C dX8_requireContext_41 ?_
      exact ex 0 (.inr ⟨rfl, fun q => by
        rcases q with q | q
        · omega
        · exact hr19.f h22 q.1⟩)
    · refine z_iload_n C dX8_requireContext_25 rfl ?_
      refine z_iconst C dX8_requireContext_26 ?_
      refine z_icmp_eqZ (tgt := 37) C dX8_requireContext_27 (by decide) (by omega) (by omega) (fun h27 => ?_) (fun h27 => ?_)
      · refine z_iconst C dX8_requireContext_37 ?_
        refine z_goto (tgt := 42) C dX8_requireContext_38 (by decide) ?_
        exact ex 1 (.inl ⟨rfl, .inr ⟨hr19.t h22, .inl h27⟩⟩)
      · refine z_iload_n C dX8_requireContext_30 rfl ?_
        refine z_callS C dX8_requireContext_31 lk_X8_378 mw_X8_isSymbol mst_X8_isSymbol (k_X8_isSymbol hb) rfl (by first | decide | exact Nat.le_of_ble_eq_true rfl) ⟨by decide, by decide, by decide, by decide⟩ (fun _ _ h => False.elim h) (fun v M' hp => ?_)
        obtain ⟨r31, rfl, rfl, hr31⟩ := hp
        have q31 := hr31.rng
        refine z_if_eqZ (tgt := 41) C dX8_requireContext_34 (by decide) (by omega) (fun h34 => ?_) (fun h34 => ?_)
        · refine z_iconst C dX8_requireContext_41 ?_
          exact ex 0 (.inr ⟨rfl, fun q => by
            rcases q with q | q
            · omega
            · rcases q.2 with q | q
              · exact h27 q
              · exact hr31.f h34 q⟩)
        · refine z_iconst C dX8_requireContext_37 ?_
          refine z_goto (tgt := 42) C dX8_requireContext_38 (by decide) ?_
          exact ex 1 (.inl ⟨rfl, .inr ⟨hr19.t h22, .inr (hr31.t h34)⟩⟩)
  · refine z_iload_n C dX8_requireContext_5 rfl ?_
    refine z_iconst C dX8_requireContext_6 ?_
    refine z_icmp_neZ (tgt := 14) C dX8_requireContext_7 (by decide) (by omega) (by omega) (fun h7 => ?_) (fun h7 => ?_)
    · refine z_iconst C dX8_requireContext_14 ?_
      refine z_goto (tgt := 42) C dX8_requireContext_15 (by decide) ?_
      exact ex 0 (.inr ⟨rfl, fun q => by
        rcases q with q | q
        · omega
        · have := q.1
          unfold zSy at this
          omega⟩)
    · refine z_iconst C dX8_requireContext_10 ?_
      refine z_goto (tgt := 42) C dX8_requireContext_11 (by decide) ?_
      exact ex 1 (.inl ⟨rfl, .inl ⟨by omega, by omega⟩⟩)
set_option maxHeartbeats 4000000 in
set_option maxRecDepth 100000 in
theorem k_I_chance {l : Launch} {γ : zG} {M : zM} {U : Nat → Nat} {pn cnt ec ep : Int} {S : zSt} {i pb pp s0 T B E : Int} {mk : Int32} (hF : hFo γ M U pn cnt ec ep) (hD : hSt γ M (zUb U 0) S) (hk : zOk S) (hH : hCh γ M (U 14) T B E mk) (hi : 0 ≤ i ∧ i < sRn S) (hcv : zCv pb pp) (hs : zSy s0) :
    zCon l γ yX8_chanceOf cX8_chanceOf 6 (some (.object "TrigramReaders$Chance")) [.ref (U 0), .int (zi i), .int (zi pb), .int (zi pp), .int (zi s0)] M 3 100 0 0 (fun v' M' => v' = some (.ref (U 14)) ∧ zFr M M' [U 14] ∧ ∃ mk', hCh γ M' (U 14) (zcT (rC (sRd S i.toNat)) pb pp s0 (rMe (sRd S i.toNat))) (zcB (rC (sRd S i.toNat)) pb pp s0 (rMe (sRd S i.toNat))) (zcE (rC (sRd S i.toNat)) pb pp s0 (rMe (sRd S i.toNat))) mk') (fun _ _ => False) := by
  have hob := id hF
  unfold hFo at hob
  have hch := id hH
  unfold hCh at hch
  have hkn := hk.1.1
  refine zEnter [some (.ref (U 0)), some (.int (zi i)), some (.int (zi pb)), some (.int (zi pp)), some (.int (zi s0)), none] (by decide +kernel) rfl rfl (Nat.le_of_ble_eq_true rfl) ?_
  intro p e s m args below meth c Q C hin hQ
  refine z_aload_n C dX8_chanceOf_0 rfl ?_
  refine z_iload_n C dX8_chanceOf_1 rfl ?_
  refine z_callV C dX8_chanceOf_2 lk_X8_149 mw_X8_existingReader mi_X8_existingReader ms_X8_existingReader rfl (by first | assumption | ((repeat (first | assumption | exact va_up_self _ _ _ | refine (va_up_ne _ _ (by assumption)).trans ?_)); done) | (simp [va_up, *] <;> rfl)) (k_X8_existingReader_in hF hD hk.nk hi) rfl (by first | decide | exact Nat.le_of_ble_eq_true rfl) ⟨by decide, by decide, by decide, by decide⟩ (fun _ _ h => False.elim h) (fun v M' hp => ?_)
  obtain ⟨rfl, rfl⟩ := hp
  have g2 := hi
  refine z_astore C dX8_chanceOf_5 (by decide) ?_
  refine z_iload_n C dX8_chanceOf_7 rfl ?_
  refine z_iload_n C dX8_chanceOf_8 rfl ?_
  refine z_callS C dX8_chanceOf_9 lk_X8_198 mw_X8_requireContext mst_X8_requireContext (k_I_ctx hcv) rfl (by first | decide | exact Nat.le_of_ble_eq_true rfl) ⟨by decide, by decide, by decide, by decide⟩ (fun _ _ h => False.elim h) (fun v M' hp => ?_)
  obtain ⟨rfl, rfl⟩ := hp
  have g9 := hcv
  refine z_iload C dX8_chanceOf_12 rfl ?_
  refine z_callS C dX8_chanceOf_14 lk_X8_185 mw_X8_requireSymbol mst_X8_requireSymbol (k_I_sym hs) rfl (by first | decide | exact Nat.le_of_ble_eq_true rfl) ⟨by decide, by decide, by decide, by decide⟩ (fun _ _ h => False.elim h) (fun v M' hp => ?_)
  obtain ⟨rfl, rfl⟩ := hp
  have g14 := hs
  have hR := hD.rd (i := i.toNat) (by omega) (by omega)
  have hro := (hk.2.2 i.toNat (by omega)).1.1
  refine z_aload_n C dX8_chanceOf_17 rfl ?_
  refine z_get C dX8_chanceOf_18 fl_X8_74 (by first | assumption | ((repeat (first | assumption | exact va_up_self _ _ _ | refine (va_up_ne _ _ (by assumption)).trans ?_)); done) | (simp [va_up, *] <;> rfl)) rfl ?_
  refine z_aload C dX8_chanceOf_21 rfl ?_
  refine z_iload_n C dX8_chanceOf_23 rfl ?_
  refine z_iload_n C dX8_chanceOf_24 rfl ?_
  refine z_iload C dX8_chanceOf_25 rfl ?_
  refine z_callV C dX8_chanceOf_27 lk_X8_270 mw_X1_find mi_X1_find ms_X1_find rfl (by first | assumption | ((repeat (first | assumption | exact va_up_self _ _ _ | refine (va_up_ne _ _ (by assumption)).trans ?_)); done) | (simp [va_up, *] <;> rfl)) (k_X1_find hH hR g9.cx (s0 := s0) g14 hro) rfl (by first | decide | exact Nat.le_of_ble_eq_true rfl) ⟨by decide, by decide, by decide, by decide⟩ (fun _ _ h => False.elim h) (fun v M' hp => ?_)
  obtain ⟨rfl, f27, mk2, hH2⟩ := hp
  have hob2 := f27.at (b := U 0) (by have := zne_kk hF hH (by decide); simp [this]) hob
  refine z_aload_n C dX8_chanceOf_30 rfl ?_
  refine z_get C dX8_chanceOf_31 fl_X8_74 (by first | assumption | ((repeat (first | assumption | exact va_up_self _ _ _ | refine (va_up_ne _ _ (by assumption)).trans ?_)); done) | (simp [va_up, *] <;> rfl)) rfl ?_
  refine z_aret C hQ dX8_chanceOf_34 (by first | exact Or.inl ⟨_, rfl⟩ | exact Or.inr ⟨_, rfl⟩) (Or.inr ⟨_, rfl⟩) (by decide) (by decide) ?_
  exact ⟨rfl, f27, mk2, hH2⟩
set_option maxHeartbeats 4000000 in
set_option maxRecDepth 100000 in
theorem k_I_readerCount {l : Launch} {γ : zG} {M : zM} {U : Nat → Nat} {Y : zSys} (hc : hFc γ M U Y) (hk : yOk Y) :
    zCon l γ yX8_readerCount cX8_readerCount 1 (some .int) [.ref (U 0)] M 4 145 0 0 (fun v' M' => v' = some (.int (zi (sRn (yS Y)))) ∧ M' = M) (fun _ _ => False) := by
  have hc0 := hc
  obtain ⟨hI, pn, Z, iF, oF, hZ, hF, hX, hi1, ho1⟩ := hc
  have hob := id hF
  unfold hFo at hob
  have hD : hSt γ M (zUb U 0) (yS Y) := hZ.2.1 ▸ hX.st0
  have hst := hD.ob
  have hkn := hk.1.1
  have hkk := hk.1.nk
  refine zEnter [some (.ref (U 0))] (by decide +kernel) rfl rfl (Nat.le_of_ble_eq_true rfl) ?_
  intro p e s m args below meth c Q C hin hQ
  refine z_aload_n C dX8_readerCount_0 rfl ?_
  refine z_get C dX8_readerCount_1 fl_X8_13 (by first | assumption | ((repeat (first | assumption | exact va_up_self _ _ _ | refine (va_up_ne _ _ (by assumption)).trans ?_)); done) | (simp [va_up, *] <;> rfl)) rfl ?_
  refine z_get C dX8_readerCount_4 fl_X8_143 (by first | assumption | ((repeat (first | assumption | exact va_up_self _ _ _ | refine (va_up_ne _ _ (by assumption)).trans ?_)); done) | (simp [va_up, *] <;> rfl)) rfl ?_
  refine z_iret C hQ dX8_readerCount_7 rfl (by decide) (by decide) ?_
  exact ⟨rfl, rfl⟩
set_option maxHeartbeats 4000000 in
set_option maxRecDepth 100000 in
theorem k_I_documentCount {l : Launch} {γ : zG} {M : zM} {U : Nat → Nat} {Y : zSys} (hc : hFc γ M U Y) (hk : yOk Y) :
    zCon l γ yX8_documentCount cX8_documentCount 1 (some .int) [.ref (U 0)] M 4 145 0 0 (fun v' M' => v' = some (.int (zi (sDn (yS Y)))) ∧ M' = M) (fun _ _ => False) := by
  have hc0 := hc
  obtain ⟨hI, pn, Z, iF, oF, hZ, hF, hX, hi1, ho1⟩ := hc
  have hob := id hF
  unfold hFo at hob
  have hD : hSt γ M (zUb U 0) (yS Y) := hZ.2.1 ▸ hX.st0
  have hst := hD.ob
  have hkn := hk.1.1
  have hkk := hk.1.nk
  refine zEnter [some (.ref (U 0))] (by decide +kernel) rfl rfl (Nat.le_of_ble_eq_true rfl) ?_
  intro p e s m args below meth c Q C hin hQ
  refine z_aload_n C dX8_documentCount_0 rfl ?_
  refine z_get C dX8_documentCount_1 fl_X8_13 (by first | assumption | ((repeat (first | assumption | exact va_up_self _ _ _ | refine (va_up_ne _ _ (by assumption)).trans ?_)); done) | (simp [va_up, *] <;> rfl)) rfl ?_
  refine z_get C dX8_documentCount_4 fl_X8_167 (by first | assumption | ((repeat (first | assumption | exact va_up_self _ _ _ | refine (va_up_ne _ _ (by assumption)).trans ?_)); done) | (simp [va_up, *] <;> rfl)) rfl ?_
  refine z_iret C hQ dX8_documentCount_7 rfl (by decide) (by decide) ?_
  exact ⟨rfl, rfl⟩
set_option maxHeartbeats 4000000 in
set_option maxRecDepth 100000 in
theorem k_I_escapeMethod {l : Launch} {γ : zG} {M : zM} {U : Nat → Nat} {Y : zSys} {rr : Int} (hc : hFc γ M U Y) (hk : yOk Y) (hrr : 0 ≤ rr ∧ rr < sRn (yS Y)) :
    zCon l γ yX8_escapeMethod cX8_escapeMethod 2 (some .int) [.ref (U 0), .int (zi rr)] M 4 145 0 0 (fun v' M' => v' = some (.int (zi (rMe (sRd (yS Y) rr.toNat)))) ∧ M' = M) (fun _ _ => False) := by
  have hc0 := hc
  obtain ⟨hI, pn, Z, iF, oF, hZ, hF, hX, hi1, ho1⟩ := hc
  have hob := id hF
  unfold hFo at hob
  have hD : hSt γ M (zUb U 0) (yS Y) := hZ.2.1 ▸ hX.st0
  have hst := hD.ob
  have hkn := hk.1.1
  have hkk := hk.1.nk
  refine zEnter [some (.ref (U 0)), some (.int (zi rr))] (by decide +kernel) rfl rfl (Nat.le_of_ble_eq_true rfl) ?_
  intro p e s m args below meth c Q C hin hQ
  refine z_aload_n C dX8_escapeMethod_0 rfl ?_
  refine z_iload_n C dX8_escapeMethod_1 rfl ?_
  refine z_callV C dX8_escapeMethod_2 lk_X8_149 mw_X8_existingReader mi_X8_existingReader ms_X8_existingReader rfl (by first | assumption | ((repeat (first | assumption | exact va_up_self _ _ _ | refine (va_up_ne _ _ (by assumption)).trans ?_)); done) | (simp [va_up, *] <;> rfl)) (k_X8_existingReader_in hF hD hkk hrr) rfl (by first | decide | exact Nat.le_of_ble_eq_true rfl) ⟨by decide, by decide, by decide, by decide⟩ (fun _ _ h => False.elim h) (fun v M' hp => ?_)
  obtain ⟨rfl, rfl⟩ := hp
  have g2 := hrr
  have hro := hD.rdo (i := rr.toNat) (by omega) (by omega)
  have hR := hD.rd (i := rr.toNat) (by omega) (by omega)
  obtain ⟨cn, hco, hcz, hcr⟩ := hD.rdc (i := rr.toNat) (by omega) (by omega)
  have hrk := (hk.1.2.2 rr.toNat (by omega)).1
  refine z_get C dX8_escapeMethod_5 fl_X8_164 (by first | assumption | ((repeat (first | assumption | exact va_up_self _ _ _ | refine (va_up_ne _ _ (by assumption)).trans ?_)); done) | (simp [va_up, *] <;> rfl)) rfl ?_
  refine z_iret C hQ dX8_escapeMethod_8 rfl (by decide) (by decide) ?_
  exact ⟨rfl, rfl⟩
set_option maxHeartbeats 4000000 in
set_option maxRecDepth 100000 in
theorem k_I_documentLength {l : Launch} {γ : zG} {M : zM} {U : Nat → Nat} {Y : zSys} {dd : Int} (hc : hFc γ M U Y) (hk : yOk Y) (hdd : 0 ≤ dd ∧ dd < sDn (yS Y)) :
    zCon l γ yX8_documentLength cX8_documentLength 2 (some .int) [.ref (U 0), .int (zi dd)] M 4 145 0 0 (fun v' M' => v' = some (.int (zi (dLe (sDc (yS Y) dd.toNat)))) ∧ M' = M) (fun _ _ => False) := by
  have hc0 := hc
  obtain ⟨hI, pn, Z, iF, oF, hZ, hF, hX, hi1, ho1⟩ := hc
  have hob := id hF
  unfold hFo at hob
  have hD : hSt γ M (zUb U 0) (yS Y) := hZ.2.1 ▸ hX.st0
  have hst := hD.ob
  have hkn := hk.1.1
  have hkk := hk.1.nk
  refine zEnter [some (.ref (U 0)), some (.int (zi dd))] (by decide +kernel) rfl rfl (Nat.le_of_ble_eq_true rfl) ?_
  intro p e s m args below meth c Q C hin hQ
  refine z_aload_n C dX8_documentLength_0 rfl ?_
  refine z_iload_n C dX8_documentLength_1 rfl ?_
  refine z_callV C dX8_documentLength_2 lk_X8_170 mw_X8_existingDocument mi_X8_existingDocument ms_X8_existingDocument rfl (by first | assumption | ((repeat (first | assumption | exact va_up_self _ _ _ | refine (va_up_ne _ _ (by assumption)).trans ?_)); done) | (simp [va_up, *] <;> rfl)) (k_X8_existingDocument_in hF hD hkk hdd) rfl (by first | decide | exact Nat.le_of_ble_eq_true rfl) ⟨by decide, by decide, by decide, by decide⟩ (fun _ _ h => False.elim h) (fun v M' hp => ?_)
  obtain ⟨rfl, rfl⟩ := hp
  have g2 := hdd
  obtain ⟨sy, hX2, hXk2, hXv2⟩ := hD.dk (d := dd.toNat) (by omega) (by omega)
  have obd2 := hX2.1
  refine z_get C dX8_documentLength_5 fl_X8_174 (by first | assumption | ((repeat (first | assumption | exact va_up_self _ _ _ | refine (va_up_ne _ _ (by assumption)).trans ?_)); done) | (simp [va_up, *] <;> rfl)) rfl ?_
  refine z_iret C hQ dX8_documentLength_8 rfl (by decide) (by decide) ?_
  exact ⟨rfl, rfl⟩
set_option maxHeartbeats 4000000 in
set_option maxRecDepth 100000 in
theorem k_I_documentSymbol {l : Launch} {γ : zG} {M : zM} {U : Nat → Nat} {Y : zSys} {dd ii : Int} (hc : hFc γ M U Y) (hk : yOk Y) (hdd : 0 ≤ dd ∧ dd < sDn (yS Y)) (hi0 : 0 ≤ ii ∧ ii < dLe (sDc (yS Y) dd.toNat)) :
    zCon l γ yX8_documentSymbol cX8_documentSymbol 4 (some .int) [.ref (U 0), .int (zi dd), .int (zi ii)] M 4 145 0 0 (fun v' M' => v' = some (.int (zi (dSy (sDc (yS Y) dd.toNat) ii.toNat))) ∧ M' = M) (fun _ _ => False) := by
  have hii : zR ii := by
    have := (hk.1.2.1 dd.toNat (by omega)).1
    unfold zR
    omega
  have hc0 := hc
  obtain ⟨hI, pn, Z, iF, oF, hZ, hF, hX, hi1, ho1⟩ := hc
  have hob := id hF
  unfold hFo at hob
  have hD : hSt γ M (zUb U 0) (yS Y) := hZ.2.1 ▸ hX.st0
  have hst := hD.ob
  have hkn := hk.1.1
  have hkk := hk.1.nk
  refine zEnter [some (.ref (U 0)), some (.int (zi dd)), some (.int (zi ii)), none] (by decide +kernel) rfl rfl (Nat.le_of_ble_eq_true rfl) ?_
  intro p e s m args below meth c Q C hin hQ
  refine z_aload_n C dX8_documentSymbol_0 rfl ?_
  refine z_iload_n C dX8_documentSymbol_1 rfl ?_
  refine z_callV C dX8_documentSymbol_2 lk_X8_170 mw_X8_existingDocument mi_X8_existingDocument ms_X8_existingDocument rfl (by first | assumption | ((repeat (first | assumption | exact va_up_self _ _ _ | refine (va_up_ne _ _ (by assumption)).trans ?_)); done) | (simp [va_up, *] <;> rfl)) (k_X8_existingDocument_in hF hD hkk hdd) rfl (by first | decide | exact Nat.le_of_ble_eq_true rfl) ⟨by decide, by decide, by decide, by decide⟩ (fun _ _ h => False.elim h) (fun v M' hp => ?_)
  obtain ⟨rfl, rfl⟩ := hp
  have g2 := hdd
  obtain ⟨sy, hX2, hXk2, hXv2⟩ := hD.dk (d := dd.toNat) (by omega) (by omega)
  have obd2 := hX2.1
  refine z_iload_n C dX8_documentSymbol_5 rfl ?_
  refine z_callV C dX8_documentSymbol_6 lk_X8_177 mw_X3_symbolAt mi_X3_symbolAt ms_X3_symbolAt rfl obd2 (k_X3_symbolAt hX2 hXk2 hii) rfl (by first | decide | exact Nat.le_of_ble_eq_true rfl) ⟨by decide, by decide, by decide, by decide⟩ (fun _ _ h => False.elim h) (fun v M' hp => ?_)
  obtain ⟨r6, rfl, rfl, hr6⟩ := hp
  have hz6 := hXk2.at ii
  rw [← hr6] at hz6
  refine z_istore_n C dX8_documentSymbol_9 (by decide) ?_
  refine z_iload_n C dX8_documentSymbol_10 rfl ?_
  refine z_iconst C dX8_documentSymbol_11 ?_
  refine z_icmp_neZ (tgt := 25) C dX8_documentSymbol_12 (by decide) (by omega) (by omega) (fun h12 => ?_) (fun h12 => ?_)
  · refine z_iload_n C dX8_documentSymbol_25 rfl ?_
    refine z_iret C hQ dX8_documentSymbol_26 rfl (by decide) (by decide) ?_
    have h := hi0
    rw [hr6, hAt_in h, hXv2 _ (by omega)]
    exact ⟨rfl, rfl⟩
  · have h7 := hXk2.in hi0
    rw [hr6] at h12
    exact absurd h12 (by omega)
set_option maxHeartbeats 4000000 in
set_option maxRecDepth 100000 in
theorem k_I_countOrder0 {l : Launch} {γ : zG} {M : zM} {U : Nat → Nat} {Y : zSys} {rr ss : Int} (hc : hFc γ M U Y) (hk : yOk Y) (hrr : 0 ≤ rr ∧ rr < sRn (yS Y)) (hss : zSy ss) :
    zCon l γ yX8_countOrder0 cX8_countOrder0 4 (some .int) [.ref (U 0), .int (zi rr), .int (zi ss)] M 4 145 0 0 (fun v' M' => v' = some (.int (zi (rC (sRd (yS Y) rr.toNat) (zCs 0 (-1) (-1) + ss)))) ∧ M' = M) (fun _ _ => False) := by
  have hc0 := hc
  obtain ⟨hI, pn, Z, iF, oF, hZ, hF, hX, hi1, ho1⟩ := hc
  have hob := id hF
  unfold hFo at hob
  have hD : hSt γ M (zUb U 0) (yS Y) := hZ.2.1 ▸ hX.st0
  have hst := hD.ob
  have hkn := hk.1.1
  have hkk := hk.1.nk
  refine zEnter [some (.ref (U 0)), some (.int (zi rr)), some (.int (zi ss)), none] (by decide +kernel) rfl rfl (Nat.le_of_ble_eq_true rfl) ?_
  intro p e s m args below meth c Q C hin hQ
  refine z_aload_n C dX8_countOrder0_0 rfl ?_
  refine z_iload_n C dX8_countOrder0_1 rfl ?_
  refine z_callV C dX8_countOrder0_2 lk_X8_149 mw_X8_existingReader mi_X8_existingReader ms_X8_existingReader rfl (by first | assumption | ((repeat (first | assumption | exact va_up_self _ _ _ | refine (va_up_ne _ _ (by assumption)).trans ?_)); done) | (simp [va_up, *] <;> rfl)) (k_X8_existingReader_in hF hD hkk hrr) rfl (by first | decide | exact Nat.le_of_ble_eq_true rfl) ⟨by decide, by decide, by decide, by decide⟩ (fun _ _ h => False.elim h) (fun v M' hp => ?_)
  obtain ⟨rfl, rfl⟩ := hp
  have g2 := hrr
  have hro := hD.rdo (i := rr.toNat) (by omega) (by omega)
  have hR := hD.rd (i := rr.toNat) (by omega) (by omega)
  obtain ⟨cn, hco, hcz, hcr⟩ := hD.rdc (i := rr.toNat) (by omega) (by omega)
  have hrk := (hk.1.2.2 rr.toNat (by omega)).1
  refine z_astore_n C dX8_countOrder0_5 (by decide) ?_
  refine z_iload_n C dX8_countOrder0_6 rfl ?_
  refine z_callS C dX8_countOrder0_7 lk_X8_185 mw_X8_requireSymbol mst_X8_requireSymbol (k_I_sym hss) rfl (by first | decide | exact Nat.le_of_ble_eq_true rfl) ⟨by decide, by decide, by decide, by decide⟩ (fun _ _ h => False.elim h) (fun v M' hp => ?_)
  obtain ⟨rfl, rfl⟩ := hp
  have g7 := hss
  refine z_aload_n C dX8_countOrder0_10 rfl ?_
  refine z_get C dX8_countOrder0_11 fl_X8_188 (by first | assumption | ((repeat (first | assumption | exact va_up_self _ _ _ | refine (va_up_ne _ _ (by assumption)).trans ?_)); done) | (simp [va_up, *] <;> rfl)) rfl ?_
  refine z_iconst C dX8_countOrder0_14 ?_
  refine z_iconst C dX8_countOrder0_15 ?_
  refine z_iconst C dX8_countOrder0_16 ?_
  refine z_callS C dX8_countOrder0_17 lk_X8_191 mw_X8_contextStart mst_X8_contextStart (k_X8_contextStart (by unfold zR; omega)) rfl (by first | decide | exact Nat.le_of_ble_eq_true rfl) ⟨by decide, by decide, by decide, by decide⟩ (fun _ _ h => False.elim h) (fun v M' hp => ?_)
  obtain ⟨r17, rfl, rfl, hr17⟩ := hp
  subst hr17
  refine z_iload_n C dX8_countOrder0_20 rfl ?_
  refine z_iaddZ C dX8_countOrder0_21 ?_
  refine z_callV C dX8_countOrder0_22 lk_X8_195 mw_X2_valueOf mi_X2_valueOf ms_X2_valueOf rfl hco (k_X2_valueOf hR.2.2.1 (by unfold zSy at g7; unfold zR zCs; simp; omega)) rfl (by first | decide | exact Nat.le_of_ble_eq_true rfl) ⟨by decide, by decide, by decide, by decide⟩ (fun _ _ h => False.elim h) (fun v M' hp => ?_)
  obtain ⟨r22, rfl, rfl, hr22⟩ := hp
  refine z_iret C hQ dX8_countOrder0_25 rfl (by decide) (by decide) ?_
  rw [hr22]
  exact ⟨rfl, rfl⟩
set_option maxHeartbeats 4000000 in
set_option maxRecDepth 100000 in
theorem k_I_countOrder1 {l : Launch} {γ : zG} {M : zM} {U : Nat → Nat} {Y : zSys} {rr pp ss : Int} (hc : hFc γ M U Y) (hk : yOk Y) (hrr : 0 ≤ rr ∧ rr < sRn (yS Y)) (hpp : zSy pp) (hss : zSy ss) :
    zCon l γ yX8_countOrder1 cX8_countOrder1 5 (some .int) [.ref (U 0), .int (zi rr), .int (zi pp), .int (zi ss)] M 4 145 0 0 (fun v' M' => v' = some (.int (zi (rC (sRd (yS Y) rr.toNat) (zCs 1 (-1) pp + ss)))) ∧ M' = M) (fun _ _ => False) := by
  have hc0 := hc
  obtain ⟨hI, pn, Z, iF, oF, hZ, hF, hX, hi1, ho1⟩ := hc
  have hob := id hF
  unfold hFo at hob
  have hD : hSt γ M (zUb U 0) (yS Y) := hZ.2.1 ▸ hX.st0
  have hst := hD.ob
  have hkn := hk.1.1
  have hkk := hk.1.nk
  refine zEnter [some (.ref (U 0)), some (.int (zi rr)), some (.int (zi pp)), some (.int (zi ss)), none] (by decide +kernel) rfl rfl (Nat.le_of_ble_eq_true rfl) ?_
  intro p e s m args below meth c Q C hin hQ
  refine z_aload_n C dX8_countOrder1_0 rfl ?_
  refine z_iload_n C dX8_countOrder1_1 rfl ?_
  refine z_callV C dX8_countOrder1_2 lk_X8_149 mw_X8_existingReader mi_X8_existingReader ms_X8_existingReader rfl (by first | assumption | ((repeat (first | assumption | exact va_up_self _ _ _ | refine (va_up_ne _ _ (by assumption)).trans ?_)); done) | (simp [va_up, *] <;> rfl)) (k_X8_existingReader_in hF hD hkk hrr) rfl (by first | decide | exact Nat.le_of_ble_eq_true rfl) ⟨by decide, by decide, by decide, by decide⟩ (fun _ _ h => False.elim h) (fun v M' hp => ?_)
  obtain ⟨rfl, rfl⟩ := hp
  have g2 := hrr
  have hro := hD.rdo (i := rr.toNat) (by omega) (by omega)
  have hR := hD.rd (i := rr.toNat) (by omega) (by omega)
  obtain ⟨cn, hco, hcz, hcr⟩ := hD.rdc (i := rr.toNat) (by omega) (by omega)
  have hrk := (hk.1.2.2 rr.toNat (by omega)).1
  refine z_astore C dX8_countOrder1_5 (by decide) ?_
  refine z_iload_n C dX8_countOrder1_7 rfl ?_
  refine z_callS C dX8_countOrder1_8 lk_X8_185 mw_X8_requireSymbol mst_X8_requireSymbol (k_I_sym hpp) rfl (by first | decide | exact Nat.le_of_ble_eq_true rfl) ⟨by decide, by decide, by decide, by decide⟩ (fun _ _ h => False.elim h) (fun v M' hp => ?_)
  obtain ⟨rfl, rfl⟩ := hp
  have g8 := hpp
  refine z_iload_n C dX8_countOrder1_11 rfl ?_
  refine z_callS C dX8_countOrder1_12 lk_X8_185 mw_X8_requireSymbol mst_X8_requireSymbol (k_I_sym hss) rfl (by first | decide | exact Nat.le_of_ble_eq_true rfl) ⟨by decide, by decide, by decide, by decide⟩ (fun _ _ h => False.elim h) (fun v M' hp => ?_)
  obtain ⟨rfl, rfl⟩ := hp
  have g12 := hss
  refine z_aload C dX8_countOrder1_15 rfl ?_
  refine z_get C dX8_countOrder1_17 fl_X8_188 (by first | assumption | ((repeat (first | assumption | exact va_up_self _ _ _ | refine (va_up_ne _ _ (by assumption)).trans ?_)); done) | (simp [va_up, *] <;> rfl)) rfl ?_
  refine z_iconst C dX8_countOrder1_20 ?_
  refine z_iconst C dX8_countOrder1_21 ?_
  refine z_iload_n C dX8_countOrder1_22 rfl ?_
  refine z_callS C dX8_countOrder1_23 lk_X8_191 mw_X8_contextStart mst_X8_contextStart (k_X8_contextStart (by unfold zR; omega)) rfl (by first | decide | exact Nat.le_of_ble_eq_true rfl) ⟨by decide, by decide, by decide, by decide⟩ (fun _ _ h => False.elim h) (fun v M' hp => ?_)
  obtain ⟨r23, rfl, rfl, hr23⟩ := hp
  subst hr23
  refine z_iload_n C dX8_countOrder1_26 rfl ?_
  refine z_iaddZ C dX8_countOrder1_27 ?_
  refine z_callV C dX8_countOrder1_28 lk_X8_195 mw_X2_valueOf mi_X2_valueOf ms_X2_valueOf rfl hco (k_X2_valueOf hR.2.2.1 (by unfold zSy at g8 g12; unfold zR zCs; simp; omega)) rfl (by first | decide | exact Nat.le_of_ble_eq_true rfl) ⟨by decide, by decide, by decide, by decide⟩ (fun _ _ h => False.elim h) (fun v M' hp => ?_)
  obtain ⟨r28, rfl, rfl, hr28⟩ := hp
  refine z_iret C hQ dX8_countOrder1_31 rfl (by decide) (by decide) ?_
  rw [hr28]
  exact ⟨rfl, rfl⟩
set_option maxHeartbeats 4000000 in
set_option maxRecDepth 100000 in
theorem k_I_countOrder2 {l : Launch} {γ : zG} {M : zM} {U : Nat → Nat} {Y : zSys} {rr bb pp ss : Int} (hc : hFc γ M U Y) (hk : yOk Y) (hrr : 0 ≤ rr ∧ rr < sRn (yS Y)) (hbb : zSy bb) (hpp : zSy pp) (hss : zSy ss) :
    zCon l γ yX8_countOrder2 cX8_countOrder2 6 (some .int) [.ref (U 0), .int (zi rr), .int (zi bb), .int (zi pp), .int (zi ss)] M 4 145 0 0 (fun v' M' => v' = some (.int (zi (rC (sRd (yS Y) rr.toNat) (zCs 2 bb pp + ss)))) ∧ M' = M) (fun _ _ => False) := by
  have hc0 := hc
  obtain ⟨hI, pn, Z, iF, oF, hZ, hF, hX, hi1, ho1⟩ := hc
  have hob := id hF
  unfold hFo at hob
  have hD : hSt γ M (zUb U 0) (yS Y) := hZ.2.1 ▸ hX.st0
  have hst := hD.ob
  have hkn := hk.1.1
  have hkk := hk.1.nk
  refine zEnter [some (.ref (U 0)), some (.int (zi rr)), some (.int (zi bb)), some (.int (zi pp)), some (.int (zi ss)), none] (by decide +kernel) rfl rfl (Nat.le_of_ble_eq_true rfl) ?_
  intro p e s m args below meth c Q C hin hQ
  refine z_aload_n C dX8_countOrder2_0 rfl ?_
  refine z_iload_n C dX8_countOrder2_1 rfl ?_
  refine z_callV C dX8_countOrder2_2 lk_X8_149 mw_X8_existingReader mi_X8_existingReader ms_X8_existingReader rfl (by first | assumption | ((repeat (first | assumption | exact va_up_self _ _ _ | refine (va_up_ne _ _ (by assumption)).trans ?_)); done) | (simp [va_up, *] <;> rfl)) (k_X8_existingReader_in hF hD hkk hrr) rfl (by first | decide | exact Nat.le_of_ble_eq_true rfl) ⟨by decide, by decide, by decide, by decide⟩ (fun _ _ h => False.elim h) (fun v M' hp => ?_)
  obtain ⟨rfl, rfl⟩ := hp
  have g2 := hrr
  have hro := hD.rdo (i := rr.toNat) (by omega) (by omega)
  have hR := hD.rd (i := rr.toNat) (by omega) (by omega)
  obtain ⟨cn, hco, hcz, hcr⟩ := hD.rdc (i := rr.toNat) (by omega) (by omega)
  have hrk := (hk.1.2.2 rr.toNat (by omega)).1
  refine z_astore C dX8_countOrder2_5 (by decide) ?_
  refine z_iload_n C dX8_countOrder2_7 rfl ?_
  refine z_callS C dX8_countOrder2_8 lk_X8_185 mw_X8_requireSymbol mst_X8_requireSymbol (k_I_sym hbb) rfl (by first | decide | exact Nat.le_of_ble_eq_true rfl) ⟨by decide, by decide, by decide, by decide⟩ (fun _ _ h => False.elim h) (fun v M' hp => ?_)
  obtain ⟨rfl, rfl⟩ := hp
  have g8 := hbb
  refine z_iload_n C dX8_countOrder2_11 rfl ?_
  refine z_callS C dX8_countOrder2_12 lk_X8_185 mw_X8_requireSymbol mst_X8_requireSymbol (k_I_sym hpp) rfl (by first | decide | exact Nat.le_of_ble_eq_true rfl) ⟨by decide, by decide, by decide, by decide⟩ (fun _ _ h => False.elim h) (fun v M' hp => ?_)
  obtain ⟨rfl, rfl⟩ := hp
  have g12 := hpp
  refine z_iload C dX8_countOrder2_15 rfl ?_
  refine z_callS C dX8_countOrder2_17 lk_X8_185 mw_X8_requireSymbol mst_X8_requireSymbol (k_I_sym hss) rfl (by first | decide | exact Nat.le_of_ble_eq_true rfl) ⟨by decide, by decide, by decide, by decide⟩ (fun _ _ h => False.elim h) (fun v M' hp => ?_)
  obtain ⟨rfl, rfl⟩ := hp
  have g17 := hss
  refine z_aload C dX8_countOrder2_20 rfl ?_
  refine z_get C dX8_countOrder2_22 fl_X8_188 (by first | assumption | ((repeat (first | assumption | exact va_up_self _ _ _ | refine (va_up_ne _ _ (by assumption)).trans ?_)); done) | (simp [va_up, *] <;> rfl)) rfl ?_
  refine z_iconst C dX8_countOrder2_25 ?_
  refine z_iload_n C dX8_countOrder2_26 rfl ?_
  refine z_iload_n C dX8_countOrder2_27 rfl ?_
  refine z_callS C dX8_countOrder2_28 lk_X8_191 mw_X8_contextStart mst_X8_contextStart (k_X8_contextStart (by unfold zR; omega)) rfl (by first | decide | exact Nat.le_of_ble_eq_true rfl) ⟨by decide, by decide, by decide, by decide⟩ (fun _ _ h => False.elim h) (fun v M' hp => ?_)
  obtain ⟨r28, rfl, rfl, hr28⟩ := hp
  subst hr28
  refine z_iload C dX8_countOrder2_31 rfl ?_
  refine z_iaddZ C dX8_countOrder2_33 ?_
  refine z_callV C dX8_countOrder2_34 lk_X8_195 mw_X2_valueOf mi_X2_valueOf ms_X2_valueOf rfl hco (k_X2_valueOf hR.2.2.1 (by unfold zSy at g8 g12 g17; unfold zR zCs; simp; omega)) rfl (by first | decide | exact Nat.le_of_ble_eq_true rfl) ⟨by decide, by decide, by decide, by decide⟩ (fun _ _ h => False.elim h) (fun v M' hp => ?_)
  obtain ⟨r34, rfl, rfl, hr34⟩ := hp
  refine z_iret C hQ dX8_countOrder2_37 rfl (by decide) (by decide) ?_
  rw [hr34]
  exact ⟨rfl, rfl⟩
set_option maxHeartbeats 4000000 in
set_option maxRecDepth 100000 in
theorem k_I_contextTotal {l : Launch} {γ : zG} {M : zM} {U : Nat → Nat} {Y : zSys} {rr bb pp : Int} (hc : hFc γ M U Y) (hk : yOk Y) (hrr : 0 ≤ rr ∧ rr < sRn (yS Y)) (hcv : zCv bb pp) :
    zCon l γ yX8_contextTotal cX8_contextTotal 6 (some .int) [.ref (U 0), .int (zi rr), .int (zi bb), .int (zi pp)] M 4 145 0 0 (fun v' M' => v' = some (.int (zi (zsum (rC (sRd (yS Y) rr.toNat)) (zCs (zFo bb pp) bb pp) 27))) ∧ M' = M) (fun _ _ => False) := by
  have hbb := hcv.zb
  have hpp := hcv.zp
  have hc0 := hc
  obtain ⟨hI, pn, Z, iF, oF, hZ, hF, hX, hi1, ho1⟩ := hc
  have hob := id hF
  unfold hFo at hob
  have hD : hSt γ M (zUb U 0) (yS Y) := hZ.2.1 ▸ hX.st0
  have hst := hD.ob
  have hkn := hk.1.1
  have hkk := hk.1.nk
  refine zEnter [some (.ref (U 0)), some (.int (zi rr)), some (.int (zi bb)), some (.int (zi pp)), none, none] (by decide +kernel) rfl rfl (Nat.le_of_ble_eq_true rfl) ?_
  intro p e s m args below meth c Q C hin hQ
  refine z_aload_n C dX8_contextTotal_0 rfl ?_
  refine z_iload_n C dX8_contextTotal_1 rfl ?_
  refine z_callV C dX8_contextTotal_2 lk_X8_149 mw_X8_existingReader mi_X8_existingReader ms_X8_existingReader rfl (by first | assumption | ((repeat (first | assumption | exact va_up_self _ _ _ | refine (va_up_ne _ _ (by assumption)).trans ?_)); done) | (simp [va_up, *] <;> rfl)) (k_X8_existingReader_in hF hD hkk hrr) rfl (by first | decide | exact Nat.le_of_ble_eq_true rfl) ⟨by decide, by decide, by decide, by decide⟩ (fun _ _ h => False.elim h) (fun v M' hp => ?_)
  obtain ⟨rfl, rfl⟩ := hp
  have g2 := hrr
  have hro := hD.rdo (i := rr.toNat) (by omega) (by omega)
  have hR := hD.rd (i := rr.toNat) (by omega) (by omega)
  obtain ⟨cn, hco, hcz, hcr⟩ := hD.rdc (i := rr.toNat) (by omega) (by omega)
  have hrk := (hk.1.2.2 rr.toNat (by omega)).1
  refine z_astore C dX8_contextTotal_5 (by decide) ?_
  refine z_iload_n C dX8_contextTotal_7 rfl ?_
  refine z_iload_n C dX8_contextTotal_8 rfl ?_
  refine z_callS C dX8_contextTotal_9 lk_X8_198 mw_X8_requireContext mst_X8_requireContext (k_I_ctx hcv) rfl (by first | decide | exact Nat.le_of_ble_eq_true rfl) ⟨by decide, by decide, by decide, by decide⟩ (fun _ _ h => False.elim h) (fun v M' hp => ?_)
  obtain ⟨rfl, rfl⟩ := hp
  have g9 := hcv
  have hfo := zFo_rng bb pp
  have hcs := zCs_rng g9.cx (o := zFo bb pp) (by omega)
  refine z_iload_n C dX8_contextTotal_12 rfl ?_
  refine z_iload_n C dX8_contextTotal_13 rfl ?_
  refine z_callS C dX8_contextTotal_14 lk_X8_202 mw_X8_firstOrder mst_X8_firstOrder (k_X8_firstOrder hbb hpp) rfl (by first | decide | exact Nat.le_of_ble_eq_true rfl) ⟨by decide, by decide, by decide, by decide⟩ (fun _ _ h => False.elim h) (fun v M' hp => ?_)
  obtain ⟨r14, rfl, rfl, hr14⟩ := hp
  subst hr14
  refine z_istore C dX8_contextTotal_17 (by decide) ?_
  refine z_aload C dX8_contextTotal_19 rfl ?_
  refine z_get C dX8_contextTotal_21 fl_X8_188 (by first | assumption | ((repeat (first | assumption | exact va_up_self _ _ _ | refine (va_up_ne _ _ (by assumption)).trans ?_)); done) | (simp [va_up, *] <;> rfl)) rfl ?_
  refine z_iload C dX8_contextTotal_24 rfl ?_
  refine z_iload_n C dX8_contextTotal_26 rfl ?_
  refine z_iload_n C dX8_contextTotal_27 rfl ?_
  refine z_callS C dX8_contextTotal_28 lk_X8_191 mw_X8_contextStart mst_X8_contextStart (k_X8_contextStart (by unfold zR; omega)) rfl (by first | decide | exact Nat.le_of_ble_eq_true rfl) ⟨by decide, by decide, by decide, by decide⟩ (fun _ _ h => False.elim h) (fun v M' hp => ?_)
  obtain ⟨r28, rfl, rfl, hr28⟩ := hp
  subst hr28
  refine z_callV C dX8_contextTotal_31 lk_X8_206 mw_X2_sumIn mi_X2_sumIn ms_X2_sumIn rfl hco (k_X2_sumIn hR.2.2.1 hcs) rfl (by first | decide | exact Nat.le_of_ble_eq_true rfl) ⟨by decide, by decide, by decide, by decide⟩ (fun _ _ h => False.elim h) (fun v M' hp => ?_)
  obtain ⟨r31, rfl, rfl, hr31⟩ := hp
  refine z_iret C hQ dX8_contextTotal_34 rfl (by decide) (by decide) ?_
  rw [hr31]
  exact ⟨rfl, rfl⟩
set_option maxHeartbeats 4000000 in
set_option maxRecDepth 100000 in
theorem k_I_contextSymbols {l : Launch} {γ : zG} {M : zM} {U : Nat → Nat} {Y : zSys} {rr bb pp : Int} (hc : hFc γ M U Y) (hk : yOk Y) (hrr : 0 ≤ rr ∧ rr < sRn (yS Y)) (hcv : zCv bb pp) :
    zCon l γ yX8_contextSymbols cX8_contextSymbols 6 (some .int) [.ref (U 0), .int (zi rr), .int (zi bb), .int (zi pp)] M 4 145 0 0 (fun v' M' => v' = some (.int (zi (zsum (zind (rC (sRd (yS Y) rr.toNat))) (zCs (zFo bb pp) bb pp) 27))) ∧ M' = M) (fun _ _ => False) := by
  have hbb := hcv.zb
  have hpp := hcv.zp
  have hc0 := hc
  obtain ⟨hI, pn, Z, iF, oF, hZ, hF, hX, hi1, ho1⟩ := hc
  have hob := id hF
  unfold hFo at hob
  have hD : hSt γ M (zUb U 0) (yS Y) := hZ.2.1 ▸ hX.st0
  have hst := hD.ob
  have hkn := hk.1.1
  have hkk := hk.1.nk
  refine zEnter [some (.ref (U 0)), some (.int (zi rr)), some (.int (zi bb)), some (.int (zi pp)), none, none] (by decide +kernel) rfl rfl (Nat.le_of_ble_eq_true rfl) ?_
  intro p e s m args below meth c Q C hin hQ
  refine z_aload_n C dX8_contextSymbols_0 rfl ?_
  refine z_iload_n C dX8_contextSymbols_1 rfl ?_
  refine z_callV C dX8_contextSymbols_2 lk_X8_149 mw_X8_existingReader mi_X8_existingReader ms_X8_existingReader rfl (by first | assumption | ((repeat (first | assumption | exact va_up_self _ _ _ | refine (va_up_ne _ _ (by assumption)).trans ?_)); done) | (simp [va_up, *] <;> rfl)) (k_X8_existingReader_in hF hD hkk hrr) rfl (by first | decide | exact Nat.le_of_ble_eq_true rfl) ⟨by decide, by decide, by decide, by decide⟩ (fun _ _ h => False.elim h) (fun v M' hp => ?_)
  obtain ⟨rfl, rfl⟩ := hp
  have g2 := hrr
  have hro := hD.rdo (i := rr.toNat) (by omega) (by omega)
  have hR := hD.rd (i := rr.toNat) (by omega) (by omega)
  obtain ⟨cn, hco, hcz, hcr⟩ := hD.rdc (i := rr.toNat) (by omega) (by omega)
  have hrk := (hk.1.2.2 rr.toNat (by omega)).1
  refine z_astore C dX8_contextSymbols_5 (by decide) ?_
  refine z_iload_n C dX8_contextSymbols_7 rfl ?_
  refine z_iload_n C dX8_contextSymbols_8 rfl ?_
  refine z_callS C dX8_contextSymbols_9 lk_X8_198 mw_X8_requireContext mst_X8_requireContext (k_I_ctx hcv) rfl (by first | decide | exact Nat.le_of_ble_eq_true rfl) ⟨by decide, by decide, by decide, by decide⟩ (fun _ _ h => False.elim h) (fun v M' hp => ?_)
  obtain ⟨rfl, rfl⟩ := hp
  have g9 := hcv
  have hfo := zFo_rng bb pp
  have hcs := zCs_rng g9.cx (o := zFo bb pp) (by omega)
  refine z_iload_n C dX8_contextSymbols_12 rfl ?_
  refine z_iload_n C dX8_contextSymbols_13 rfl ?_
  refine z_callS C dX8_contextSymbols_14 lk_X8_202 mw_X8_firstOrder mst_X8_firstOrder (k_X8_firstOrder hbb hpp) rfl (by first | decide | exact Nat.le_of_ble_eq_true rfl) ⟨by decide, by decide, by decide, by decide⟩ (fun _ _ h => False.elim h) (fun v M' hp => ?_)
  obtain ⟨r14, rfl, rfl, hr14⟩ := hp
  subst hr14
  refine z_istore C dX8_contextSymbols_17 (by decide) ?_
  refine z_aload C dX8_contextSymbols_19 rfl ?_
  refine z_get C dX8_contextSymbols_21 fl_X8_188 (by first | assumption | ((repeat (first | assumption | exact va_up_self _ _ _ | refine (va_up_ne _ _ (by assumption)).trans ?_)); done) | (simp [va_up, *] <;> rfl)) rfl ?_
  refine z_iload C dX8_contextSymbols_24 rfl ?_
  refine z_iload_n C dX8_contextSymbols_26 rfl ?_
  refine z_iload_n C dX8_contextSymbols_27 rfl ?_
  refine z_callS C dX8_contextSymbols_28 lk_X8_191 mw_X8_contextStart mst_X8_contextStart (k_X8_contextStart (by unfold zR; omega)) rfl (by first | decide | exact Nat.le_of_ble_eq_true rfl) ⟨by decide, by decide, by decide, by decide⟩ (fun _ _ h => False.elim h) (fun v M' hp => ?_)
  obtain ⟨r28, rfl, rfl, hr28⟩ := hp
  subst hr28
  refine z_callV C dX8_contextSymbols_31 lk_X8_209 mw_X2_symbolsIn mi_X2_symbolsIn ms_X2_symbolsIn rfl hco (k_X2_symbolsIn hR.2.2.1 hcs) rfl (by first | decide | exact Nat.le_of_ble_eq_true rfl) ⟨by decide, by decide, by decide, by decide⟩ (fun _ _ h => False.elim h) (fun v M' hp => ?_)
  obtain ⟨r31, rfl, rfl, hr31⟩ := hp
  refine z_iret C hQ dX8_contextSymbols_34 rfl (by decide) (by decide) ?_
  rw [hr31]
  exact ⟨rfl, rfl⟩
set_option maxHeartbeats 4000000 in
set_option maxRecDepth 100000 in
theorem k_I_positiveCounts {l : Launch} {γ : zG} {M : zM} {U : Nat → Nat} {Y : zSys} {rr : Int} (hc : hFc γ M U Y) (hk : yOk Y) (hrr : 0 ≤ rr ∧ rr < sRn (yS Y)) :
    zCon l γ yX8_positiveCounts cX8_positiveCounts 2 (some .int) [.ref (U 0), .int (zi rr)] M 4 145 0 0 (fun v' M' => v' = some (.int (zi (zsum (zind (rC (sRd (yS Y) rr.toNat))) 0 20439))) ∧ M' = M) (fun _ _ => False) := by
  have hc0 := hc
  obtain ⟨hI, pn, Z, iF, oF, hZ, hF, hX, hi1, ho1⟩ := hc
  have hob := id hF
  unfold hFo at hob
  have hD : hSt γ M (zUb U 0) (yS Y) := hZ.2.1 ▸ hX.st0
  have hst := hD.ob
  have hkn := hk.1.1
  have hkk := hk.1.nk
  refine zEnter [some (.ref (U 0)), some (.int (zi rr))] (by decide +kernel) rfl rfl (Nat.le_of_ble_eq_true rfl) ?_
  intro p e s m args below meth c Q C hin hQ
  refine z_aload_n C dX8_positiveCounts_0 rfl ?_
  refine z_iload_n C dX8_positiveCounts_1 rfl ?_
  refine z_callV C dX8_positiveCounts_2 lk_X8_149 mw_X8_existingReader mi_X8_existingReader ms_X8_existingReader rfl (by first | assumption | ((repeat (first | assumption | exact va_up_self _ _ _ | refine (va_up_ne _ _ (by assumption)).trans ?_)); done) | (simp [va_up, *] <;> rfl)) (k_X8_existingReader_in hF hD hkk hrr) rfl (by first | decide | exact Nat.le_of_ble_eq_true rfl) ⟨by decide, by decide, by decide, by decide⟩ (fun _ _ h => False.elim h) (fun v M' hp => ?_)
  obtain ⟨rfl, rfl⟩ := hp
  have g2 := hrr
  have hro := hD.rdo (i := rr.toNat) (by omega) (by omega)
  have hR := hD.rd (i := rr.toNat) (by omega) (by omega)
  obtain ⟨cn, hco, hcz, hcr⟩ := hD.rdc (i := rr.toNat) (by omega) (by omega)
  have hrk := (hk.1.2.2 rr.toNat (by omega)).1
  refine z_get C dX8_positiveCounts_5 fl_X8_188 (by first | assumption | ((repeat (first | assumption | exact va_up_self _ _ _ | refine (va_up_ne _ _ (by assumption)).trans ?_)); done) | (simp [va_up, *] <;> rfl)) rfl ?_
  refine z_get C dX8_positiveCounts_8 fl_X8_215 (by first | assumption | ((repeat (first | assumption | exact va_up_self _ _ _ | refine (va_up_ne _ _ (by assumption)).trans ?_)); done) | (simp [va_up, *] <;> rfl)) rfl ?_
  refine z_iret C hQ dX8_positiveCounts_11 rfl (by decide) (by decide) ?_
  rw [hcz]
  exact ⟨rfl, rfl⟩
set_option maxHeartbeats 4000000 in
set_option maxRecDepth 100000 in
theorem k_I_trainedSymbols {l : Launch} {γ : zG} {M : zM} {U : Nat → Nat} {Y : zSys} {rr : Int} (hc : hFc γ M U Y) (hk : yOk Y) (hrr : 0 ≤ rr ∧ rr < sRn (yS Y)) :
    zCon l γ yX8_trainedSymbols cX8_trainedSymbols 2 (some .int) [.ref (U 0), .int (zi rr)] M 4 145 0 0 (fun v' M' => v' = some (.int (zi (rTr (sRd (yS Y) rr.toNat)))) ∧ M' = M) (fun _ _ => False) := by
  have hc0 := hc
  obtain ⟨hI, pn, Z, iF, oF, hZ, hF, hX, hi1, ho1⟩ := hc
  have hob := id hF
  unfold hFo at hob
  have hD : hSt γ M (zUb U 0) (yS Y) := hZ.2.1 ▸ hX.st0
  have hst := hD.ob
  have hkn := hk.1.1
  have hkk := hk.1.nk
  refine zEnter [some (.ref (U 0)), some (.int (zi rr))] (by decide +kernel) rfl rfl (Nat.le_of_ble_eq_true rfl) ?_
  intro p e s m args below meth c Q C hin hQ
  refine z_aload_n C dX8_trainedSymbols_0 rfl ?_
  refine z_iload_n C dX8_trainedSymbols_1 rfl ?_
  refine z_callV C dX8_trainedSymbols_2 lk_X8_149 mw_X8_existingReader mi_X8_existingReader ms_X8_existingReader rfl (by first | assumption | ((repeat (first | assumption | exact va_up_self _ _ _ | refine (va_up_ne _ _ (by assumption)).trans ?_)); done) | (simp [va_up, *] <;> rfl)) (k_X8_existingReader_in hF hD hkk hrr) rfl (by first | decide | exact Nat.le_of_ble_eq_true rfl) ⟨by decide, by decide, by decide, by decide⟩ (fun _ _ h => False.elim h) (fun v M' hp => ?_)
  obtain ⟨rfl, rfl⟩ := hp
  have g2 := hrr
  have hro := hD.rdo (i := rr.toNat) (by omega) (by omega)
  have hR := hD.rd (i := rr.toNat) (by omega) (by omega)
  obtain ⟨cn, hco, hcz, hcr⟩ := hD.rdc (i := rr.toNat) (by omega) (by omega)
  have hrk := (hk.1.2.2 rr.toNat (by omega)).1
  refine z_get C dX8_trainedSymbols_5 fl_X8_221 (by first | assumption | ((repeat (first | assumption | exact va_up_self _ _ _ | refine (va_up_ne _ _ (by assumption)).trans ?_)); done) | (simp [va_up, *] <;> rfl)) rfl ?_
  refine z_iret C hQ dX8_trainedSymbols_8 rfl (by decide) (by decide) ?_
  exact ⟨rfl, rfl⟩
set_option maxHeartbeats 4000000 in
set_option maxRecDepth 100000 in
theorem k_I_timesTrained {l : Launch} {γ : zG} {M : zM} {U : Nat → Nat} {Y : zSys} {rr dd : Int} (hc : hFc γ M U Y) (hk : yOk Y) (hrr : 0 ≤ rr ∧ rr < sRn (yS Y)) (hdd : 0 ≤ dd ∧ dd < sDn (yS Y)) :
    zCon l γ yX8_timesTrained cX8_timesTrained 4 (some .int) [.ref (U 0), .int (zi rr), .int (zi dd)] M 4 145 0 0 (fun v' M' => v' = some (.int (zi (rTm (sRd (yS Y) rr.toNat) dd.toNat))) ∧ M' = M) (fun _ _ => False) := by
  have hc0 := hc
  obtain ⟨hI, pn, Z, iF, oF, hZ, hF, hX, hi1, ho1⟩ := hc
  have hob := id hF
  unfold hFo at hob
  have hD : hSt γ M (zUb U 0) (yS Y) := hZ.2.1 ▸ hX.st0
  have hst := hD.ob
  have hkn := hk.1.1
  have hkk := hk.1.nk
  refine zEnter [some (.ref (U 0)), some (.int (zi rr)), some (.int (zi dd)), none] (by decide +kernel) rfl rfl (Nat.le_of_ble_eq_true rfl) ?_
  intro p e s m args below meth c Q C hin hQ
  refine z_aload_n C dX8_timesTrained_0 rfl ?_
  refine z_iload_n C dX8_timesTrained_1 rfl ?_
  refine z_callV C dX8_timesTrained_2 lk_X8_149 mw_X8_existingReader mi_X8_existingReader ms_X8_existingReader rfl (by first | assumption | ((repeat (first | assumption | exact va_up_self _ _ _ | refine (va_up_ne _ _ (by assumption)).trans ?_)); done) | (simp [va_up, *] <;> rfl)) (k_X8_existingReader_in hF hD hkk hrr) rfl (by first | decide | exact Nat.le_of_ble_eq_true rfl) ⟨by decide, by decide, by decide, by decide⟩ (fun _ _ h => False.elim h) (fun v M' hp => ?_)
  obtain ⟨rfl, rfl⟩ := hp
  have g2 := hrr
  have hro := hD.rdo (i := rr.toNat) (by omega) (by omega)
  have hR := hD.rd (i := rr.toNat) (by omega) (by omega)
  obtain ⟨cn, hco, hcz, hcr⟩ := hD.rdc (i := rr.toNat) (by omega) (by omega)
  have hrk := (hk.1.2.2 rr.toNat (by omega)).1
  refine z_astore_n C dX8_timesTrained_5 (by decide) ?_
  refine z_aload_n C dX8_timesTrained_6 rfl ?_
  refine z_iload_n C dX8_timesTrained_7 rfl ?_
  refine z_callV C dX8_timesTrained_8 lk_X8_170 mw_X8_existingDocument mi_X8_existingDocument ms_X8_existingDocument rfl (by first | assumption | ((repeat (first | assumption | exact va_up_self _ _ _ | refine (va_up_ne _ _ (by assumption)).trans ?_)); done) | (simp [va_up, *] <;> rfl)) (k_X8_existingDocument_in hF hD hkk hdd) rfl (by first | decide | exact Nat.le_of_ble_eq_true rfl) ⟨by decide, by decide, by decide, by decide⟩ (fun _ _ h => False.elim h) (fun v M' hp => ?_)
  obtain ⟨rfl, rfl⟩ := hp
  have g8 := hdd
  obtain ⟨sy, hX8, hXk8, hXv8⟩ := hD.dk (d := dd.toNat) (by omega) (by omega)
  have obd8 := hX8.1
  refine z_pop C dX8_timesTrained_11 rfl ?_
  refine z_aload_n C dX8_timesTrained_12 rfl ?_
  refine z_iload_n C dX8_timesTrained_13 rfl ?_
  refine z_callV C dX8_timesTrained_14 lk_X8_218 mw_X6_trainingsOn mi_X6_trainingsOn ms_X6_trainingsOn rfl hro (k_X6_trainingsOn hR (i := dd) (by unfold zR; omega)) rfl (by first | decide | exact Nat.le_of_ble_eq_true rfl) ⟨by decide, by decide, by decide, by decide⟩ (fun _ _ h => False.elim h) (fun v M' hp => ?_)
  obtain ⟨r14, rfl, rfl, hr14⟩ := hp
  refine z_iret C hQ dX8_timesTrained_17 rfl (by decide) (by decide) ?_
  rw [hr14, zTo, if_pos (by omega)]
  exact ⟨rfl, rfl⟩
set_option maxHeartbeats 4000000 in
set_option maxRecDepth 100000 in
theorem k_I_trainingGap {l : Launch} {γ : zG} {M : zM} {U : Nat → Nat} {Y : zSys} {rr : Int} (hc : hFc γ M U Y) (hk : yOk Y) (hrr : 0 ≤ rr ∧ rr < sRn (yS Y)) :
    zCon l γ yX8_trainingGap cX8_trainingGap 5 (some .int) [.ref (U 0), .int (zi rr)] M 4 145 0 0 (fun v' M' => v' = some (.int (zi (ztgn (yS Y) (sRd (yS Y) rr.toNat) (sDn (yS Y)).toNat))) ∧ M' = M) (fun _ _ => False) := by
  have hc0 := hc
  obtain ⟨hI, pn, Z, iF, oF, hZ, hF, hX, hi1, ho1⟩ := hc
  have hob := id hF
  unfold hFo at hob
  have hD : hSt γ M (zUb U 0) (yS Y) := hZ.2.1 ▸ hX.st0
  have hst := hD.ob
  have hkn := hk.1.1
  have hkk := hk.1.nk
  have hRQ := hX.2.2.2.2.2.2.1
  have hok := fun M' => @fOk.rk γ M M' U Y pn Z iF oF hI hZ hF hX hi1 ho1
  refine zEnter [some (.ref (U 0)), some (.int (zi rr)), none, none, none] (by decide +kernel) rfl rfl (Nat.le_of_ble_eq_true rfl) ?_
  intro p e s m args below meth c Q C hin hQ
  have loop : ∀ (g1 : 0 ≤ rr ∧ rr < sRn (yS Y)) (t : Nat) (i : Int), sDn (yS Y) - i = t → 0 ≤ i ∧ i ≤ sDn (yS Y) → zAW p l e { frames := 4, cells := 0, slots := 0, locals := 145 } s m args below meth c γ 5 Q M 0 0 14 [some (.ref (U 0)), some (.int (zi rr)), some (.ref (zUb U 0 (3 + 6 * rr.toNat))), some (.int (zi (ztgn (yS Y) (sRd (yS Y) rr.toNat) i.toNat))), some (.int (zi i))] [] := by
    intro g1
    have hro := hD.rdo (i := rr.toNat) (by omega) (by omega)
    have hR := hD.rd (i := rr.toNat) (by omega) (by omega)
    have hrk := (hk.1.2.2 rr.toNat (by omega)).1
    intro t
    induction t with
    | zero =>
      intro i ht hi
      obtain rfl : i = sDn (yS Y) := by omega
      refine z_iload C dX8_trainingGap_14 rfl ?_
      refine z_aload_n C dX8_trainingGap_16 rfl ?_
      refine z_get C dX8_trainingGap_17 fl_X8_13 (by first | assumption | ((repeat (first | assumption | exact va_up_self _ _ _ | refine (va_up_ne _ _ (by assumption)).trans ?_)); done) | (simp [va_up, *] <;> rfl)) rfl ?_
      refine z_get C dX8_trainingGap_20 fl_X8_167 (by first | assumption | ((repeat (first | assumption | exact va_up_self _ _ _ | refine (va_up_ne _ _ (by assumption)).trans ?_)); done) | (simp [va_up, *] <;> rfl)) rfl ?_
      refine z_icmp_geZ (tgt := 51) C dX8_trainingGap_23 (by decide) (by omega) (by omega) (fun h23 => ?_) (fun h23 => ?_)
      · refine z_iload_n C dX8_trainingGap_51 rfl ?_
        refine z_iret C hQ dX8_trainingGap_52 rfl (by decide) (by decide) ?_
        exact ⟨rfl, rfl⟩
      · exact absurd h23 (by omega)
    | succ t ih =>
      intro i ht hi
      obtain ⟨sy, hX8, hXk8, hXv8⟩ := hD.dk (d := i.toNat) (by omega) (by omega)
      have obd8 := hX8.1
      have e1 : ztgn (yS Y) (sRd (yS Y) rr.toNat) (i + 1).toNat = ztgn (yS Y) (sRd (yS Y) rr.toNat) i.toNat - rTm (sRd (yS Y) rr.toNat) i.toNat * dLe (sDc (yS Y) i.toNat) := by
        rw [show (i + 1).toNat = i.toNat + 1 by omega]
        rfl
      refine z_iload C dX8_trainingGap_14 rfl ?_
      refine z_aload_n C dX8_trainingGap_16 rfl ?_
      refine z_get C dX8_trainingGap_17 fl_X8_13 (by first | assumption | ((repeat (first | assumption | exact va_up_self _ _ _ | refine (va_up_ne _ _ (by assumption)).trans ?_)); done) | (simp [va_up, *] <;> rfl)) rfl ?_
      refine z_get C dX8_trainingGap_20 fl_X8_167 (by first | assumption | ((repeat (first | assumption | exact va_up_self _ _ _ | refine (va_up_ne _ _ (by assumption)).trans ?_)); done) | (simp [va_up, *] <;> rfl)) rfl ?_
      refine z_icmp_geZ (tgt := 51) C dX8_trainingGap_23 (by decide) (by omega) (by omega) (fun h23 => ?_) (fun h23 => ?_)
      · exact absurd h23 (by omega)
      · refine z_iload_n C dX8_trainingGap_26 rfl ?_
        refine z_aload_n C dX8_trainingGap_27 rfl ?_
        refine z_iload C dX8_trainingGap_28 rfl ?_
        refine z_callV C dX8_trainingGap_30 lk_X8_218 mw_X6_trainingsOn mi_X6_trainingsOn ms_X6_trainingsOn rfl hro (k_X6_trainingsOn hR (i := i) (by unfold zR; omega)) rfl (by first | decide | exact Nat.le_of_ble_eq_true rfl) ⟨by decide, by decide, by decide, by decide⟩ (fun _ _ h => False.elim h) (fun v M' hp => ?_)
        obtain ⟨r30, rfl, rfl, hr30⟩ := hp
        rw [zTo, if_pos (by omega)] at hr30
        refine z_aload_n C dX8_trainingGap_33 rfl ?_
        refine z_iload C dX8_trainingGap_34 rfl ?_
        refine z_callV C dX8_trainingGap_36 lk_X8_170 mw_X8_existingDocument mi_X8_existingDocument ms_X8_existingDocument rfl (by first | assumption | ((repeat (first | assumption | exact va_up_self _ _ _ | refine (va_up_ne _ _ (by assumption)).trans ?_)); done) | (simp [va_up, *] <;> rfl)) (k_X8_existingDocument_in hF hD hkk (i := i) (by omega)) rfl (by first | decide | exact Nat.le_of_ble_eq_true rfl) ⟨by decide, by decide, by decide, by decide⟩ (fun _ _ h => False.elim h) (fun v M' hp => ?_)
        obtain ⟨rfl, rfl⟩ := hp
        refine z_get C dX8_trainingGap_39 fl_X8_174 (by first | assumption | ((repeat (first | assumption | exact va_up_self _ _ _ | refine (va_up_ne _ _ (by assumption)).trans ?_)); done) | (simp [va_up, *] <;> rfl)) rfl ?_
        refine z_imulZ C dX8_trainingGap_42 ?_
        refine z_isubZ C dX8_trainingGap_43 ?_
        refine z_istore_n C dX8_trainingGap_44 (by decide) ?_
        refine z_iincZ C dX8_trainingGap_45 rfl (by decide) ?_
        refine z_goto (tgt := 14) C dX8_trainingGap_48 (by decide) ?_
        have q := ih (i + 1) (by omega) (by omega)
        rw [e1, ← hr30] at q
        exact q
  refine z_aload_n C dX8_trainingGap_0 rfl ?_
  refine z_iload_n C dX8_trainingGap_1 rfl ?_
  refine z_callV C dX8_trainingGap_2 lk_X8_149 mw_X8_existingReader mi_X8_existingReader ms_X8_existingReader rfl (by first | assumption | ((repeat (first | assumption | exact va_up_self _ _ _ | refine (va_up_ne _ _ (by assumption)).trans ?_)); done) | (simp [va_up, *] <;> rfl)) (k_X8_existingReader_in hF hD hkk hrr) rfl (by first | decide | exact Nat.le_of_ble_eq_true rfl) ⟨by decide, by decide, by decide, by decide⟩ (fun _ _ h => False.elim h) (fun v M' hp => ?_)
  obtain ⟨rfl, rfl⟩ := hp
  have g2 := hrr
  have hro := hD.rdo (i := rr.toNat) (by omega) (by omega)
  have hR := hD.rd (i := rr.toNat) (by omega) (by omega)
  obtain ⟨cn, hco, hcz, hcr⟩ := hD.rdc (i := rr.toNat) (by omega) (by omega)
  have hrk := (hk.1.2.2 rr.toNat (by omega)).1
  refine z_astore_n C dX8_trainingGap_5 (by decide) ?_
  refine z_aload_n C dX8_trainingGap_6 rfl ?_
  refine z_get C dX8_trainingGap_7 fl_X8_221 (by first | assumption | ((repeat (first | assumption | exact va_up_self _ _ _ | refine (va_up_ne _ _ (by assumption)).trans ?_)); done) | (simp [va_up, *] <;> rfl)) rfl ?_
  refine z_istore_n C dX8_trainingGap_10 (by decide) ?_
  refine z_iconst C dX8_trainingGap_11 ?_
  refine z_istore C dX8_trainingGap_12 (by decide) ?_
  exact loop g2 (sDn (yS Y)).toNat 0 (by omega) (by omega)
set_option maxHeartbeats 4000000 in
set_option maxRecDepth 100000 in
theorem k_I_symbolAtRank {l : Launch} {γ : zG} {M : zM} {U : Nat → Nat} {Y : zSys} {rr bb pp kk : Int} (hc : hFc γ M U Y) (hk : yOk Y) (hrr : 0 ≤ rr ∧ rr < sRn (yS Y)) (hcv : zCv bb pp) (hk1 : 1 ≤ kk ∧ kk ≤ 27) :
    zCon l γ yX8_symbolAtRank cX8_symbolAtRank 6 (some .int) [.ref (U 0), .int (zi rr), .int (zi bb), .int (zi pp), .int (zi kk)] M 4 145 0 0 (fI γ M U Y (0, zgs (rC (sRd (yS Y) rr.toNat)) bb pp kk)) (fun _ _ => False) := by
  have hbb := hcv.zb
  have hpp := hcv.zp
  have hc0 := hc
  obtain ⟨hI, pn, Z, iF, oF, hZ, hF, hX, hi1, ho1⟩ := hc
  have hob := id hF
  unfold hFo at hob
  have hD : hSt γ M (zUb U 0) (yS Y) := hZ.2.1 ▸ hX.st0
  have hst := hD.ob
  have hkn := hk.1.1
  have hkk := hk.1.nk
  have hRQ := hX.2.2.2.2.2.2.1
  have hok := fun M' => @fOk.rk γ M M' U Y pn Z iF oF hI hZ hF hX hi1 ho1
  have hkk0 := hkk
  refine zEnter [some (.ref (U 0)), some (.int (zi rr)), some (.int (zi bb)), some (.int (zi pp)), some (.int (zi kk)), none] (by decide +kernel) rfl rfl (Nat.le_of_ble_eq_true rfl) ?_
  intro p e s m args below meth c Q C hin hQ
  refine z_aload_n C dX8_symbolAtRank_0 rfl ?_
  refine z_iload_n C dX8_symbolAtRank_1 rfl ?_
  refine z_callV C dX8_symbolAtRank_2 lk_X8_149 mw_X8_existingReader mi_X8_existingReader ms_X8_existingReader rfl (by first | assumption | ((repeat (first | assumption | exact va_up_self _ _ _ | refine (va_up_ne _ _ (by assumption)).trans ?_)); done) | (simp [va_up, *] <;> rfl)) (k_X8_existingReader_in hF hD hkk0 hrr) rfl (by first | decide | exact Nat.le_of_ble_eq_true rfl) ⟨by decide, by decide, by decide, by decide⟩ (fun _ _ h => False.elim h) (fun v M' hp => ?_)
  obtain ⟨rfl, rfl⟩ := hp
  have g2 := hrr
  have hro := hD.rdo (i := rr.toNat) (by omega) (by omega)
  have hR := hD.rd (i := rr.toNat) (by omega) (by omega)
  obtain ⟨cn, hco, hcz, hcr⟩ := hD.rdc (i := rr.toNat) (by omega) (by omega)
  have hrk := (hk.1.2.2 rr.toNat (by omega)).1
  refine z_astore C dX8_symbolAtRank_5 (by decide) ?_
  refine z_iload_n C dX8_symbolAtRank_7 rfl ?_
  refine z_iload_n C dX8_symbolAtRank_8 rfl ?_
  refine z_callS C dX8_symbolAtRank_9 lk_X8_198 mw_X8_requireContext mst_X8_requireContext (k_I_ctx hcv) rfl (by first | decide | exact Nat.le_of_ble_eq_true rfl) ⟨by decide, by decide, by decide, by decide⟩ (fun _ _ h => False.elim h) (fun v M' hp => ?_)
  obtain ⟨rfl, rfl⟩ := hp
  have g9 := hcv
  refine z_iload C dX8_symbolAtRank_12 rfl ?_
  refine z_iconst C dX8_symbolAtRank_14 ?_
  refine z_icmp_ltZ (tgt := 25) C dX8_symbolAtRank_15 (by decide) (by omega) (by omega) (fun h15 => ?_) (fun h15 => ?_)
  · exact absurd h15 (by omega)
  · refine z_iload C dX8_symbolAtRank_18 rfl ?_
    refine z_bipush C dX8_symbolAtRank_20 (by decide) ?_
    refine z_icmp_leZ (tgt := 35) C dX8_symbolAtRank_22 (by decide) (by omega) (by omega) (fun h22 => ?_) (fun h22 => ?_)
    · refine z_aload_n C dX8_symbolAtRank_35 rfl ?_
      refine z_aload C dX8_symbolAtRank_36 rfl ?_
      refine z_get C dX8_symbolAtRank_38 fl_X8_188 (by first | assumption | ((repeat (first | assumption | exact va_up_self _ _ _ | refine (va_up_ne _ _ (by assumption)).trans ?_)); done) | (simp [va_up, *] <;> rfl)) rfl ?_
      refine z_iload_n C dX8_symbolAtRank_41 rfl ?_
      refine z_iload_n C dX8_symbolAtRank_42 rfl ?_
      refine z_iload C dX8_symbolAtRank_43 rfl ?_
      refine z_callV C dX8_symbolAtRank_45 lk_X8_226 mw_X8_guessIn mi_X8_guessIn ms_X8_guessIn rfl (by first | assumption | ((repeat (first | assumption | exact va_up_self _ _ _ | refine (va_up_ne _ _ (by assumption)).trans ?_)); done) | (simp [va_up, *] <;> rfl)) (k_X8_guessIn hF hRQ hR.2.2.1 g9.cx (by omega)) rfl (by first | decide | exact Nat.le_of_ble_eq_true rfl) ⟨by decide, by decide, by decide, by decide⟩ (fun _ _ h => False.elim h) (fun v M' hp => ?_)
      obtain ⟨r45, rfl, f45, hQ45, hr45, hz45⟩ := hp
      refine z_iret C hQ dX8_symbolAtRank_48 rfl (by decide) (by decide) ?_
      rw [hr45]
      exact fI.of (hok _ f45 hQ45) rfl
    · exact absurd h22 (by omega)
set_option maxHeartbeats 4000000 in
set_option maxRecDepth 100000 in
theorem k_I_rank {l : Launch} {γ : zG} {M : zM} {U : Nat → Nat} {Y : zSys} {rr bb pp ss : Int} (hc : hFc γ M U Y) (hk : yOk Y) (hrr : 0 ≤ rr ∧ rr < sRn (yS Y)) (hcv : zCv bb pp) (hss : zSy ss) :
    zCon l γ yX8_rank cX8_rank 6 (some .int) [.ref (U 0), .int (zi rr), .int (zi bb), .int (zi pp), .int (zi ss)] M 4 145 0 0 (fI γ M U Y (0, zrk (rC (sRd (yS Y) rr.toNat)) bb pp ss)) (fun _ _ => False) := by
  have hbb := hcv.zb
  have hpp := hcv.zp
  have hc0 := hc
  obtain ⟨hI, pn, Z, iF, oF, hZ, hF, hX, hi1, ho1⟩ := hc
  have hob := id hF
  unfold hFo at hob
  have hD : hSt γ M (zUb U 0) (yS Y) := hZ.2.1 ▸ hX.st0
  have hst := hD.ob
  have hkn := hk.1.1
  have hkk := hk.1.nk
  have hRQ := hX.2.2.2.2.2.2.1
  have hok := fun M' => @fOk.rk γ M M' U Y pn Z iF oF hI hZ hF hX hi1 ho1
  refine zEnter [some (.ref (U 0)), some (.int (zi rr)), some (.int (zi bb)), some (.int (zi pp)), some (.int (zi ss)), none] (by decide +kernel) rfl rfl (Nat.le_of_ble_eq_true rfl) ?_
  intro p e s m args below meth c Q C hin hQ
  refine z_aload_n C dX8_rank_0 rfl ?_
  refine z_iload_n C dX8_rank_1 rfl ?_
  refine z_callV C dX8_rank_2 lk_X8_149 mw_X8_existingReader mi_X8_existingReader ms_X8_existingReader rfl (by first | assumption | ((repeat (first | assumption | exact va_up_self _ _ _ | refine (va_up_ne _ _ (by assumption)).trans ?_)); done) | (simp [va_up, *] <;> rfl)) (k_X8_existingReader_in hF hD hkk hrr) rfl (by first | decide | exact Nat.le_of_ble_eq_true rfl) ⟨by decide, by decide, by decide, by decide⟩ (fun _ _ h => False.elim h) (fun v M' hp => ?_)
  obtain ⟨rfl, rfl⟩ := hp
  have g2 := hrr
  have hro := hD.rdo (i := rr.toNat) (by omega) (by omega)
  have hR := hD.rd (i := rr.toNat) (by omega) (by omega)
  obtain ⟨cn, hco, hcz, hcr⟩ := hD.rdc (i := rr.toNat) (by omega) (by omega)
  have hrk := (hk.1.2.2 rr.toNat (by omega)).1
  refine z_astore C dX8_rank_5 (by decide) ?_
  refine z_iload_n C dX8_rank_7 rfl ?_
  refine z_iload_n C dX8_rank_8 rfl ?_
  refine z_callS C dX8_rank_9 lk_X8_198 mw_X8_requireContext mst_X8_requireContext (k_I_ctx hcv) rfl (by first | decide | exact Nat.le_of_ble_eq_true rfl) ⟨by decide, by decide, by decide, by decide⟩ (fun _ _ h => False.elim h) (fun v M' hp => ?_)
  obtain ⟨rfl, rfl⟩ := hp
  have g9 := hcv
  refine z_iload C dX8_rank_12 rfl ?_
  refine z_callS C dX8_rank_14 lk_X8_185 mw_X8_requireSymbol mst_X8_requireSymbol (k_I_sym hss) rfl (by first | decide | exact Nat.le_of_ble_eq_true rfl) ⟨by decide, by decide, by decide, by decide⟩ (fun _ _ h => False.elim h) (fun v M' hp => ?_)
  obtain ⟨rfl, rfl⟩ := hp
  have g14 := hss
  refine z_aload_n C dX8_rank_17 rfl ?_
  refine z_aload C dX8_rank_18 rfl ?_
  refine z_get C dX8_rank_20 fl_X8_188 (by first | assumption | ((repeat (first | assumption | exact va_up_self _ _ _ | refine (va_up_ne _ _ (by assumption)).trans ?_)); done) | (simp [va_up, *] <;> rfl)) rfl ?_
  refine z_iload_n C dX8_rank_23 rfl ?_
  refine z_iload_n C dX8_rank_24 rfl ?_
  refine z_iload C dX8_rank_25 rfl ?_
  refine z_callV C dX8_rank_27 lk_X8_230 mw_X8_rankIn mi_X8_rankIn ms_X8_rankIn rfl (by first | assumption | ((repeat (first | assumption | exact va_up_self _ _ _ | refine (va_up_ne _ _ (by assumption)).trans ?_)); done) | (simp [va_up, *] <;> rfl)) (k_X8_rankIn hF hRQ hR.2.2.1 g9.cx (s0 := ss) g14) rfl (by first | decide | exact Nat.le_of_ble_eq_true rfl) ⟨by decide, by decide, by decide, by decide⟩ (fun _ _ h => False.elim h) (fun v M' hp => ?_)
  obtain ⟨r27, rfl, f27, hQ27, hr27, hz27⟩ := hp
  refine z_iret C hQ dX8_rank_30 rfl (by decide) (by decide) ?_
  rw [hr27]
  exact fI.of (hok _ f27 hQ27) rfl
set_option maxHeartbeats 4000000 in
set_option maxRecDepth 100000 in
theorem k_I_foundOrder {l : Launch} {γ : zG} {M : zM} {U : Nat → Nat} {Y : zSys} {rr bb pp ss : Int} (hc : hFc γ M U Y) (hk : yOk Y) (hrr : 0 ≤ rr ∧ rr < sRn (yS Y)) (hcv : zCv bb pp) (hss : zSy ss) :
    zCon l γ yX8_foundOrder cX8_foundOrder 6 (some .int) [.ref (U 0), .int (zi rr), .int (zi bb), .int (zi pp), .int (zi ss)] M 4 145 0 0 (fun v' M' => v' = some (.int (zi (zlv (rC (sRd (yS Y) rr.toNat)) bb pp ss))) ∧ M' = M) (fun _ _ => False) := by
  have hbb := hcv.zb
  have hpp := hcv.zp
  have hc0 := hc
  obtain ⟨hI, pn, Z, iF, oF, hZ, hF, hX, hi1, ho1⟩ := hc
  have hob := id hF
  unfold hFo at hob
  have hD : hSt γ M (zUb U 0) (yS Y) := hZ.2.1 ▸ hX.st0
  have hst := hD.ob
  have hkn := hk.1.1
  have hkk := hk.1.nk
  have hRQ := hX.2.2.2.2.2.2.1
  have hok := fun M' => @fOk.rk γ M M' U Y pn Z iF oF hI hZ hF hX hi1 ho1
  refine zEnter [some (.ref (U 0)), some (.int (zi rr)), some (.int (zi bb)), some (.int (zi pp)), some (.int (zi ss)), none] (by decide +kernel) rfl rfl (Nat.le_of_ble_eq_true rfl) ?_
  intro p e s m args below meth c Q C hin hQ
  refine z_aload_n C dX8_foundOrder_0 rfl ?_
  refine z_iload_n C dX8_foundOrder_1 rfl ?_
  refine z_callV C dX8_foundOrder_2 lk_X8_149 mw_X8_existingReader mi_X8_existingReader ms_X8_existingReader rfl (by first | assumption | ((repeat (first | assumption | exact va_up_self _ _ _ | refine (va_up_ne _ _ (by assumption)).trans ?_)); done) | (simp [va_up, *] <;> rfl)) (k_X8_existingReader_in hF hD hkk hrr) rfl (by first | decide | exact Nat.le_of_ble_eq_true rfl) ⟨by decide, by decide, by decide, by decide⟩ (fun _ _ h => False.elim h) (fun v M' hp => ?_)
  obtain ⟨rfl, rfl⟩ := hp
  have g2 := hrr
  have hro := hD.rdo (i := rr.toNat) (by omega) (by omega)
  have hR := hD.rd (i := rr.toNat) (by omega) (by omega)
  obtain ⟨cn, hco, hcz, hcr⟩ := hD.rdc (i := rr.toNat) (by omega) (by omega)
  have hrk := (hk.1.2.2 rr.toNat (by omega)).1
  refine z_astore C dX8_foundOrder_5 (by decide) ?_
  refine z_iload_n C dX8_foundOrder_7 rfl ?_
  refine z_iload_n C dX8_foundOrder_8 rfl ?_
  refine z_callS C dX8_foundOrder_9 lk_X8_198 mw_X8_requireContext mst_X8_requireContext (k_I_ctx hcv) rfl (by first | decide | exact Nat.le_of_ble_eq_true rfl) ⟨by decide, by decide, by decide, by decide⟩ (fun _ _ h => False.elim h) (fun v M' hp => ?_)
  obtain ⟨rfl, rfl⟩ := hp
  have g9 := hcv
  refine z_iload C dX8_foundOrder_12 rfl ?_
  refine z_callS C dX8_foundOrder_14 lk_X8_185 mw_X8_requireSymbol mst_X8_requireSymbol (k_I_sym hss) rfl (by first | decide | exact Nat.le_of_ble_eq_true rfl) ⟨by decide, by decide, by decide, by decide⟩ (fun _ _ h => False.elim h) (fun v M' hp => ?_)
  obtain ⟨rfl, rfl⟩ := hp
  have g14 := hss
  refine z_aload C dX8_foundOrder_17 rfl ?_
  refine z_get C dX8_foundOrder_19 fl_X8_188 (by first | assumption | ((repeat (first | assumption | exact va_up_self _ _ _ | refine (va_up_ne _ _ (by assumption)).trans ?_)); done) | (simp [va_up, *] <;> rfl)) rfl ?_
  refine z_iload_n C dX8_foundOrder_22 rfl ?_
  refine z_iload_n C dX8_foundOrder_23 rfl ?_
  refine z_iload C dX8_foundOrder_24 rfl ?_
  refine z_callS C dX8_foundOrder_26 lk_X8_233 mw_X8_orderOf mst_X8_orderOf (k_X8_orderOf hR.2.2.1 g9.cx (s0 := ss) g14) rfl (by first | decide | exact Nat.le_of_ble_eq_true rfl) ⟨by decide, by decide, by decide, by decide⟩ (fun _ _ h => False.elim h) (fun v M' hp => ?_)
  obtain ⟨r26, rfl, rfl, hr26⟩ := hp
  refine z_iret C hQ dX8_foundOrder_29 rfl (by decide) (by decide) ?_
  rw [hr26]
  exact ⟨rfl, rfl⟩
set_option maxHeartbeats 4000000 in
set_option maxRecDepth 100000 in
theorem k_I_escapes {l : Launch} {γ : zG} {M : zM} {U : Nat → Nat} {Y : zSys} {rr bb pp ss : Int} (hc : hFc γ M U Y) (hk : yOk Y) (hrr : 0 ≤ rr ∧ rr < sRn (yS Y)) (hcv : zCv bb pp) (hss : zSy ss) :
    zCon l γ yX8_escapes cX8_escapes 5 (some .int) [.ref (U 0), .int (zi rr), .int (zi bb), .int (zi pp), .int (zi ss)] M 4 145 0 0 (fI γ M U Y (0, zcE (rC (sRd (yS Y) rr.toNat)) bb pp ss (rMe (sRd (yS Y) rr.toNat)))) (fun _ _ => False) := by
  have hbb := hcv.zb
  have hpp := hcv.zp
  have hc0 := hc
  obtain ⟨hI, pn, Z, iF, oF, hZ, hF, hX, hi1, ho1⟩ := hc
  have hob := id hF
  unfold hFo at hob
  have hD : hSt γ M (zUb U 0) (yS Y) := hZ.2.1 ▸ hX.st0
  have hst := hD.ob
  have hkn := hk.1.1
  have hkk := hk.1.nk
  have hRQ := hX.2.2.2.2.2.2.1
  have hok := fun M' => @fOk.rk γ M M' U Y pn Z iF oF hI hZ hF hX hi1 ho1
  obtain ⟨T0, B0, E0, mk0, hch⟩ := hX.2.2.2.2.2.2.2.1
  refine zEnter [some (.ref (U 0)), some (.int (zi rr)), some (.int (zi bb)), some (.int (zi pp)), some (.int (zi ss))] (by decide +kernel) rfl rfl (Nat.le_of_ble_eq_true rfl) ?_
  intro p e s m args below meth c Q C hin hQ
  refine z_aload_n C dX8_escapes_0 rfl ?_
  refine z_iload_n C dX8_escapes_1 rfl ?_
  refine z_iload_n C dX8_escapes_2 rfl ?_
  refine z_iload_n C dX8_escapes_3 rfl ?_
  refine z_iload C dX8_escapes_4 rfl ?_
  refine z_callV C dX8_escapes_6 lk_X8_236 mw_X8_chanceOf mi_X8_chanceOf ms_X8_chanceOf rfl (by first | assumption | ((repeat (first | assumption | exact va_up_self _ _ _ | refine (va_up_ne _ _ (by assumption)).trans ?_)); done) | (simp [va_up, *] <;> rfl)) (k_I_chance hF hD hk.1 hch hrr hcv hss) rfl (by first | decide | exact Nat.le_of_ble_eq_true rfl) ⟨by decide, by decide, by decide, by decide⟩ (fun _ _ h => False.elim h) (fun v M' hp => ?_)
  obtain ⟨rfl, f6, mk2, hH2⟩ := hp
  have g2 := hrr
  have g9 := hcv
  have g14 := hss
  have hob6 := id hH2
  unfold hCh at hob6
  have hok6 := fOk.ch hI hZ hF hX hi1 ho1 f6 hH2
  refine z_get C dX8_escapes_9 fl_X8_240 (by first | assumption | ((repeat (first | assumption | exact va_up_self _ _ _ | refine (va_up_ne _ _ (by assumption)).trans ?_)); done) | (simp [va_up, *] <;> rfl)) rfl ?_
  refine z_iret C hQ dX8_escapes_12 rfl (by decide) (by decide) ?_
  exact fI.of hok6 rfl
set_option maxHeartbeats 4000000 in
set_option maxRecDepth 100000 in
theorem k_I_numerator {l : Launch} {γ : zG} {M : zM} {U : Nat → Nat} {Y : zSys} {rr bb pp ss : Int} (hc : hFc γ M U Y) (hk : yOk Y) (hrr : 0 ≤ rr ∧ rr < sRn (yS Y)) (hcv : zCv bb pp) (hss : zSy ss) :
    zCon l γ yX8_numerator cX8_numerator 5 (some .long) [.ref (U 0), .int (zi rr), .int (zi bb), .int (zi pp), .int (zi ss)] M 4 145 0 0 (fL γ M U Y (0, zcT (rC (sRd (yS Y) rr.toNat)) bb pp ss (rMe (sRd (yS Y) rr.toNat)))) (fun _ _ => False) := by
  have hbb := hcv.zb
  have hpp := hcv.zp
  have hc0 := hc
  obtain ⟨hI, pn, Z, iF, oF, hZ, hF, hX, hi1, ho1⟩ := hc
  have hob := id hF
  unfold hFo at hob
  have hD : hSt γ M (zUb U 0) (yS Y) := hZ.2.1 ▸ hX.st0
  have hst := hD.ob
  have hkn := hk.1.1
  have hkk := hk.1.nk
  have hRQ := hX.2.2.2.2.2.2.1
  have hok := fun M' => @fOk.rk γ M M' U Y pn Z iF oF hI hZ hF hX hi1 ho1
  obtain ⟨T0, B0, E0, mk0, hch⟩ := hX.2.2.2.2.2.2.2.1
  refine zEnter [some (.ref (U 0)), some (.int (zi rr)), some (.int (zi bb)), some (.int (zi pp)), some (.int (zi ss))] (by decide +kernel) rfl rfl (Nat.le_of_ble_eq_true rfl) ?_
  intro p e s m args below meth c Q C hin hQ
  refine z_aload_n C dX8_numerator_0 rfl ?_
  refine z_iload_n C dX8_numerator_1 rfl ?_
  refine z_iload_n C dX8_numerator_2 rfl ?_
  refine z_iload_n C dX8_numerator_3 rfl ?_
  refine z_iload C dX8_numerator_4 rfl ?_
  refine z_callV C dX8_numerator_6 lk_X8_236 mw_X8_chanceOf mi_X8_chanceOf ms_X8_chanceOf rfl (by first | assumption | ((repeat (first | assumption | exact va_up_self _ _ _ | refine (va_up_ne _ _ (by assumption)).trans ?_)); done) | (simp [va_up, *] <;> rfl)) (k_I_chance hF hD hk.1 hch hrr hcv hss) rfl (by first | decide | exact Nat.le_of_ble_eq_true rfl) ⟨by decide, by decide, by decide, by decide⟩ (fun _ _ h => False.elim h) (fun v M' hp => ?_)
  obtain ⟨rfl, f6, mk2, hH2⟩ := hp
  have g2 := hrr
  have g9 := hcv
  have g14 := hss
  have hob6 := id hH2
  unfold hCh at hob6
  have hok6 := fOk.ch hI hZ hF hX hi1 ho1 f6 hH2
  refine z_get C dX8_numerator_9 fl_X8_243 (by first | assumption | ((repeat (first | assumption | exact va_up_self _ _ _ | refine (va_up_ne _ _ (by assumption)).trans ?_)); done) | (simp [va_up, *] <;> rfl)) rfl ?_
  refine z_lret C hQ dX8_numerator_12 (by decide) (by decide) ?_
  exact fL.of hok6 rfl
set_option maxHeartbeats 4000000 in
set_option maxRecDepth 100000 in
theorem k_I_denominator {l : Launch} {γ : zG} {M : zM} {U : Nat → Nat} {Y : zSys} {rr bb pp ss : Int} (hc : hFc γ M U Y) (hk : yOk Y) (hrr : 0 ≤ rr ∧ rr < sRn (yS Y)) (hcv : zCv bb pp) (hss : zSy ss) :
    zCon l γ yX8_denominator cX8_denominator 5 (some .long) [.ref (U 0), .int (zi rr), .int (zi bb), .int (zi pp), .int (zi ss)] M 4 145 0 0 (fL γ M U Y (0, zcB (rC (sRd (yS Y) rr.toNat)) bb pp ss (rMe (sRd (yS Y) rr.toNat)))) (fun _ _ => False) := by
  have hbb := hcv.zb
  have hpp := hcv.zp
  have hc0 := hc
  obtain ⟨hI, pn, Z, iF, oF, hZ, hF, hX, hi1, ho1⟩ := hc
  have hob := id hF
  unfold hFo at hob
  have hD : hSt γ M (zUb U 0) (yS Y) := hZ.2.1 ▸ hX.st0
  have hst := hD.ob
  have hkn := hk.1.1
  have hkk := hk.1.nk
  have hRQ := hX.2.2.2.2.2.2.1
  have hok := fun M' => @fOk.rk γ M M' U Y pn Z iF oF hI hZ hF hX hi1 ho1
  obtain ⟨T0, B0, E0, mk0, hch⟩ := hX.2.2.2.2.2.2.2.1
  refine zEnter [some (.ref (U 0)), some (.int (zi rr)), some (.int (zi bb)), some (.int (zi pp)), some (.int (zi ss))] (by decide +kernel) rfl rfl (Nat.le_of_ble_eq_true rfl) ?_
  intro p e s m args below meth c Q C hin hQ
  refine z_aload_n C dX8_denominator_0 rfl ?_
  refine z_iload_n C dX8_denominator_1 rfl ?_
  refine z_iload_n C dX8_denominator_2 rfl ?_
  refine z_iload_n C dX8_denominator_3 rfl ?_
  refine z_iload C dX8_denominator_4 rfl ?_
  refine z_callV C dX8_denominator_6 lk_X8_236 mw_X8_chanceOf mi_X8_chanceOf ms_X8_chanceOf rfl (by first | assumption | ((repeat (first | assumption | exact va_up_self _ _ _ | refine (va_up_ne _ _ (by assumption)).trans ?_)); done) | (simp [va_up, *] <;> rfl)) (k_I_chance hF hD hk.1 hch hrr hcv hss) rfl (by first | decide | exact Nat.le_of_ble_eq_true rfl) ⟨by decide, by decide, by decide, by decide⟩ (fun _ _ h => False.elim h) (fun v M' hp => ?_)
  obtain ⟨rfl, f6, mk2, hH2⟩ := hp
  have g2 := hrr
  have g9 := hcv
  have g14 := hss
  have hob6 := id hH2
  unfold hCh at hob6
  have hok6 := fOk.ch hI hZ hF hX hi1 ho1 f6 hH2
  refine z_get C dX8_denominator_9 fl_X8_247 (by first | assumption | ((repeat (first | assumption | exact va_up_self _ _ _ | refine (va_up_ne _ _ (by assumption)).trans ?_)); done) | (simp [va_up, *] <;> rfl)) rfl ?_
  refine z_lret C hQ dX8_denominator_12 (by decide) (by decide) ?_
  exact fL.of hok6 rfl
set_option maxHeartbeats 4000000 in
set_option maxRecDepth 100000 in
theorem k_I_codeLength {l : Launch} {γ : zG} {M : zM} {U : Nat → Nat} {Y : zSys} {rr bb pp ss : Int} (hc : hFc γ M U Y) (hk : yOk Y) (hrr : 0 ≤ rr ∧ rr < sRn (yS Y)) (hcv : zCv bb pp) (hss : zSy ss) :
    zCon l γ yX8_codeLength cX8_codeLength 5 (some .int) [.ref (U 0), .int (zi rr), .int (zi bb), .int (zi pp), .int (zi ss)] M 4 145 0 0 (fI γ M U Y (0, zbt 62 (zcT (rC (sRd (yS Y) rr.toNat)) bb pp ss (rMe (sRd (yS Y) rr.toNat))) (zcB (rC (sRd (yS Y) rr.toNat)) bb pp ss (rMe (sRd (yS Y) rr.toNat))))) (fun _ _ => False) := by
  have hbb := hcv.zb
  have hpp := hcv.zp
  have hc0 := hc
  obtain ⟨hI, pn, Z, iF, oF, hZ, hF, hX, hi1, ho1⟩ := hc
  have hob := id hF
  unfold hFo at hob
  have hD : hSt γ M (zUb U 0) (yS Y) := hZ.2.1 ▸ hX.st0
  have hst := hD.ob
  have hkn := hk.1.1
  have hkk := hk.1.nk
  have hRQ := hX.2.2.2.2.2.2.1
  have hok := fun M' => @fOk.rk γ M M' U Y pn Z iF oF hI hZ hF hX hi1 ho1
  obtain ⟨T0, B0, E0, mk0, hch⟩ := hX.2.2.2.2.2.2.2.1
  refine zEnter [some (.ref (U 0)), some (.int (zi rr)), some (.int (zi bb)), some (.int (zi pp)), some (.int (zi ss))] (by decide +kernel) rfl rfl (Nat.le_of_ble_eq_true rfl) ?_
  intro p e s m args below meth c Q C hin hQ
  refine z_aload_n C dX8_codeLength_0 rfl ?_
  refine z_iload_n C dX8_codeLength_1 rfl ?_
  refine z_iload_n C dX8_codeLength_2 rfl ?_
  refine z_iload_n C dX8_codeLength_3 rfl ?_
  refine z_iload C dX8_codeLength_4 rfl ?_
  refine z_callV C dX8_codeLength_6 lk_X8_236 mw_X8_chanceOf mi_X8_chanceOf ms_X8_chanceOf rfl (by first | assumption | ((repeat (first | assumption | exact va_up_self _ _ _ | refine (va_up_ne _ _ (by assumption)).trans ?_)); done) | (simp [va_up, *] <;> rfl)) (k_I_chance hF hD hk.1 hch hrr hcv hss) rfl (by first | decide | exact Nat.le_of_ble_eq_true rfl) ⟨by decide, by decide, by decide, by decide⟩ (fun _ _ h => False.elim h) (fun v M' hp => ?_)
  obtain ⟨rfl, f6, mk2, hH2⟩ := hp
  have g2 := hrr
  have g9 := hcv
  have g14 := hss
  have hob6 := id hH2
  unfold hCh at hob6
  have hok6 := fOk.ch hI hZ hF hX hi1 ho1 f6 hH2
  have hrr3 := (hk.1.2.2 rr.toNat (by omega)).1.2.2.1
  have hTB := zcT_rng hrr3 (b := bb) (p := pp) (s := ss) (me := rMe (sRd (yS Y) rr.toNat)) g14
  refine z_callV C dX8_codeLength_9 lk_X8_250 mw_X1_bits mi_X1_bits ms_X1_bits rfl (by first | assumption | ((repeat (first | assumption | exact va_up_self _ _ _ | refine (va_up_ne _ _ (by assumption)).trans ?_)); done) | (simp [va_up, *] <;> rfl)) (k_X1_bits hH2 hTB.1 hTB.2) rfl (by first | decide | exact Nat.le_of_ble_eq_true rfl) ⟨by decide, by decide, by decide, by decide⟩ (fun _ _ h => False.elim h) (fun v M' hp => ?_)
  obtain ⟨r9, rfl, rfl, hr9⟩ := hp
  refine z_iret C hQ dX8_codeLength_12 rfl (by decide) (by decide) ?_
  rw [hr9]
  exact fI.of hok6 rfl
set_option maxHeartbeats 4000000 in
set_option maxRecDepth 100000 in
theorem k_I_probability {l : Launch} {γ : zG} {M : zM} {U : Nat → Nat} {Y : zSys} {rr bb pp ss : Int} (hc : hFc γ M U Y) (hk : yOk Y) (hrr : 0 ≤ rr ∧ rr < sRn (yS Y)) (hcv : zCv bb pp) (hss : zSy ss) :
    zCon l γ yX8_probability cX8_probability 6 (some .double) [.ref (U 0), .int (zi rr), .int (zi bb), .int (zi pp), .int (zi ss)] M 4 145 0 0 (fD (x_probability (yS Y) rr bb pp ss) γ M U Y (0, 0)) (fun _ _ => False) := by
  have hbb := hcv.zb
  have hpp := hcv.zp
  have hc0 := hc
  obtain ⟨hI, pn, Z, iF, oF, hZ, hF, hX, hi1, ho1⟩ := hc
  have hob := id hF
  unfold hFo at hob
  have hD : hSt γ M (zUb U 0) (yS Y) := hZ.2.1 ▸ hX.st0
  have hst := hD.ob
  have hkn := hk.1.1
  have hkk := hk.1.nk
  have hRQ := hX.2.2.2.2.2.2.1
  have hok := fun M' => @fOk.rk γ M M' U Y pn Z iF oF hI hZ hF hX hi1 ho1
  obtain ⟨T0, B0, E0, mk0, hch⟩ := hX.2.2.2.2.2.2.2.1
  refine zEnter [some (.ref (U 0)), some (.int (zi rr)), some (.int (zi bb)), some (.int (zi pp)), some (.int (zi ss)), none] (by decide +kernel) rfl rfl (Nat.le_of_ble_eq_true rfl) ?_
  intro p e s m args below meth c Q C hin hQ
  refine z_aload_n C dX8_probability_0 rfl ?_
  refine z_iload_n C dX8_probability_1 rfl ?_
  refine z_iload_n C dX8_probability_2 rfl ?_
  refine z_iload_n C dX8_probability_3 rfl ?_
  refine z_iload C dX8_probability_4 rfl ?_
  refine z_callV C dX8_probability_6 lk_X8_236 mw_X8_chanceOf mi_X8_chanceOf ms_X8_chanceOf rfl (by first | assumption | ((repeat (first | assumption | exact va_up_self _ _ _ | refine (va_up_ne _ _ (by assumption)).trans ?_)); done) | (simp [va_up, *] <;> rfl)) (k_I_chance hF hD hk.1 hch hrr hcv hss) rfl (by first | decide | exact Nat.le_of_ble_eq_true rfl) ⟨by decide, by decide, by decide, by decide⟩ (fun _ _ h => False.elim h) (fun v M' hp => ?_)
  obtain ⟨rfl, f6, mk2, hH2⟩ := hp
  have g2 := hrr
  have g9 := hcv
  have g14 := hss
  have hob6 := id hH2
  unfold hCh at hob6
  have hok6 := fOk.ch hI hZ hF hX hi1 ho1 f6 hH2
  have hrr3 := (hk.1.2.2 rr.toNat (by omega)).1.2.2.1
  have hTB := zcT_rng hrr3 (b := bb) (p := pp) (s := ss) (me := rMe (sRd (yS Y) rr.toNat)) g14
  refine z_astore C dX8_probability_9 (by decide) ?_
  refine z_aload C dX8_probability_11 rfl ?_
  refine z_get C dX8_probability_13 fl_X8_247 (by first | assumption | ((repeat (first | assumption | exact va_up_self _ _ _ | refine (va_up_ne _ _ (by assumption)).trans ?_)); done) | (simp [va_up, *] <;> rfl)) rfl ?_
  refine z_lconstZ (x := 0) C dX8_probability_16 rfl ?_
  refine z_lcmpZ C dX8_probability_17 (by unfold zZ; omega) (by unfold zZ; omega) ?_
  have hzc : zcmp (zcB (rC (sRd (yS Y) rr.toNat)) bb pp ss (rMe (sRd (yS Y) rr.toNat))) 0 = 1 := by
    unfold zcmp
    repeat' split
    all_goals omega
  refine z_if_leZ (tgt := 37) C dX8_probability_18 (by decide) (by omega) (fun h18 => ?_) (fun h18 => ?_)
  · exact absurd h18 (by omega)
  · refine z_aload C dX8_probability_21 rfl ?_
    refine z_get C dX8_probability_23 fl_X8_243 (by first | assumption | ((repeat (first | assumption | exact va_up_self _ _ _ | refine (va_up_ne _ _ (by assumption)).trans ?_)); done) | (simp [va_up, *] <;> rfl)) rfl ?_
    refine z_l2d C dX8_probability_26 ?_
    refine z_aload C dX8_probability_27 rfl ?_
    refine z_get C dX8_probability_29 fl_X8_247 (by first | assumption | ((repeat (first | assumption | exact va_up_self _ _ _ | refine (va_up_ne _ _ (by assumption)).trans ?_)); done) | (simp [va_up, *] <;> rfl)) rfl ?_
    refine z_l2d C dX8_probability_32 ?_
    refine z_ddiv C dX8_probability_33 (zddiv_l (by omega) (by omega)) ?_
    refine z_goto (tgt := 38) C dX8_probability_34 (by decide) ?_
    refine z_dret C hQ dX8_probability_38 (by decide) (by decide) ?_
    exact fD.of hok6 rfl rfl

