/-! the face: what its methods share -/
abbrev xIOB : String := "java/lang/IndexOutOfBoundsException"
abbrev xIAE : String := "java/lang/IllegalArgumentException"
abbrev xISE : String := "java/lang/IllegalStateException"
set_option maxHeartbeats 4000000 in
set_option maxRecDepth 100000 in
theorem k_X8_existingReader {l : Launch} {γ : zG} {M : zM} {U : Nat → Nat} {pn cnt ec ep : Int} {S : zSt} {i : Int} (hF : hFo γ M U pn cnt ec ep) (hD : hSt γ M (zUb U 0) S) (hk : zNk S) (hi : zR i) :
    zCon l γ yX8_existingReader cX8_existingReader 3 (some (.object "TrigramReaders$Reader")) [.ref (U 0), .int (zi i)] M 6 82 1 6 (fun v' M' => M' = M ∧ (0 ≤ i ∧ i < sRn S) ∧ v' = some (.ref (zUb U 0 (3 + 6 * i.toNat)))) (fun X M' => X = xIOB ∧ M' = M ∧ ¬ (0 ≤ i ∧ i < sRn S)) := by
  have hob := id hF
  unfold hFo at hob
  have hst := hD.ob
  refine zEnter [some (.ref (U 0)), some (.int (zi i)), none] (by decide +kernel) rfl rfl (Nat.le_of_ble_eq_true rfl) ?_
  intro p e s m args below meth c Q C hin hQ
  have fin : ∀ x : Nat, (0 ≤ i ∧ i < sRn S) → x = zUb U 0 (3 + 6 * i.toNat) → zAW p l e { frames := 6, cells := 1, slots := 6, locals := 82 } s m args below meth c γ 3 Q M 0 0 8 [some (.ref (U 0)), some (.int (zi i)), none] [.ref x] := by
    intro x h1 h2
    refine z_astore_n C dX8_existingReader_8 (by decide) ?_
    refine z_aload_n C dX8_existingReader_9 rfl ?_
    refine z_ifnonnull (tgt := 24) C dX8_existingReader_10 (by decide) ?_
    refine z_aload_n C dX8_existingReader_24 rfl ?_
    refine z_aret C hQ dX8_existingReader_25 (by first | exact Or.inl ⟨_, rfl⟩ | exact Or.inr ⟨_, rfl⟩) (Or.inr ⟨_, rfl⟩) (by decide) (by decide) ?_
    exact ⟨rfl, h1, by rw [h2]⟩
  refine z_aload_n C dX8_existingReader_0 rfl ?_
  refine z_get C dX8_existingReader_1 fl_X8_13 (by first | assumption | ((repeat (first | assumption | exact va_up_self _ _ _ | refine (va_up_ne _ _ (by assumption)).trans ?_)); done) | (simp [va_up, *] <;> rfl)) rfl ?_
  refine z_iload_n C dX8_existingReader_4 rfl ?_
  refine z_callV C dX8_existingReader_5 lk_X8_361 mw_X7_readerAt mi_X7_readerAt ms_X7_readerAt rfl (by first | assumption | ((repeat (first | assumption | exact va_up_self _ _ _ | refine (va_up_ne _ _ (by assumption)).trans ?_)); done) | (simp [va_up, *] <;> rfl)) (k_X7_readerAt hD hk hi) rfl (by first | decide | exact Nat.le_of_ble_eq_true rfl) ⟨by decide, by decide, by decide, by decide⟩ (fun _ _ h => False.elim h) (fun v M' hp => ?_)
  obtain ⟨rfl, ⟨g1, rfl⟩ | ⟨g1, rfl⟩⟩ := hp
  · exact fin _ g1 rfl
  refine z_astore_nN C dX8_existingReader_8 (by decide) ?_
  refine z_aload_nN C dX8_existingReader_9 rfl ?_
  refine z_ifnonnullN C dX8_existingReader_10 ?_
  refine z_throwW C hQ xt_IOB (si := 11) rfl dX8_existingReader_13 dX8_existingReader_16 dX8_existingReader_17 dX8_existingReader_20 dX8_existingReader_23 ⟨by decide, by decide, by decide, by decide⟩ (by decide) (by decide) ?_
  exact ⟨rfl, rfl, g1⟩
set_option maxHeartbeats 4000000 in
set_option maxRecDepth 100000 in
theorem k_X8_existingDocument {l : Launch} {γ : zG} {M : zM} {U : Nat → Nat} {pn cnt ec ep : Int} {S : zSt} {i : Int} (hF : hFo γ M U pn cnt ec ep) (hD : hSt γ M (zUb U 0) S) (hk : zNk S) (hi : zR i) :
    zCon l γ yX8_existingDocument cX8_existingDocument 3 (some (.object "TrigramReaders$Document")) [.ref (U 0), .int (zi i)] M 6 82 1 6 (fun v' M' => M' = M ∧ (0 ≤ i ∧ i < sDn S) ∧ v' = some (.ref (zUb U 0 (27 + 2 * i.toNat)))) (fun X M' => X = xIOB ∧ M' = M ∧ ¬ (0 ≤ i ∧ i < sDn S)) := by
  have hob := id hF
  unfold hFo at hob
  have hst := hD.ob
  refine zEnter [some (.ref (U 0)), some (.int (zi i)), none] (by decide +kernel) rfl rfl (Nat.le_of_ble_eq_true rfl) ?_
  intro p e s m args below meth c Q C hin hQ
  have fin : ∀ x : Nat, (0 ≤ i ∧ i < sDn S) → x = zUb U 0 (27 + 2 * i.toNat) → zAW p l e { frames := 6, cells := 1, slots := 6, locals := 82 } s m args below meth c γ 3 Q M 0 0 8 [some (.ref (U 0)), some (.int (zi i)), none] [.ref x] := by
    intro x h1 h2
    refine z_astore_n C dX8_existingDocument_8 (by decide) ?_
    refine z_aload_n C dX8_existingDocument_9 rfl ?_
    refine z_ifnonnull (tgt := 24) C dX8_existingDocument_10 (by decide) ?_
    refine z_aload_n C dX8_existingDocument_24 rfl ?_
    refine z_aret C hQ dX8_existingDocument_25 (by first | exact Or.inl ⟨_, rfl⟩ | exact Or.inr ⟨_, rfl⟩) (Or.inr ⟨_, rfl⟩) (by decide) (by decide) ?_
    exact ⟨rfl, h1, by rw [h2]⟩
  refine z_aload_n C dX8_existingDocument_0 rfl ?_
  refine z_get C dX8_existingDocument_1 fl_X8_13 (by first | assumption | ((repeat (first | assumption | exact va_up_self _ _ _ | refine (va_up_ne _ _ (by assumption)).trans ?_)); done) | (simp [va_up, *] <;> rfl)) rfl ?_
  refine z_iload_n C dX8_existingDocument_4 rfl ?_
  refine z_callV C dX8_existingDocument_5 lk_X8_369 mw_X7_documentAt mi_X7_documentAt ms_X7_documentAt rfl (by first | assumption | ((repeat (first | assumption | exact va_up_self _ _ _ | refine (va_up_ne _ _ (by assumption)).trans ?_)); done) | (simp [va_up, *] <;> rfl)) (k_X7_documentAt hD hk hi) rfl (by first | decide | exact Nat.le_of_ble_eq_true rfl) ⟨by decide, by decide, by decide, by decide⟩ (fun _ _ h => False.elim h) (fun v M' hp => ?_)
  obtain ⟨rfl, ⟨g1, rfl⟩ | ⟨g1, rfl⟩⟩ := hp
  · exact fin _ g1 rfl
  refine z_astore_nN C dX8_existingDocument_8 (by decide) ?_
  refine z_aload_nN C dX8_existingDocument_9 rfl ?_
  refine z_ifnonnullN C dX8_existingDocument_10 ?_
  refine z_throwW C hQ xt_IOB (si := 12) rfl dX8_existingDocument_13 dX8_existingDocument_16 dX8_existingDocument_17 dX8_existingDocument_20 dX8_existingDocument_23 ⟨by decide, by decide, by decide, by decide⟩ (by decide) (by decide) ?_
  exact ⟨rfl, rfl, g1⟩
set_option maxHeartbeats 4000000 in
set_option maxRecDepth 100000 in
theorem k_X8_requireMethod {l : Launch} {γ : zG} {M : zM} {i : Int} (hi : zR i) :
    zCon l γ yX8_requireMethod cX8_requireMethod 1 none [.int (zi i)] M 6 82 1 6 (fun v' M' => v' = none ∧ M' = M ∧ (0 ≤ i ∧ i ≤ 2)) (fun X M' => X = xIAE ∧ M' = M ∧ ¬ (0 ≤ i ∧ i ≤ 2)) := by
  unfold zR at hi
  refine zEnter [some (.int (zi i))] (by decide +kernel) rfl rfl (Nat.le_of_ble_eq_true rfl) ?_
  intro p e s m args below meth c Q C hin hQ
  refine z_iload_n C dX8_requireMethod_0 rfl ?_
  refine z_if_ltZ (tgt := 9) C dX8_requireMethod_1 (by decide) (by omega) (fun h1 => ?_) (fun h1 => ?_)
  · refine z_throwW C hQ xt_IAE (si := 18) rfl dX8_requireMethod_9 dX8_requireMethod_12 dX8_requireMethod_13 dX8_requireMethod_16 dX8_requireMethod_19 ⟨by decide, by decide, by decide, by decide⟩ (by decide) (by decide) ?_
    exact ⟨rfl, rfl, by omega⟩
  · refine z_iload_n C dX8_requireMethod_4 rfl ?_
    refine z_iconst C dX8_requireMethod_5 ?_
    refine z_icmp_leZ (tgt := 20) C dX8_requireMethod_6 (by decide) (by omega) (by omega) (fun h6 => ?_) (fun h6 => ?_)
    · refine z_vret C hQ dX8_requireMethod_20 (by decide) (by decide) ?_
      exact ⟨rfl, rfl, by omega⟩
    · refine z_throwW C hQ xt_IAE (si := 18) rfl dX8_requireMethod_9 dX8_requireMethod_12 dX8_requireMethod_13 dX8_requireMethod_16 dX8_requireMethod_19 ⟨by decide, by decide, by decide, by decide⟩ (by decide) (by decide) ?_
      exact ⟨rfl, rfl, by omega⟩
set_option maxHeartbeats 4000000 in
set_option maxRecDepth 100000 in
theorem k_X8_requireSymbol {l : Launch} {γ : zG} {M : zM} {i : Int} (hi : zR i) :
    zCon l γ yX8_requireSymbol cX8_requireSymbol 1 none [.int (zi i)] M 6 82 1 6 (fun v' M' => v' = none ∧ M' = M ∧ zSy i) (fun X M' => X = xIAE ∧ M' = M ∧ ¬ zSy i) := by
  refine zEnter [some (.int (zi i))] (by decide +kernel) rfl rfl (Nat.le_of_ble_eq_true rfl) ?_
  intro p e s m args below meth c Q C hin hQ
  refine z_iload_n C dX8_requireSymbol_0 rfl ?_
  refine z_callS C dX8_requireSymbol_1 lk_X8_378 mw_X8_isSymbol mst_X8_isSymbol (k_X8_isSymbol hi) rfl (by first | decide | exact Nat.le_of_ble_eq_true rfl) ⟨by decide, by decide, by decide, by decide⟩ (fun _ _ h => False.elim h) (fun v M' hp => ?_)
  obtain ⟨r1, rfl, rfl, hr1⟩ := hp
  have q1 := hr1.rng
  refine z_if_neZ (tgt := 18) C dX8_requireSymbol_4 (by decide) (by omega) (fun h4 => ?_) (fun h4 => ?_)
  · refine z_vret C hQ dX8_requireSymbol_18 (by decide) (by decide) ?_
    exact ⟨rfl, rfl, hr1.t h4⟩
  · refine z_throwW C hQ xt_IAE (si := 14) rfl dX8_requireSymbol_7 dX8_requireSymbol_10 dX8_requireSymbol_11 dX8_requireSymbol_14 dX8_requireSymbol_17 ⟨by decide, by decide, by decide, by decide⟩ (by decide) (by decide) ?_
    exact ⟨rfl, rfl, hr1.f h4⟩
/-- a valid context -/
def zCv (b p : Int) : Prop := (p = -1 ∧ b = -1) ∨ (zSy p ∧ (b = -1 ∨ zSy b))
theorem zCv.cx {b p : Int} (h : zCv b p) : zCx b p := by
  unfold zCv zSy at h
  unfold zCx
  omega
set_option maxHeartbeats 4000000 in
set_option maxRecDepth 100000 in
theorem k_X8_requireContext {l : Launch} {γ : zG} {M : zM} {b p0 : Int} (hb : zR b) (hp0 : zR p0) :
    zCon l γ yX8_requireContext cX8_requireContext 3 none [.int (zi b), .int (zi p0)] M 6 82 1 6 (fun v' M' => v' = none ∧ M' = M ∧ zCv b p0) (fun X M' => X = xIAE ∧ M' = M ∧ ¬ zCv b p0) := by
  have hb1 := hb
  have hp1 := hp0
  unfold zR at hb1 hp1
  refine zEnter [some (.int (zi b)), some (.int (zi p0)), none] (by decide +kernel) rfl rfl (Nat.le_of_ble_eq_true rfl) ?_
  intro p e s m args below meth c Q C hin hQ
  have fin : ∀ r : Int, zB r (zCv b p0) → zAW p l e { frames := 6, cells := 1, slots := 6, locals := 82 } s m args below meth c γ 3 Q M 0 0 43 [some (.int (zi b)), some (.int (zi p0)), some (.int (zi r))] [] := by
    intro r hr
    have q := hr.rng
    refine z_iload_n C dX8_requireContext_43 rfl ?_
    refine z_if_neZ (tgt := 58) C dX8_requireContext_44 (by decide) (by omega) (fun h44 => ?_) (fun h44 => ?_)
    · refine z_vret C hQ dX8_requireContext_58 (by decide) (by decide) ?_
      exact ⟨rfl, rfl, hr.t h44⟩
    · refine z_throwW C hQ xt_IAE (si := 15) rfl dX8_requireContext_47 dX8_requireContext_50 dX8_requireContext_51 dX8_requireContext_54 dX8_requireContext_57 ⟨by decide, by decide, by decide, by decide⟩ (by decide) (by decide) ?_
      exact ⟨rfl, rfl, hr.f h44⟩
  have ex : ∀ r : Int, zB r (zCv b p0) → zAW p l e { frames := 6, cells := 1, slots := 6, locals := 82 } s m args below meth c γ 3 Q M 0 0 42 [some (.int (zi b)), some (.int (zi p0)), none] [.int (zi r)] := by
    intro r hr
    refine z_istore_n C dX8_requireContext_42 (by decide) ?_
    exact fin r hr
  refine z_iload_n C dX8_requireContext_0 rfl ?_
  refine z_iconst C dX8_requireContext_1 ?_
  refine z_icmp_neZ (tgt := 18) C dX8_requireContext_2 (by decide) (by omega) (by omega) (fun h2 => ?_) (fun h2 => ?_)
  · refine z_iload_n C dX8_requireContext_18 rfl ?_
    refine z_callS C dX8_requireContext_19 lk_X8_378 mw_X8_isSymbol mst_X8_isSymbol (k_X8_isSymbol hp0) rfl (by first | decide | exact Nat.le_of_ble_eq_true rfl) ⟨by decide, by decide, by decide, by decide⟩ (fun _ _ h => False.elim h) (fun v M' hp => ?_)
    obtain ⟨r19, rfl, rfl, hr19⟩ := hp
    have q19 := hr19.rng
    refine z_if_eqZ (tgt := 41) C dX8_requireContext_22 (by decide) (by omega) (fun h22 => ?_) (fun h22 => ?_)
    · refine z_iconst C dX8_requireContext_41 ?_
      exact ex 0 (.inr ⟨rfl, fun q => by
        rcases q with q | q
        · omega
        · exact hr19.f h22 q.1⟩)
    · refine z_iload_n C dX8_requireContext_25 rfl ?_
      refine z_iconst C dX8_requireContext_26 ?_
      refine z_icmp_eqZ (tgt := 37) C dX8_requireContext_27 (by decide) (by omega) (by omega) (fun h27 => ?_) (fun h27 => ?_)
      · refine z_iconst C dX8_requireContext_37 ?_
        refine z_goto (tgt := 42) C dX8_requireContext_38 (by decide) ?_
        exact ex 1 (.inl ⟨rfl, .inr ⟨hr19.t h22, .inl h27⟩⟩)
      · refine z_iload_n C dX8_requireContext_30 rfl ?_
        refine z_callS C dX8_requireContext_31 lk_X8_378 mw_X8_isSymbol mst_X8_isSymbol (k_X8_isSymbol hb) rfl (by first | decide | exact Nat.le_of_ble_eq_true rfl) ⟨by decide, by decide, by decide, by decide⟩ (fun _ _ h => False.elim h) (fun v M' hp => ?_)
        obtain ⟨r31, rfl, rfl, hr31⟩ := hp
        have q31 := hr31.rng
        refine z_if_eqZ (tgt := 41) C dX8_requireContext_34 (by decide) (by omega) (fun h34 => ?_) (fun h34 => ?_)
        · refine z_iconst C dX8_requireContext_41 ?_
          exact ex 0 (.inr ⟨rfl, fun q => by
            rcases q with q | q
            · omega
            · rcases q.2 with q | q
              · exact h27 q
              · exact hr31.f h34 q⟩)
        · refine z_iconst C dX8_requireContext_37 ?_
          refine z_goto (tgt := 42) C dX8_requireContext_38 (by decide) ?_
          exact ex 1 (.inl ⟨rfl, .inr ⟨hr19.t h22, .inr (hr31.t h34)⟩⟩)
  · refine z_iload_n C dX8_requireContext_5 rfl ?_
    refine z_iconst C dX8_requireContext_6 ?_
    refine z_icmp_neZ (tgt := 14) C dX8_requireContext_7 (by decide) (by omega) (by omega) (fun h7 => ?_) (fun h7 => ?_)
    · refine z_iconst C dX8_requireContext_14 ?_
      refine z_goto (tgt := 42) C dX8_requireContext_15 (by decide) ?_
      exact ex 0 (.inr ⟨rfl, fun q => by
        rcases q with q | q
        · omega
        · have := q.1
          unfold zSy at this
          omega⟩)
    · refine z_iconst C dX8_requireContext_10 ?_
      refine z_goto (tgt := 42) C dX8_requireContext_11 (by decide) ?_
      exact ex 1 (.inl ⟨rfl, .inl ⟨by omega, by omega⟩⟩)
set_option maxHeartbeats 4000000 in
set_option maxRecDepth 100000 in
theorem k_X8_chanceOf {l : Launch} {γ : zG} {M : zM} {U : Nat → Nat} {pn cnt ec ep : Int} {S : zSt} {i pb pp s0 T B E : Int} {mk : Int32} (hF : hFo γ M U pn cnt ec ep) (hD : hSt γ M (zUb U 0) S) (hk : zOk S) (hH : hCh γ M (U 14) T B E mk) (hi : zR i) (hb : zR pb) (hp0 : zR pp) (hs : zR s0) :
    zCon l γ yX8_chanceOf cX8_chanceOf 6 (some (.object "TrigramReaders$Chance")) [.ref (U 0), .int (zi i), .int (zi pb), .int (zi pp), .int (zi s0)] M 7 104 3 18 (fun v' M' => v' = some (.ref (U 14)) ∧ zFr M M' [U 14] ∧ (0 ≤ i ∧ i < sRn S) ∧ zCv pb pp ∧ zSy s0 ∧ ∃ mk', hCh γ M' (U 14) (zcT (rC (sRd S i.toNat)) pb pp s0 (rMe (sRd S i.toNat))) (zcB (rC (sRd S i.toNat)) pb pp s0 (rMe (sRd S i.toNat))) (zcE (rC (sRd S i.toNat)) pb pp s0 (rMe (sRd S i.toNat))) mk') (fun X M' => M' = M ∧ ((X = xIOB ∧ ¬ (0 ≤ i ∧ i < sRn S)) ∨ (X = xIAE ∧ (0 ≤ i ∧ i < sRn S) ∧ ¬ (zCv pb pp ∧ zSy s0)))) := by
  have hob := id hF
  unfold hFo at hob
  have hch := id hH
  unfold hCh at hch
  have hkn := hk.1.1
  refine zEnter [some (.ref (U 0)), some (.int (zi i)), some (.int (zi pb)), some (.int (zi pp)), some (.int (zi s0)), none] (by decide +kernel) rfl rfl (Nat.le_of_ble_eq_true rfl) ?_
  intro p e s m args below meth c Q C hin hQ
  refine z_aload_n C dX8_chanceOf_0 rfl ?_
  refine z_iload_n C dX8_chanceOf_1 rfl ?_
  refine z_callV C dX8_chanceOf_2 lk_X8_149 mw_X8_existingReader mi_X8_existingReader ms_X8_existingReader rfl (by first | assumption | ((repeat (first | assumption | exact va_up_self _ _ _ | refine (va_up_ne _ _ (by assumption)).trans ?_)); done) | (simp [va_up, *] <;> rfl)) (k_X8_existingReader hF hD hk.nk hi) rfl (by first | decide | exact Nat.le_of_ble_eq_true rfl) ⟨by decide, by decide, by decide, by decide⟩ (fun X M' h => by obtain ⟨rfl, rfl, h⟩ := h; exact z_out C hQ (by decide) (by decide) ⟨rfl, .inl ⟨rfl, h⟩⟩) (fun v M' hp => ?_)
  obtain ⟨rfl, g2, rfl⟩ := hp
  refine z_astore C dX8_chanceOf_5 (by decide) ?_
  refine z_iload_n C dX8_chanceOf_7 rfl ?_
  refine z_iload_n C dX8_chanceOf_8 rfl ?_
  refine z_callS C dX8_chanceOf_9 lk_X8_198 mw_X8_requireContext mst_X8_requireContext (k_X8_requireContext hb hp0) rfl (by first | decide | exact Nat.le_of_ble_eq_true rfl) ⟨by decide, by decide, by decide, by decide⟩ (fun X M' h => by obtain ⟨rfl, rfl, h⟩ := h; exact z_out C hQ (by decide) (by decide) ⟨rfl, .inr ⟨rfl, g2, fun q => h q.1⟩⟩) (fun v M' hp => ?_)
  obtain ⟨rfl, rfl, g9⟩ := hp
  refine z_iload C dX8_chanceOf_12 rfl ?_
  refine z_callS C dX8_chanceOf_14 lk_X8_185 mw_X8_requireSymbol mst_X8_requireSymbol (k_X8_requireSymbol hs) rfl (by first | decide | exact Nat.le_of_ble_eq_true rfl) ⟨by decide, by decide, by decide, by decide⟩ (fun X M' h => by obtain ⟨rfl, rfl, h⟩ := h; exact z_out C hQ (by decide) (by decide) ⟨rfl, .inr ⟨rfl, g2, fun q => h q.2⟩⟩) (fun v M' hp => ?_)
  obtain ⟨rfl, rfl, g14⟩ := hp
  have hR := hD.rd (i := i.toNat) (by omega) (by omega)
  have hro := (hk.2.2 i.toNat (by omega)).1.1
  refine z_aload_n C dX8_chanceOf_17 rfl ?_
  refine z_get C dX8_chanceOf_18 fl_X8_74 (by first | assumption | ((repeat (first | assumption | exact va_up_self _ _ _ | refine (va_up_ne _ _ (by assumption)).trans ?_)); done) | (simp [va_up, *] <;> rfl)) rfl ?_
  refine z_aload C dX8_chanceOf_21 rfl ?_
  refine z_iload_n C dX8_chanceOf_23 rfl ?_
  refine z_iload_n C dX8_chanceOf_24 rfl ?_
  refine z_iload C dX8_chanceOf_25 rfl ?_
  refine z_callV C dX8_chanceOf_27 lk_X8_270 mw_X1_find mi_X1_find ms_X1_find rfl (by first | assumption | ((repeat (first | assumption | exact va_up_self _ _ _ | refine (va_up_ne _ _ (by assumption)).trans ?_)); done) | (simp [va_up, *] <;> rfl)) (k_X1_find hH hR g9.cx (s0 := s0) g14 hro) rfl (by first | decide | exact Nat.le_of_ble_eq_true rfl) ⟨by decide, by decide, by decide, by decide⟩ (fun _ _ h => False.elim h) (fun v M' hp => ?_)
  obtain ⟨rfl, f27, mk2, hH2⟩ := hp
  have hob2 := f27.at (b := U 0) (by have := zne_kk hF hH (by decide); simp [this]) hob
  refine z_aload_n C dX8_chanceOf_30 rfl ?_
  refine z_get C dX8_chanceOf_31 fl_X8_74 (by first | assumption | ((repeat (first | assumption | exact va_up_self _ _ _ | refine (va_up_ne _ _ (by assumption)).trans ?_)); done) | (simp [va_up, *] <;> rfl)) rfl ?_
  refine z_aret C hQ dX8_chanceOf_34 (by first | exact Or.inl ⟨_, rfl⟩ | exact Or.inr ⟨_, rfl⟩) (Or.inr ⟨_, rfl⟩) (by decide) (by decide) ?_
  exact ⟨rfl, f27, g2, g9, g14, mk2, hH2⟩

