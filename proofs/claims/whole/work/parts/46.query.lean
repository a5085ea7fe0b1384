/-! the face's answers: comparisons, trials -/
theorem zgf_le {c : Int → Int} {X : zDoc} {r : Int} (h1 : r = zgf c X) (h2 : dLe X ≤ r ∧ r ≤ 27 * dLe X) (h3 : zDok X) : 1 ≤ r ∧ r ≤ 1080 := by
  have := h3.1
  omega
theorem zind_27 (c : Int → Int) (x : Int) : 0 ≤ zsum (zind c) x 27 ∧ zsum (zind c) x 27 ≤ 27 := by
  have h : zsum (zind c) x 27 ≤ 1 * (27 : Nat) := zsum_le fun j _ => (zind_rng _ _).2
  exact ⟨zsum_nn fun j _ => (zind_rng _ _).1, by simpa using h⟩
noncomputable def q_bestReader (S : zSt) (dd : Int) : Int × Int := zqD S dd (0, (zbrn S (sDc S dd.toNat) (sRn S).toNat).1)
set_option maxHeartbeats 4000000 in
set_option maxRecDepth 100000 in
theorem k_X8_bestReader {l : Launch} {γ : zG} {M : zM} {U : Nat → Nat} {Y : zSys} {dd : Int} (hc : hFc γ M U Y) (hk : yOk Y) (hdd : zR dd) :
    zCon l γ yX8_bestReader cX8_bestReader 7 (some .int) [.ref (U 0), .int (zi dd)] M 7 145 1 6 (fI γ M U Y (q_bestReader (yS Y) dd)) (fX γ M U Y (q_bestReader (yS Y) dd) xIOB xIAE) := by
  have hc0 := hc
  obtain ⟨hI, pn, Z, iF, oF, hZ, hF, hX, hi1, ho1⟩ := hc
  have hob := id hF
  unfold hFo at hob
  have hD : hSt γ M (zUb U 0) (yS Y) := hZ.2.1 ▸ hX.st0
  have hst := hD.ob
  have hkn := hk.1.1
  have hkk := hk.1.nk
  have hRQ := hX.2.2.2.2.2.2.1
  have hok := fun M' => @fOk.rk γ M M' U Y pn Z iF oF hI hZ hF hX hi1 ho1
  refine zEnter [some (.ref (U 0)), some (.int (zi dd)), none, none, none, none, none] (by decide +kernel) rfl rfl (Nat.le_of_ble_eq_true rfl) ?_
  intro p e s m args below meth c Q C hin hQ
  have n0 : U 0 ∉ [U 11, U 12, U 13] := hRQ.nf hF
  have loop : ∀ (g8 : 0 ≤ dd ∧ dd < sDn (yS Y)) (t : Nat) (M1 : zM) (i b0 f0 : Int) (x6 : Option Value), sRn (yS Y) - i = t → 0 ≤ i ∧ i ≤ sRn (yS Y) → (b0, f0) = zbrn (yS Y) (sDc (yS Y) dd.toNat) i.toNat → 0 ≤ f0 ∧ f0 ≤ 1081 → zFr M M1 [U 11, U 12, U 13] → hRq γ M1 (U 11) (U 12) (U 13) → zAW p l e { frames := 7, cells := 1, slots := 6, locals := 145 } s m args below meth c γ 7 Q M1 1 6 16 [some (.ref (U 0)), some (.int (zi dd)), some (.ref (zUb U 0 (27 + 2 * dd.toNat))), some (.int (zi b0)), some (.int (zi f0)), some (.int (zi i)), x6] [] := by
    intro g8
    obtain ⟨sy, hX8, hXk8, hXv8⟩ := hD.dk (d := dd.toNat) (by omega) (by omega)
    have hdl := hXk8.1
    have obd8 := hX8.1
    have hnd := hRQ.nd hX8
    intro t
    induction t with
    | zero =>
      intro M1 i b0 f0 x6 ht hi he hf0 hf hQ1
      obtain rfl : i = sRn (yS Y) := by omega
      have hF1 := hF.fr hf n0
      have ob1 := id hF1
      unfold hFo at ob1
      have hD1 := hD.fr hf (zUc hI (k := 0) (L := [11, 12, 13]) (by decide) (by decide))
      have hst1 := hD1.ob
      refine z_iload C dX8_bestReader_16 rfl ?_
      refine z_aload_n C dX8_bestReader_18 rfl ?_
      refine z_get C dX8_bestReader_19 fl_X8_13 (by first | assumption | ((repeat (first | assumption | exact va_up_self _ _ _ | refine (va_up_ne _ _ (by assumption)).trans ?_)); done) | (simp [va_up, *] <;> rfl)) rfl ?_
      refine z_get C dX8_bestReader_22 fl_X8_143 (by first | assumption | ((repeat (first | assumption | exact va_up_self _ _ _ | refine (va_up_ne _ _ (by assumption)).trans ?_)); done) | (simp [va_up, *] <;> rfl)) rfl ?_
      refine z_icmp_geZ (tgt := 64) C dX8_bestReader_25 (by decide) (by omega) (by omega) (fun h25 => ?_) (fun h25 => ?_)
      · refine z_iload_n C dX8_bestReader_64 rfl ?_
        refine z_iret C hQ dX8_bestReader_65 rfl (by decide) (by decide) ?_
        exact fI.of (hok _ hf hQ1) ((zqD_t g8).trans (by rw [← he]))
      · exact absurd h25 (by omega)
    | succ t ih =>
      intro M1 i b0 f0 x6 ht hi he hf0 hf hQ1
      have obd1 := hf.at hnd.1 obd8
      have hF1 := hF.fr hf n0
      have ob1 := id hF1
      unfold hFo at ob1
      have hD1 := hD.fr hf (zUc hI (k := 0) (L := [11, 12, 13]) (by decide) (by decide))
      have hst1 := hD1.ob
      have hro := hD1.rdo (i := i.toNat) (by omega) (by omega)
      have hR := hD1.rd (i := i.toNat) (by omega) (by omega)
      have e1 : zbrn (yS Y) (sDc (yS Y) dd.toNat) (i + 1).toNat = if zgf (rC (sRd (yS Y) i.toNat)) (sDc (yS Y) dd.toNat) < (zbrn (yS Y) (sDc (yS Y) dd.toNat) i.toNat).2 then (i, zgf (rC (sRd (yS Y) i.toNat)) (sDc (yS Y) dd.toNat)) else zbrn (yS Y) (sDc (yS Y) dd.toNat) i.toNat := by
        rw [show (i + 1).toNat = i.toNat + 1 by omega, zbrn, show ((i.toNat : Nat) : Int) = i by omega]
      have qq := fun M2 h1 g1 y8 e q1 q2 q3 => ih M2 (i + 1) h1 g1 y8 (by omega) (by omega) e q1 q2 q3
      rw [e1, ← he] at qq
      refine z_iload C dX8_bestReader_16 rfl ?_
      refine z_aload_n C dX8_bestReader_18 rfl ?_
      refine z_get C dX8_bestReader_19 fl_X8_13 (by first | assumption | ((repeat (first | assumption | exact va_up_self _ _ _ | refine (va_up_ne _ _ (by assumption)).trans ?_)); done) | (simp [va_up, *] <;> rfl)) rfl ?_
      refine z_get C dX8_bestReader_22 fl_X8_143 (by first | assumption | ((repeat (first | assumption | exact va_up_self _ _ _ | refine (va_up_ne _ _ (by assumption)).trans ?_)); done) | (simp [va_up, *] <;> rfl)) rfl ?_
      refine z_icmp_geZ (tgt := 64) C dX8_bestReader_25 (by decide) (by omega) (by omega) (fun h25 => ?_) (fun h25 => ?_)
      · exact absurd h25 (by omega)
      · refine z_aload_n C dX8_bestReader_28 rfl ?_
        refine z_aload_n C dX8_bestReader_29 rfl ?_
        refine z_iload C dX8_bestReader_30 rfl ?_
        refine z_callV C dX8_bestReader_32 lk_X8_149 mw_X8_existingReader mi_X8_existingReader ms_X8_existingReader rfl (by first | assumption | ((repeat (first | assumption | exact va_up_self _ _ _ | refine (va_up_ne _ _ (by assumption)).trans ?_)); done) | (simp [va_up, *] <;> rfl)) (k_X8_existingReader_in hF1 hD1 hkk (i := i) (by omega)) rfl (by first | decide | exact Nat.le_of_ble_eq_true rfl) ⟨by decide, by decide, by decide, by decide⟩ (fun _ _ h => False.elim h) (fun v M' hp => ?_)
        obtain ⟨rfl, rfl⟩ := hp
        refine z_get C dX8_bestReader_35 fl_X8_188 (by first | assumption | ((repeat (first | assumption | exact va_up_self _ _ _ | refine (va_up_ne _ _ (by assumption)).trans ?_)); done) | (simp [va_up, *] <;> rfl)) rfl ?_
        refine z_aload_n C dX8_bestReader_38 rfl ?_
        refine z_callV C dX8_bestReader_39 lk_X8_257 mw_X8_guessesFor mi_X8_guessesFor ms_X8_guessesFor rfl (by first | assumption | ((repeat (first | assumption | exact va_up_self _ _ _ | refine (va_up_ne _ _ (by assumption)).trans ?_)); done) | (simp [va_up, *] <;> rfl)) (k_X8_guessesFor hF1 hQ1 hR.2.2.1 (hX8.fr hf hnd.1 hnd.2) hXk8) rfl (by first | decide | exact Nat.le_of_ble_eq_true rfl) ⟨by decide, by decide, by decide, by decide⟩ (fun _ _ h => False.elim h) (fun v M' hp => ?_)
        obtain ⟨r39, rfl, f39, hQ39, hr39, hz39⟩ := hp
        rw [zgf_eq hXv8] at hr39
        rw [← hr39] at qq
        have hz40 := zgf_le hr39 hz39 (hk.1.2.1 dd.toNat (by omega))
        refine z_istore C dX8_bestReader_42 (by decide) ?_
        refine z_iload C dX8_bestReader_44 rfl ?_
        refine z_iload C dX8_bestReader_46 rfl ?_
        refine z_icmp_geZ (tgt := 58) C dX8_bestReader_48 (by decide) (by omega) (by omega) (fun h48 => ?_) (fun h48 => ?_)
        · refine z_iincZ C dX8_bestReader_58 rfl (by decide) ?_
          refine z_goto (tgt := 16) C dX8_bestReader_61 (by decide) ?_
          exact qq _ b0 f0 _ (by rw [if_neg (by show ¬ r39 < f0; omega)]) hf0 (hf.tr f39 (fun _ h => h) (fun _ h => h)) hQ39
        · refine z_iload C dX8_bestReader_51 rfl ?_
          refine z_istore C dX8_bestReader_53 (by decide) ?_
          refine z_iload C dX8_bestReader_55 rfl ?_
          refine z_istore_n C dX8_bestReader_57 (by decide) ?_
          refine z_iincZ C dX8_bestReader_58 rfl (by decide) ?_
          refine z_goto (tgt := 16) C dX8_bestReader_61 (by decide) ?_
          exact qq _ i r39 _ (by rw [if_pos (by show r39 < f0; omega)]) (by omega) (hf.tr f39 (fun _ h => h) (fun _ h => h)) hQ39
  refine z_aload_n C dX8_bestReader_0 rfl ?_
  refine z_iload_n C dX8_bestReader_1 rfl ?_
  refine z_callV C dX8_bestReader_2 lk_X8_170 mw_X8_existingDocument mi_X8_existingDocument ms_X8_existingDocument rfl (by first | assumption | ((repeat (first | assumption | exact va_up_self _ _ _ | refine (va_up_ne _ _ (by assumption)).trans ?_)); done) | (simp [va_up, *] <;> rfl)) (k_X8_existingDocument hF hD hkk hdd) rfl (by first | decide | exact Nat.le_of_ble_eq_true rfl) ⟨by decide, by decide, by decide, by decide⟩ (fun X M' h => by obtain ⟨rfl, rfl, h⟩ := h; exact z_out C hQ (by decide) (by decide) (fX.o1 (.rf hc0) (zqD_f h))) (fun v M' hp => ?_)
  obtain ⟨rfl, g2, rfl⟩ := hp
  obtain ⟨sy, hX2, hXk2, hXv2⟩ := hD.dk (d := dd.toNat) (by omega) (by omega)
  have obd2 := hX2.1
  refine z_astore_n C dX8_bestReader_5 (by decide) ?_
  refine z_iconst C dX8_bestReader_6 ?_
  refine z_istore_n C dX8_bestReader_7 (by decide) ?_
  refine z_sipush C dX8_bestReader_8 (by decide) ?_
  refine z_istore C dX8_bestReader_11 (by decide) ?_
  refine z_iconst C dX8_bestReader_13 ?_
  refine z_istore C dX8_bestReader_14 (by decide) ?_
  exact loop g2 (sRn (yS Y)).toNat _ 0 (-1) 1081 none (by omega) (by omega) rfl (by omega) zFr.rf hRQ
noncomputable def q_hardestDocument (S : zSt) (rr : Int) : Int × Int := zqR S rr (0, (zhdn S (rC (sRd S rr.toNat)) (sDn S).toNat).1)
set_option maxHeartbeats 4000000 in
set_option maxRecDepth 100000 in
theorem k_X8_hardestDocument {l : Launch} {γ : zG} {M : zM} {U : Nat → Nat} {Y : zSys} {rr : Int} (hc : hFc γ M U Y) (hk : yOk Y) (hrr : zR rr) :
    zCon l γ yX8_hardestDocument cX8_hardestDocument 7 (some .int) [.ref (U 0), .int (zi rr)] M 7 145 1 6 (fI γ M U Y (q_hardestDocument (yS Y) rr)) (fX γ M U Y (q_hardestDocument (yS Y) rr) xIOB xIAE) := by
  have hc0 := hc
  obtain ⟨hI, pn, Z, iF, oF, hZ, hF, hX, hi1, ho1⟩ := hc
  have hob := id hF
  unfold hFo at hob
  have hD : hSt γ M (zUb U 0) (yS Y) := hZ.2.1 ▸ hX.st0
  have hst := hD.ob
  have hkn := hk.1.1
  have hkk := hk.1.nk
  have hRQ := hX.2.2.2.2.2.2.1
  have hok := fun M' => @fOk.rk γ M M' U Y pn Z iF oF hI hZ hF hX hi1 ho1
  refine zEnter [some (.ref (U 0)), some (.int (zi rr)), none, none, none, none, none] (by decide +kernel) rfl rfl (Nat.le_of_ble_eq_true rfl) ?_
  intro p e s m args below meth c Q C hin hQ
  have n0 : U 0 ∉ [U 11, U 12, U 13] := hRQ.nf hF
  have loop : ∀ (g1 : 0 ≤ rr ∧ rr < sRn (yS Y)) (t : Nat) (M1 : zM) (i b0 f0 : Int) (x6 : Option Value), sDn (yS Y) - i = t → 0 ≤ i ∧ i ≤ sDn (yS Y) → (b0, f0) = zhdn (yS Y) (rC (sRd (yS Y) rr.toNat)) i.toNat → 0 ≤ f0 ∧ f0 ≤ 1081 → zFr M M1 [U 11, U 12, U 13] → hRq γ M1 (U 11) (U 12) (U 13) → zAW p l e { frames := 7, cells := 1, slots := 6, locals := 145 } s m args below meth c γ 7 Q M1 1 6 14 [some (.ref (U 0)), some (.int (zi rr)), some (.ref (zUb U 0 (3 + 6 * rr.toNat))), some (.int (zi b0)), some (.int (zi f0)), some (.int (zi i)), x6] [] := by
    intro g1 t
    induction t with
    | zero =>
      intro M1 i b0 f0 x6 ht hi he hf0 hf hQ1
      obtain rfl : i = sDn (yS Y) := by omega
      have hF1 := hF.fr hf n0
      have ob1 := id hF1
      unfold hFo at ob1
      have hD1 := hD.fr hf (zUc hI (k := 0) (L := [11, 12, 13]) (by decide) (by decide))
      have hst1 := hD1.ob
      refine z_iload C dX8_hardestDocument_14 rfl ?_
      refine z_aload_n C dX8_hardestDocument_16 rfl ?_
      refine z_get C dX8_hardestDocument_17 fl_X8_13 (by first | assumption | ((repeat (first | assumption | exact va_up_self _ _ _ | refine (va_up_ne _ _ (by assumption)).trans ?_)); done) | (simp [va_up, *] <;> rfl)) rfl ?_
      refine z_get C dX8_hardestDocument_20 fl_X8_167 (by first | assumption | ((repeat (first | assumption | exact va_up_self _ _ _ | refine (va_up_ne _ _ (by assumption)).trans ?_)); done) | (simp [va_up, *] <;> rfl)) rfl ?_
      refine z_icmp_geZ (tgt := 62) C dX8_hardestDocument_23 (by decide) (by omega) (by omega) (fun h23 => ?_) (fun h23 => ?_)
      · refine z_iload_n C dX8_hardestDocument_62 rfl ?_
        refine z_iret C hQ dX8_hardestDocument_63 rfl (by decide) (by decide) ?_
        exact fI.of (hok _ hf hQ1) ((zqR_t g1).trans (by rw [← he]))
      · exact absurd h23 (by omega)
    | succ t ih =>
      intro M1 i b0 f0 x6 ht hi he hf0 hf hQ1
      have hF1 := hF.fr hf n0
      have ob1 := id hF1
      unfold hFo at ob1
      have hD1 := hD.fr hf (zUc hI (k := 0) (L := [11, 12, 13]) (by decide) (by decide))
      have hst1 := hD1.ob
      have hro := hD1.rdo (i := rr.toNat) (by omega) (by omega)
      have hR := hD1.rd (i := rr.toNat) (by omega) (by omega)
      obtain ⟨sy, hX8, hXk8, hXv8⟩ := hD1.dk (d := i.toNat) (by omega) (by omega)
      have e1 : zhdn (yS Y) (rC (sRd (yS Y) rr.toNat)) (i + 1).toNat = if (zhdn (yS Y) (rC (sRd (yS Y) rr.toNat)) i.toNat).2 < zgf (rC (sRd (yS Y) rr.toNat)) (sDc (yS Y) i.toNat) then (i, zgf (rC (sRd (yS Y) rr.toNat)) (sDc (yS Y) i.toNat)) else zhdn (yS Y) (rC (sRd (yS Y) rr.toNat)) i.toNat := by
        rw [show (i + 1).toNat = i.toNat + 1 by omega, zhdn, show ((i.toNat : Nat) : Int) = i by omega]
      have qq := fun M2 h1 g1 y8 e q1 q2 q3 => ih M2 (i + 1) h1 g1 y8 (by omega) (by omega) e q1 q2 q3
      rw [e1, ← he] at qq
      refine z_iload C dX8_hardestDocument_14 rfl ?_
      refine z_aload_n C dX8_hardestDocument_16 rfl ?_
      refine z_get C dX8_hardestDocument_17 fl_X8_13 (by first | assumption | ((repeat (first | assumption | exact va_up_self _ _ _ | refine (va_up_ne _ _ (by assumption)).trans ?_)); done) | (simp [va_up, *] <;> rfl)) rfl ?_
      refine z_get C dX8_hardestDocument_20 fl_X8_167 (by first | assumption | ((repeat (first | assumption | exact va_up_self _ _ _ | refine (va_up_ne _ _ (by assumption)).trans ?_)); done) | (simp [va_up, *] <;> rfl)) rfl ?_
      refine z_icmp_geZ (tgt := 62) C dX8_hardestDocument_23 (by decide) (by omega) (by omega) (fun h23 => ?_) (fun h23 => ?_)
      · exact absurd h23 (by omega)
      · refine z_aload_n C dX8_hardestDocument_26 rfl ?_
        refine z_aload_n C dX8_hardestDocument_27 rfl ?_
        refine z_get C dX8_hardestDocument_28 fl_X8_188 (by first | assumption | ((repeat (first | assumption | exact va_up_self _ _ _ | refine (va_up_ne _ _ (by assumption)).trans ?_)); done) | (simp [va_up, *] <;> rfl)) rfl ?_
        refine z_aload_n C dX8_hardestDocument_31 rfl ?_
        refine z_iload C dX8_hardestDocument_32 rfl ?_
        refine z_callV C dX8_hardestDocument_34 lk_X8_170 mw_X8_existingDocument mi_X8_existingDocument ms_X8_existingDocument rfl (by first | assumption | ((repeat (first | assumption | exact va_up_self _ _ _ | refine (va_up_ne _ _ (by assumption)).trans ?_)); done) | (simp [va_up, *] <;> rfl)) (k_X8_existingDocument_in hF1 hD1 hkk (i := i) (by omega)) rfl (by first | decide | exact Nat.le_of_ble_eq_true rfl) ⟨by decide, by decide, by decide, by decide⟩ (fun _ _ h => False.elim h) (fun v M' hp => ?_)
        obtain ⟨rfl, rfl⟩ := hp
        refine z_callV C dX8_hardestDocument_37 lk_X8_257 mw_X8_guessesFor mi_X8_guessesFor ms_X8_guessesFor rfl (by first | assumption | ((repeat (first | assumption | exact va_up_self _ _ _ | refine (va_up_ne _ _ (by assumption)).trans ?_)); done) | (simp [va_up, *] <;> rfl)) (k_X8_guessesFor hF1 hQ1 hR.2.2.1 hX8 hXk8) rfl (by first | decide | exact Nat.le_of_ble_eq_true rfl) ⟨by decide, by decide, by decide, by decide⟩ (fun _ _ h => False.elim h) (fun v M' hp => ?_)
        obtain ⟨r37, rfl, f37, hQ37, hr37, hz37⟩ := hp
        rw [zgf_eq hXv8] at hr37
        rw [← hr37] at qq
        have hz40 := zgf_le hr37 hz37 (hk.1.2.1 i.toNat (by omega))
        refine z_istore C dX8_hardestDocument_40 (by decide) ?_
        refine z_iload C dX8_hardestDocument_42 rfl ?_
        refine z_iload C dX8_hardestDocument_44 rfl ?_
        refine z_icmp_leZ (tgt := 56) C dX8_hardestDocument_46 (by decide) (by omega) (by omega) (fun h46 => ?_) (fun h46 => ?_)
        · refine z_iincZ C dX8_hardestDocument_56 rfl (by decide) ?_
          refine z_goto (tgt := 14) C dX8_hardestDocument_59 (by decide) ?_
          exact qq _ b0 f0 _ (by rw [if_neg (by show ¬ f0 < r37; omega)]) hf0 (hf.tr f37 (fun _ h => h) (fun _ h => h)) hQ37
        · refine z_iload C dX8_hardestDocument_49 rfl ?_
          refine z_istore C dX8_hardestDocument_51 (by decide) ?_
          refine z_iload C dX8_hardestDocument_53 rfl ?_
          refine z_istore_n C dX8_hardestDocument_55 (by decide) ?_
          refine z_iincZ C dX8_hardestDocument_56 rfl (by decide) ?_
          refine z_goto (tgt := 14) C dX8_hardestDocument_59 (by decide) ?_
          exact qq _ i r37 _ (by rw [if_pos (by show f0 < r37; omega)]) (by omega) (hf.tr f37 (fun _ h => h) (fun _ h => h)) hQ37
  refine z_aload_n C dX8_hardestDocument_0 rfl ?_
  refine z_iload_n C dX8_hardestDocument_1 rfl ?_
  refine z_callV C dX8_hardestDocument_2 lk_X8_149 mw_X8_existingReader mi_X8_existingReader ms_X8_existingReader rfl (by first | assumption | ((repeat (first | assumption | exact va_up_self _ _ _ | refine (va_up_ne _ _ (by assumption)).trans ?_)); done) | (simp [va_up, *] <;> rfl)) (k_X8_existingReader hF hD hkk hrr) rfl (by first | decide | exact Nat.le_of_ble_eq_true rfl) ⟨by decide, by decide, by decide, by decide⟩ (fun X M' h => by obtain ⟨rfl, rfl, h⟩ := h; exact z_out C hQ (by decide) (by decide) (fX.o1 (.rf hc0) (zqR_f h))) (fun v M' hp => ?_)
  obtain ⟨rfl, g2, rfl⟩ := hp
  have hro := hD.rdo (i := rr.toNat) (by omega) (by omega)
  have hR := hD.rd (i := rr.toNat) (by omega) (by omega)
  obtain ⟨cn, hco, hcz, hcr⟩ := hD.rdc (i := rr.toNat) (by omega) (by omega)
  have hrk := (hk.1.2.2 rr.toNat (by omega)).1
  refine z_astore_n C dX8_hardestDocument_5 (by decide) ?_
  refine z_iconst C dX8_hardestDocument_6 ?_
  refine z_istore_n C dX8_hardestDocument_7 (by decide) ?_
  refine z_iconst C dX8_hardestDocument_8 ?_
  refine z_istore C dX8_hardestDocument_9 (by decide) ?_
  refine z_iconst C dX8_hardestDocument_11 ?_
  refine z_istore C dX8_hardestDocument_12 (by decide) ?_
  exact loop g2 (sDn (yS Y)).toNat _ 0 (-1) 0 none (by omega) (by omega) rfl (by omega) zFr.rf hRQ
noncomputable def q_agreements (S : zSt) (rr oo : Int) : Int × Int := zqR S rr (zqR S oo (zq2 (rr ≠ oo) (0, zagn (rC (sRd S rr.toNat)) (rC (sRd S oo.toNat)) 729)))
set_option maxHeartbeats 4000000 in
set_option maxRecDepth 100000 in
theorem k_X8_agreements {l : Launch} {γ : zG} {M : zM} {U : Nat → Nat} {Y : zSys} {rr oo : Int} (hc : hFc γ M U Y) (hk : yOk Y) (hrr : zR rr) (hoo : zR oo) :
    zCon l γ yX8_agreements cX8_agreements 8 (some .int) [.ref (U 0), .int (zi rr), .int (zi oo)] M 7 123 3 18 (fI γ M U Y (q_agreements (yS Y) rr oo)) (fX γ M U Y (q_agreements (yS Y) rr oo) xIOB xIAE) := by
  have hc0 := hc
  obtain ⟨hI, pn, Z, iF, oF, hZ, hF, hX, hi1, ho1⟩ := hc
  have hob := id hF
  unfold hFo at hob
  have hD : hSt γ M (zUb U 0) (yS Y) := hZ.2.1 ▸ hX.st0
  have hst := hD.ob
  have hkn := hk.1.1
  have hkk := hk.1.nk
  have hRQ := hX.2.2.2.2.2.2.1
  have hok := fun M' => @fOk.rk γ M M' U Y pn Z iF oF hI hZ hF hX hi1 ho1
  refine zEnter [some (.ref (U 0)), some (.int (zi rr)), some (.int (zi oo)), none, none, none, none, none] (by decide +kernel) rfl rfl (Nat.le_of_ble_eq_true rfl) ?_
  intro p e s m args below meth c Q C hin hQ
  have n0 : U 0 ∉ [U 11, U 12, U 13] := hRQ.nf hF
  have loop : ∀ (g1 : 0 ≤ rr ∧ rr < sRn (yS Y)) (g2 : 0 ≤ oo ∧ oo < sRn (yS Y)) (h12 : rr ≠ oo) (t : Nat) (M1 : zM) (i : Int) (x7 : Option Value), 729 - i = t → 0 ≤ i ∧ i ≤ 729 → zFr M M1 [U 11, U 12, U 13] → hRq γ M1 (U 11) (U 12) (U 13) → zAW p l e { frames := 7, cells := 3, slots := 18, locals := 123 } s m args below meth c γ 8 Q M1 2 12 41 [some (.ref (U 0)), some (.int (zi rr)), some (.int (zi oo)), some (.ref (zUb U 0 (3 + 6 * rr.toNat + 2))), some (.ref (zUb U 0 (3 + 6 * oo.toNat + 2))), some (.int (zi (zagn (rC (sRd (yS Y) rr.toNat)) (rC (sRd (yS Y) oo.toNat)) i.toNat))), some (.int (zi i)), x7] [] := by
    intro g1 g2 h12 t
    induction t with
    | zero =>
      intro M1 i x7 ht hi hf hQ1
      obtain rfl : i = 729 := by omega
      refine z_iload C dX8_agreements_41 rfl ?_
      refine z_sipush C dX8_agreements_43 (by decide) ?_
      refine z_icmp_geZ (tgt := 100) C dX8_agreements_46 (by decide) (by omega) (by omega) (fun h46 => ?_) (fun h46 => ?_)
      · refine z_iload C dX8_agreements_100 rfl ?_
        refine z_iret C hQ dX8_agreements_102 rfl (by decide) (by decide) ?_
        exact fI.of (hok _ hf hQ1) ((zqR_t g1).trans ((zqR_t g2).trans (zq2_t h12)))
      · exact absurd h46 (by omega)
    | succ t ih =>
      intro M1 i x7 ht hi hf hQ1
      have hF1 := hF.fr hf n0
      have ob1 := id hF1
      unfold hFo at ob1
      have hD1 := hD.fr hf (zUc hI (k := 0) (L := [11, 12, 13]) (by decide) (by decide))
      have hst1 := hD1.ob
      have hR1 := hD1.rd (i := rr.toNat) (by omega) (by omega)
      have hR2 := hD1.rd (i := oo.toNat) (by omega) (by omega)
      obtain ⟨cn1, hco1, -, -⟩ := hD1.rdc (i := rr.toNat) (by omega) (by omega)
      obtain ⟨cn2, hco2, -, -⟩ := hD1.rdc (i := oo.toNat) (by omega) (by omega)
      have e1 : zagn (rC (sRd (yS Y) rr.toNat)) (rC (sRd (yS Y) oo.toNat)) (i + 1).toNat = zagn (rC (sRd (yS Y) rr.toNat)) (rC (sRd (yS Y) oo.toNat)) i.toNat + (if (0 < zsum (zind (rC (sRd (yS Y) rr.toNat))) (756 + i * 27) 27 ∨ 0 < zsum (zind (rC (sRd (yS Y) oo.toNat))) (756 + i * 27) 27) ∧ zgs (rC (sRd (yS Y) rr.toNat)) (i / 27) (i % 27) 1 = zgs (rC (sRd (yS Y) oo.toNat)) (i / 27) (i % 27) 1 then 1 else 0) := by
        rw [show (i + 1).toNat = i.toNat + 1 by omega, zagn, show ((i.toNat : Nat) : Int) = i by omega]
      have qq := fun M2 y8 q2 q3 => ih M2 (i + 1) y8 (by omega) (by omega) q2 q3
      rw [e1] at qq
      have b1 := zind_27 (rC (sRd (yS Y) rr.toNat)) (756 + i * 27)
      have b2 := zind_27 (rC (sRd (yS Y) oo.toNat)) (756 + i * 27)
      have tl : (0 < zsum (zind (rC (sRd (yS Y) rr.toNat))) (756 + i * 27) 27 ∨ 0 < zsum (zind (rC (sRd (yS Y) oo.toNat))) (756 + i * 27) 27) → zAW p l e { frames := 7, cells := 3, slots := 18, locals := 123 } s m args below meth c γ 8 Q M1 2 12 79 [some (.ref (U 0)), some (.int (zi rr)), some (.int (zi oo)), some (.ref (zUb U 0 (3 + 6 * rr.toNat + 2))), some (.ref (zUb U 0 (3 + 6 * oo.toNat + 2))), some (.int (zi (zagn (rC (sRd (yS Y) rr.toNat)) (rC (sRd (yS Y) oo.toNat)) i.toNat))), some (.int (zi i)), some (.int (zi (756 + i * 27)))] [] := by
        intro hor
        refine z_aload_n C dX8_agreements_79 rfl ?_
        refine z_aload_n C dX8_agreements_80 rfl ?_
        refine z_aload C dX8_agreements_81 rfl ?_
        refine z_iload C dX8_agreements_83 rfl ?_
        refine z_callV C dX8_agreements_85 lk_X8_285 mw_X8_agreeAfter mi_X8_agreeAfter ms_X8_agreeAfter rfl (by first | assumption | ((repeat (first | assumption | exact va_up_self _ _ _ | refine (va_up_ne _ _ (by assumption)).trans ?_)); done) | (simp [va_up, *] <;> rfl)) (k_X8_agreeAfter hF1 hQ1 hR1.2.2.1 hR2.2.2.1 (i := i) (by omega)) rfl (by first | decide | exact Nat.le_of_ble_eq_true rfl) ⟨by decide, by decide, by decide, by decide⟩ (fun _ _ h => False.elim h) (fun v M' hp => ?_)
        obtain ⟨r85, rfl, f85, hQ85, hr85⟩ := hp
        have q85 := hr85.rng
        refine z_if_eqZ (tgt := 94) C dX8_agreements_88 (by decide) (by omega) (fun h88 => ?_) (fun h88 => ?_)
        · refine z_iincZ C dX8_agreements_94 rfl (by decide) ?_
          refine z_goto (tgt := 41) C dX8_agreements_97 (by decide) ?_
          rw [if_neg (fun w => hr85.f h88 w.2), Int.add_zero] at qq
          exact qq _ _ (hf.tr f85 (fun _ h => h) (fun _ h => h)) hQ85
        · refine z_iincZ C dX8_agreements_91 rfl (by decide) ?_
          refine z_iincZ C dX8_agreements_94 rfl (by decide) ?_
          refine z_goto (tgt := 41) C dX8_agreements_97 (by decide) ?_
          rw [if_pos ⟨hor, hr85.t h88⟩] at qq
          exact qq _ _ (hf.tr f85 (fun _ h => h) (fun _ h => h)) hQ85
      refine z_iload C dX8_agreements_41 rfl ?_
      refine z_sipush C dX8_agreements_43 (by decide) ?_
      refine z_icmp_geZ (tgt := 100) C dX8_agreements_46 (by decide) (by omega) (by omega) (fun h46 => ?_) (fun h46 => ?_)
      · exact absurd h46 (by omega)
      · refine z_sipush C dX8_agreements_49 (by decide) ?_
        refine z_iload C dX8_agreements_52 rfl ?_
        refine z_bipush C dX8_agreements_54 (by decide) ?_
        refine z_imulZ C dX8_agreements_56 ?_
        refine z_iaddZ C dX8_agreements_57 ?_
        refine z_istore C dX8_agreements_58 (by decide) ?_
        refine z_aload_n C dX8_agreements_60 rfl ?_
        refine z_iload C dX8_agreements_61 rfl ?_
        refine z_callV C dX8_agreements_63 lk_X8_209 mw_X2_symbolsIn mi_X2_symbolsIn ms_X2_symbolsIn rfl hco1 (k_X2_symbolsIn hR1.2.2.1 (x := 756 + i * 27) (by omega)) rfl (by first | decide | exact Nat.le_of_ble_eq_true rfl) ⟨by decide, by decide, by decide, by decide⟩ (fun _ _ h => False.elim h) (fun v M' hp => ?_)
        obtain ⟨r63, rfl, rfl, hr63⟩ := hp
        rw [← hr63] at b1 qq tl
        refine z_if_gtZ (tgt := 79) C dX8_agreements_66 (by decide) (by omega) (fun h66 => ?_) (fun h66 => ?_)
        · exact tl (.inl (by omega))
        · refine z_aload C dX8_agreements_69 rfl ?_
          refine z_iload C dX8_agreements_71 rfl ?_
          refine z_callV C dX8_agreements_73 lk_X8_209 mw_X2_symbolsIn mi_X2_symbolsIn ms_X2_symbolsIn rfl hco2 (k_X2_symbolsIn hR2.2.2.1 (x := 756 + i * 27) (by omega)) rfl (by first | decide | exact Nat.le_of_ble_eq_true rfl) ⟨by decide, by decide, by decide, by decide⟩ (fun _ _ h => False.elim h) (fun v M' hp => ?_)
          obtain ⟨r73, rfl, rfl, hr73⟩ := hp
          rw [← hr73] at b2 qq tl
          refine z_if_leZ (tgt := 94) C dX8_agreements_76 (by decide) (by omega) (fun h76 => ?_) (fun h76 => ?_)
          · refine z_iincZ C dX8_agreements_94 rfl (by decide) ?_
            refine z_goto (tgt := 41) C dX8_agreements_97 (by decide) ?_
            rw [if_neg (fun w => by rcases w.1 with w | w <;> omega), Int.add_zero] at qq
            exact qq _ _ hf hQ1
          · exact tl (.inr (by omega))
  refine z_aload_n C dX8_agreements_0 rfl ?_
  refine z_iload_n C dX8_agreements_1 rfl ?_
  refine z_callV C dX8_agreements_2 lk_X8_149 mw_X8_existingReader mi_X8_existingReader ms_X8_existingReader rfl (by first | assumption | ((repeat (first | assumption | exact va_up_self _ _ _ | refine (va_up_ne _ _ (by assumption)).trans ?_)); done) | (simp [va_up, *] <;> rfl)) (k_X8_existingReader hF hD hkk hrr) rfl (by first | decide | exact Nat.le_of_ble_eq_true rfl) ⟨by decide, by decide, by decide, by decide⟩ (fun X M' h => by obtain ⟨rfl, rfl, h⟩ := h; exact z_out C hQ (by decide) (by decide) (fX.o1 (.rf hc0) (zqR_f h))) (fun v M' hp => ?_)
  obtain ⟨rfl, g2, rfl⟩ := hp
  have hro := hD.rdo (i := rr.toNat) (by omega) (by omega)
  have hR := hD.rd (i := rr.toNat) (by omega) (by omega)
  obtain ⟨cn, hco, hcz, hcr⟩ := hD.rdc (i := rr.toNat) (by omega) (by omega)
  have hrk := (hk.1.2.2 rr.toNat (by omega)).1
  refine z_get C dX8_agreements_5 fl_X8_188 (by first | assumption | ((repeat (first | assumption | exact va_up_self _ _ _ | refine (va_up_ne _ _ (by assumption)).trans ?_)); done) | (simp [va_up, *] <;> rfl)) rfl ?_
  refine z_astore_n C dX8_agreements_8 (by decide) ?_
  refine z_aload_n C dX8_agreements_9 rfl ?_
  refine z_iload_n C dX8_agreements_10 rfl ?_
  refine z_callV C dX8_agreements_11 lk_X8_149 mw_X8_existingReader mi_X8_existingReader ms_X8_existingReader rfl (by first | assumption | ((repeat (first | assumption | exact va_up_self _ _ _ | refine (va_up_ne _ _ (by assumption)).trans ?_)); done) | (simp [va_up, *] <;> rfl)) (k_X8_existingReader hF hD hkk hoo) rfl (by first | decide | exact Nat.le_of_ble_eq_true rfl) ⟨by decide, by decide, by decide, by decide⟩ (fun X M' h => by obtain ⟨rfl, rfl, h⟩ := h; exact z_out C hQ (by decide) (by decide) (fX.o1 (.rf hc0) ((zqR_t g2).trans (zqR_f h)))) (fun v M' hp => ?_)
  obtain ⟨rfl, g11, rfl⟩ := hp
  have hro2 := hD.rdo (i := oo.toNat) (by omega) (by omega)
  have hR2 := hD.rd (i := oo.toNat) (by omega) (by omega)
  obtain ⟨cn2, hco2, hcz2, hcr2⟩ := hD.rdc (i := oo.toNat) (by omega) (by omega)
  have hrk2 := (hk.1.2.2 oo.toNat (by omega)).1
  refine z_get C dX8_agreements_14 fl_X8_188 (by first | assumption | ((repeat (first | assumption | exact va_up_self _ _ _ | refine (va_up_ne _ _ (by assumption)).trans ?_)); done) | (simp [va_up, *] <;> rfl)) rfl ?_
  refine z_astore C dX8_agreements_17 (by decide) ?_
  refine z_iload_n C dX8_agreements_19 rfl ?_
  refine z_iload_n C dX8_agreements_20 rfl ?_
  refine z_icmp_neZ (tgt := 35) C dX8_agreements_21 (by decide) (by omega) (by omega) (fun h21 => ?_) (fun h21 => ?_)
  · refine z_iconst C dX8_agreements_35 ?_
    refine z_istore C dX8_agreements_36 (by decide) ?_
    refine z_iconst C dX8_agreements_38 ?_
    refine z_istore C dX8_agreements_39 (by decide) ?_
    exact loop g2 g11 (by omega) 729 _ 0 none (by omega) (by omega) zFr.rf hRQ
  · refine z_throwW C hQ xt_IAE (si := 19) rfl dX8_agreements_24 dX8_agreements_27 dX8_agreements_28 dX8_agreements_31 dX8_agreements_34 ⟨by decide, by decide, by decide, by decide⟩ (by decide) (by decide) ?_
    exact fX.o2 (.rf hc0) ((zqR_t g2).trans ((zqR_t g11).trans (zq2_f fun w => w (by omega))))
noncomputable def q_adaptiveGuesses (S : zSt) (rr dd : Int) : Int × Int := zqR S rr (zqD S dd (0, zla (rC (sRd S rr.toNat)) (sDc S dd.toNat)))
set_option maxHeartbeats 4000000 in
set_option maxRecDepth 100000 in
theorem k_X8_adaptiveGuesses {l : Launch} {γ : zG} {M : zM} {U : Nat → Nat} {Y : zSys} {rr dd : Int} (hc : hFc γ M U Y) (hk : yOk Y) (hrr : zR rr) (hdd : zR dd) :
    zCon l γ yX8_adaptiveGuesses cX8_adaptiveGuesses 5 (some .int) [.ref (U 0), .int (zi rr), .int (zi dd)] M 7 145 2 12 (fI γ M U Y (q_adaptiveGuesses (yS Y) rr dd)) (fX γ M U Y (q_adaptiveGuesses (yS Y) rr dd) xIOB xIAE) := by
  have hc0 := hc
  obtain ⟨hI, pn, Z, iF, oF, hZ, hF, hX, hi1, ho1⟩ := hc
  have hob := id hF
  unfold hFo at hob
  have hD : hSt γ M (zUb U 0) (yS Y) := hZ.2.1 ▸ hX.st0
  have hst := hD.ob
  have hkn := hk.1.1
  have hkk := hk.1.nk
  have hRQ := hX.2.2.2.2.2.2.1
  have hok := fun M' => @fOk.rk γ M M' U Y pn Z iF oF hI hZ hF hX hi1 ho1
  obtain ⟨ct, htr⟩ := hX.2.2.2.2.2.1
  have hto := htr.ob
  obtain ⟨tfs, hto⟩ := hto
  have ne89 : ∀ (a b : Nat), a < 532 → b < 532 → a ≠ b → U a ≠ U b := fun a b h1 h2 h3 q => h3 (hI a b h1 h2 q)
  have hort := fun M' c => @fOk.rt γ M M' U Y pn Z iF oF c hI hZ hF hX hi1 ho1
  have d8 : ∀ a, a < 532 → a ∉ [8, 9, 10] → U a ∉ [U 8, U 9, U 10] := fun a h1 h2 => zUn hI (L := [8, 9, 10]) h1 (by decide) h2
  have s8 : ∀ b, b ∈ [U 8, U 9, U 10] → b ∈ [U 11, U 12, U 13, U 8, U 9, U 10] := fun b hb => by simp at hb ⊢; rcases hb with h | h | h <;> simp [h]
  have s11 : ∀ b, b ∈ [U 11, U 12, U 13] → b ∈ [U 11, U 12, U 13, U 8, U 9, U 10] := fun b hb => by simp at hb ⊢; rcases hb with h | h | h <;> simp [h]
  refine zEnter [some (.ref (U 0)), some (.int (zi rr)), some (.int (zi dd)), none, none] (by decide +kernel) rfl rfl (Nat.le_of_ble_eq_true rfl) ?_
  intro p e s m args below meth c Q C hin hQ
  refine z_aload_n C dX8_adaptiveGuesses_0 rfl ?_
  refine z_iload_n C dX8_adaptiveGuesses_1 rfl ?_
  refine z_callV C dX8_adaptiveGuesses_2 lk_X8_149 mw_X8_existingReader mi_X8_existingReader ms_X8_existingReader rfl (by first | assumption | ((repeat (first | assumption | exact va_up_self _ _ _ | refine (va_up_ne _ _ (by assumption)).trans ?_)); done) | (simp [va_up, *] <;> rfl)) (k_X8_existingReader hF hD hkk hrr) rfl (by first | decide | exact Nat.le_of_ble_eq_true rfl) ⟨by decide, by decide, by decide, by decide⟩ (fun X M' h => by obtain ⟨rfl, rfl, h⟩ := h; exact z_out C hQ (by decide) (by decide) (fX.o1 (.rf hc0) (zqR_f h))) (fun v M' hp => ?_)
  obtain ⟨rfl, g2, rfl⟩ := hp
  have hro := hD.rdo (i := rr.toNat) (by omega) (by omega)
  have hR := hD.rd (i := rr.toNat) (by omega) (by omega)
  obtain ⟨cn, hco, hcz, hcr⟩ := hD.rdc (i := rr.toNat) (by omega) (by omega)
  have hrk := (hk.1.2.2 rr.toNat (by omega)).1
  refine z_astore_n C dX8_adaptiveGuesses_5 (by decide) ?_
  refine z_aload_n C dX8_adaptiveGuesses_6 rfl ?_
  refine z_iload_n C dX8_adaptiveGuesses_7 rfl ?_
  refine z_callV C dX8_adaptiveGuesses_8 lk_X8_170 mw_X8_existingDocument mi_X8_existingDocument ms_X8_existingDocument rfl (by first | assumption | ((repeat (first | assumption | exact va_up_self _ _ _ | refine (va_up_ne _ _ (by assumption)).trans ?_)); done) | (simp [va_up, *] <;> rfl)) (k_X8_existingDocument hF hD hkk hdd) rfl (by first | decide | exact Nat.le_of_ble_eq_true rfl) ⟨by decide, by decide, by decide, by decide⟩ (fun X M' h => by obtain ⟨rfl, rfl, h⟩ := h; exact z_out C hQ (by decide) (by decide) (fX.o1 (.rf hc0) ((zqR_t g2).trans (zqD_f h)))) (fun v M' hp => ?_)
  obtain ⟨rfl, g8, rfl⟩ := hp
  obtain ⟨sy, hX8, hXk8, hXv8⟩ := hD.dk (d := dd.toNat) (by omega) (by omega)
  have obd8 := hX8.1
  refine z_astore C dX8_adaptiveGuesses_11 (by decide) ?_
  refine z_aload_n C dX8_adaptiveGuesses_13 rfl ?_
  refine z_get C dX8_adaptiveGuesses_14 fl_X8_60 (by first | assumption | ((repeat (first | assumption | exact va_up_self _ _ _ | refine (va_up_ne _ _ (by assumption)).trans ?_)); done) | (simp [va_up, *] <;> rfl)) rfl ?_
  refine z_aload_n C dX8_adaptiveGuesses_17 rfl ?_
  refine z_get C dX8_adaptiveGuesses_18 fl_X8_188 (by first | assumption | ((repeat (first | assumption | exact va_up_self _ _ _ | refine (va_up_ne _ _ (by assumption)).trans ?_)); done) | (simp [va_up, *] <;> rfl)) rfl ?_
  refine z_callV C dX8_adaptiveGuesses_21 lk_X8_261 mw_X2_copyFrom mi_X2_copyFrom ms_X2_copyFrom rfl hto (k_X2_copyFrom htr hR.2.2.1 ⟨ne89 9 (16 + 43 * 0 + (3 + 6 * rr.toNat + 3)) (by omega) (by omega) (by omega), ne89 9 (16 + 43 * 0 + (3 + 6 * rr.toNat + 4)) (by omega) (by omega) (by omega), ne89 10 (16 + 43 * 0 + (3 + 6 * rr.toNat + 4)) (by omega) (by omega) (by omega)⟩) rfl (by first | decide | exact Nat.le_of_ble_eq_true rfl) ⟨by decide, by decide, by decide, by decide⟩ (fun _ _ h => False.elim h) (fun v M' hp => ?_)
  obtain ⟨rfl, f21, hC21⟩ := hp
  obtain ⟨fs21, hto21⟩ := hC21.ob
  have hF21 := hF.fr f21 (d8 0 (by omega) (by decide))
  have ob21 := id hF21
  unfold hFo at ob21
  have hQ21 := hRQ.fr f21 (d8 11 (by omega) (by decide)) (d8 12 (by omega) (by decide)) (d8 13 (by omega) (by decide))
  have hY8 := hX8.fr f21 (d8 (16 + 43 * 0 + (27 + 2 * dd.toNat)) (by omega) (by simp; omega)) (d8 (16 + 43 * 0 + (28 + 2 * dd.toNat)) (by omega) (by simp; omega))
  refine z_aload_n C dX8_adaptiveGuesses_24 rfl ?_
  refine z_aload_n C dX8_adaptiveGuesses_25 rfl ?_
  refine z_get C dX8_adaptiveGuesses_26 fl_X8_60 (by first | assumption | ((repeat (first | assumption | exact va_up_self _ _ _ | refine (va_up_ne _ _ (by assumption)).trans ?_)); done) | (simp [va_up, *] <;> rfl)) rfl ?_
  refine z_aload C dX8_adaptiveGuesses_29 rfl ?_
  refine z_callV C dX8_adaptiveGuesses_31 lk_X8_264 mw_X8_guessesWhileLearning mi_X8_guessesWhileLearning ms_X8_guessesWhileLearning rfl (by first | assumption | ((repeat (first | assumption | exact va_up_self _ _ _ | refine (va_up_ne _ _ (by assumption)).trans ?_)); done) | (simp [va_up, *] <;> rfl)) (k_X8_guessesWhileLearning hF21 hQ21 hC21 hY8 hXk8 ⟨ne89 (16 + 43 * 0 + (28 + 2 * dd.toNat)) 9 (by omega) (by omega) (by omega), ne89 (16 + 43 * 0 + (28 + 2 * dd.toNat)) 10 (by omega) (by omega) (by omega)⟩ (d8 0 (by omega) (by decide)) (hk.1.rm (i := rr.toNat) (by omega)) (hKy_of (m := (sDn (yS Y)).toNat) (i := dd.toNat) (by omega) (hk.1.2.1 dd.toNat (by omega)) hXv8)) rfl (by first | decide | exact Nat.le_of_ble_eq_true rfl) ⟨by decide, by decide, by decide, by decide⟩ (fun _ _ h => False.elim h) (fun v M' hp => ?_)
  obtain ⟨r31, rfl, f31, hQ31, hr31, hC31⟩ := hp
  refine z_iret C hQ dX8_adaptiveGuesses_34 rfl (by decide) (by decide) ?_
  rw [hr31, zlan_cg hXv8]
  exact fI.of (hort _ _ (f21.tr f31 s8 (fun _ h => h)) hQ31 hC31) ((zqR_t g2).trans (zqD_t g8))
noncomputable def q_guessesAfterTraining (S : zSt) (rr dd ee : Int) : Int × Int := zqR S rr (zqD S dd (zqD S ee (0, zgf (zdoc (rC (sRd S rr.toNat)) (sDc S dd.toNat)) (sDc S ee.toNat))))
set_option maxHeartbeats 4000000 in
set_option maxRecDepth 100000 in
theorem k_X8_guessesAfterTraining {l : Launch} {γ : zG} {M : zM} {U : Nat → Nat} {Y : zSys} {rr dd ee : Int} (hc : hFc γ M U Y) (hk : yOk Y) (hrr : zR rr) (hdd : zR dd) (hee : zR ee) :
    zCon l γ yX8_guessesAfterTraining cX8_guessesAfterTraining 7 (some .int) [.ref (U 0), .int (zi rr), .int (zi dd), .int (zi ee)] M 7 145 3 18 (fI γ M U Y (q_guessesAfterTraining (yS Y) rr dd ee)) (fX γ M U Y (q_guessesAfterTraining (yS Y) rr dd ee) xIOB xIAE) := by
  have hc0 := hc
  obtain ⟨hI, pn, Z, iF, oF, hZ, hF, hX, hi1, ho1⟩ := hc
  have hob := id hF
  unfold hFo at hob
  have hD : hSt γ M (zUb U 0) (yS Y) := hZ.2.1 ▸ hX.st0
  have hst := hD.ob
  have hkn := hk.1.1
  have hkk := hk.1.nk
  have hRQ := hX.2.2.2.2.2.2.1
  have hok := fun M' => @fOk.rk γ M M' U Y pn Z iF oF hI hZ hF hX hi1 ho1
  obtain ⟨ct, htr⟩ := hX.2.2.2.2.2.1
  have hto := htr.ob
  obtain ⟨tfs, hto⟩ := hto
  have ne89 : ∀ (a b : Nat), a < 532 → b < 532 → a ≠ b → U a ≠ U b := fun a b h1 h2 h3 q => h3 (hI a b h1 h2 q)
  have hort := fun M' c => @fOk.rt γ M M' U Y pn Z iF oF c hI hZ hF hX hi1 ho1
  have d8 : ∀ a, a < 532 → a ∉ [8, 9, 10] → U a ∉ [U 8, U 9, U 10] := fun a h1 h2 => zUn hI (L := [8, 9, 10]) h1 (by decide) h2
  have s8 : ∀ b, b ∈ [U 8, U 9, U 10] → b ∈ [U 11, U 12, U 13, U 8, U 9, U 10] := fun b hb => by simp at hb ⊢; rcases hb with h | h | h <;> simp [h]
  have s11 : ∀ b, b ∈ [U 11, U 12, U 13] → b ∈ [U 11, U 12, U 13, U 8, U 9, U 10] := fun b hb => by simp at hb ⊢; rcases hb with h | h | h <;> simp [h]
  refine zEnter [some (.ref (U 0)), some (.int (zi rr)), some (.int (zi dd)), some (.int (zi ee)), none, none, none] (by decide +kernel) rfl rfl (Nat.le_of_ble_eq_true rfl) ?_
  intro p e s m args below meth c Q C hin hQ
  refine z_aload_n C dX8_guessesAfterTraining_0 rfl ?_
  refine z_iload_n C dX8_guessesAfterTraining_1 rfl ?_
  refine z_callV C dX8_guessesAfterTraining_2 lk_X8_149 mw_X8_existingReader mi_X8_existingReader ms_X8_existingReader rfl (by first | assumption | ((repeat (first | assumption | exact va_up_self _ _ _ | refine (va_up_ne _ _ (by assumption)).trans ?_)); done) | (simp [va_up, *] <;> rfl)) (k_X8_existingReader hF hD hkk hrr) rfl (by first | decide | exact Nat.le_of_ble_eq_true rfl) ⟨by decide, by decide, by decide, by decide⟩ (fun X M' h => by obtain ⟨rfl, rfl, h⟩ := h; exact z_out C hQ (by decide) (by decide) (fX.o1 (.rf hc0) (zqR_f h))) (fun v M' hp => ?_)
  obtain ⟨rfl, g2, rfl⟩ := hp
  have hro := hD.rdo (i := rr.toNat) (by omega) (by omega)
  have hR := hD.rd (i := rr.toNat) (by omega) (by omega)
  obtain ⟨cn, hco, hcz, hcr⟩ := hD.rdc (i := rr.toNat) (by omega) (by omega)
  have hrk := (hk.1.2.2 rr.toNat (by omega)).1
  refine z_astore C dX8_guessesAfterTraining_5 (by decide) ?_
  refine z_aload_n C dX8_guessesAfterTraining_7 rfl ?_
  refine z_iload_n C dX8_guessesAfterTraining_8 rfl ?_
  refine z_callV C dX8_guessesAfterTraining_9 lk_X8_170 mw_X8_existingDocument mi_X8_existingDocument ms_X8_existingDocument rfl (by first | assumption | ((repeat (first | assumption | exact va_up_self _ _ _ | refine (va_up_ne _ _ (by assumption)).trans ?_)); done) | (simp [va_up, *] <;> rfl)) (k_X8_existingDocument hF hD hkk hdd) rfl (by first | decide | exact Nat.le_of_ble_eq_true rfl) ⟨by decide, by decide, by decide, by decide⟩ (fun X M' h => by obtain ⟨rfl, rfl, h⟩ := h; exact z_out C hQ (by decide) (by decide) (fX.o1 (.rf hc0) ((zqR_t g2).trans (zqD_f h)))) (fun v M' hp => ?_)
  obtain ⟨rfl, g9, rfl⟩ := hp
  obtain ⟨sy, hX9, hXk9, hXv9⟩ := hD.dk (d := dd.toNat) (by omega) (by omega)
  have obd9 := hX9.1
  refine z_astore C dX8_guessesAfterTraining_12 (by decide) ?_
  refine z_aload_n C dX8_guessesAfterTraining_14 rfl ?_
  refine z_iload_n C dX8_guessesAfterTraining_15 rfl ?_
  refine z_callV C dX8_guessesAfterTraining_16 lk_X8_170 mw_X8_existingDocument mi_X8_existingDocument ms_X8_existingDocument rfl (by first | assumption | ((repeat (first | assumption | exact va_up_self _ _ _ | refine (va_up_ne _ _ (by assumption)).trans ?_)); done) | (simp [va_up, *] <;> rfl)) (k_X8_existingDocument hF hD hkk hee) rfl (by first | decide | exact Nat.le_of_ble_eq_true rfl) ⟨by decide, by decide, by decide, by decide⟩ (fun X M' h => by obtain ⟨rfl, rfl, h⟩ := h; exact z_out C hQ (by decide) (by decide) (fX.o1 (.rf hc0) ((zqR_t g2).trans ((zqD_t g9).trans (zqD_f h))))) (fun v M' hp => ?_)
  obtain ⟨rfl, g16, rfl⟩ := hp
  obtain ⟨sz, hX16, hXk16, hXv16⟩ := hD.dk (d := ee.toNat) (by omega) (by omega)
  have obd16 := hX16.1
  refine z_astore C dX8_guessesAfterTraining_19 (by decide) ?_
  refine z_aload_n C dX8_guessesAfterTraining_21 rfl ?_
  refine z_get C dX8_guessesAfterTraining_22 fl_X8_60 (by first | assumption | ((repeat (first | assumption | exact va_up_self _ _ _ | refine (va_up_ne _ _ (by assumption)).trans ?_)); done) | (simp [va_up, *] <;> rfl)) rfl ?_
  refine z_aload C dX8_guessesAfterTraining_25 rfl ?_
  refine z_get C dX8_guessesAfterTraining_27 fl_X8_188 (by first | assumption | ((repeat (first | assumption | exact va_up_self _ _ _ | refine (va_up_ne _ _ (by assumption)).trans ?_)); done) | (simp [va_up, *] <;> rfl)) rfl ?_
  refine z_callV C dX8_guessesAfterTraining_30 lk_X8_261 mw_X2_copyFrom mi_X2_copyFrom ms_X2_copyFrom rfl hto (k_X2_copyFrom htr hR.2.2.1 ⟨ne89 9 (16 + 43 * 0 + (3 + 6 * rr.toNat + 3)) (by omega) (by omega) (by omega), ne89 9 (16 + 43 * 0 + (3 + 6 * rr.toNat + 4)) (by omega) (by omega) (by omega), ne89 10 (16 + 43 * 0 + (3 + 6 * rr.toNat + 4)) (by omega) (by omega) (by omega)⟩) rfl (by first | decide | exact Nat.le_of_ble_eq_true rfl) ⟨by decide, by decide, by decide, by decide⟩ (fun _ _ h => False.elim h) (fun v M' hp => ?_)
  obtain ⟨rfl, f30, hC30⟩ := hp
  obtain ⟨fs30, hto30⟩ := hC30.ob
  have hF30 := hF.fr f30 (d8 0 (by omega) (by decide))
  have ob30 := id hF30
  unfold hFo at ob30
  have hQ30 := hRQ.fr f30 (d8 11 (by omega) (by decide)) (d8 12 (by omega) (by decide)) (d8 13 (by omega) (by decide))
  have hY9 := hX9.fr f30 (d8 (16 + 43 * 0 + (27 + 2 * dd.toNat)) (by omega) (by simp; omega)) (d8 (16 + 43 * 0 + (28 + 2 * dd.toNat)) (by omega) (by simp; omega))
  have hY16 := hX16.fr f30 (d8 (16 + 43 * 0 + (27 + 2 * ee.toNat)) (by omega) (by simp; omega)) (d8 (16 + 43 * 0 + (28 + 2 * ee.toNat)) (by omega) (by simp; omega))
  refine z_aload_n C dX8_guessesAfterTraining_33 rfl ?_
  refine z_get C dX8_guessesAfterTraining_34 fl_X8_60 (by first | assumption | ((repeat (first | assumption | exact va_up_self _ _ _ | refine (va_up_ne _ _ (by assumption)).trans ?_)); done) | (simp [va_up, *] <;> rfl)) rfl ?_
  refine z_aload C dX8_guessesAfterTraining_37 rfl ?_
  refine z_callV C dX8_guessesAfterTraining_39 lk_X8_274 mw_X2_countDocument mi_X2_countDocument ms_X2_countDocument rfl hto30 (k_X2_countDocument hC30 hY9 hXk9 ⟨ne89 (16 + 43 * 0 + (28 + 2 * dd.toNat)) 9 (by omega) (by omega) (by omega), ne89 (16 + 43 * 0 + (28 + 2 * dd.toNat)) 10 (by omega) (by omega) (by omega)⟩ (hk.1.rm (i := rr.toNat) (by omega)) (hKy_of (m := (sDn (yS Y)).toNat) (i := dd.toNat) (by omega) (hk.1.2.1 dd.toNat (by omega)) hXv9)) rfl (by first | decide | exact Nat.le_of_ble_eq_true rfl) ⟨by decide, by decide, by decide, by decide⟩ (fun _ _ h => False.elim h) (fun v M' hp => ?_)
  obtain ⟨rfl, f39, hC39⟩ := hp
  rw [zdoc_eq hXv9] at hC39
  have hF39 := hF30.fr f39 (d8 0 (by omega) (by decide))
  have ob39 := id hF39
  unfold hFo at ob39
  have hQ39 := hQ30.fr f39 (d8 11 (by omega) (by decide)) (d8 12 (by omega) (by decide)) (d8 13 (by omega) (by decide))
  have hW16 := hY16.fr f39 (d8 (16 + 43 * 0 + (27 + 2 * ee.toNat)) (by omega) (by simp; omega)) (d8 (16 + 43 * 0 + (28 + 2 * ee.toNat)) (by omega) (by simp; omega))
  refine z_aload_n C dX8_guessesAfterTraining_42 rfl ?_
  refine z_aload_n C dX8_guessesAfterTraining_43 rfl ?_
  refine z_get C dX8_guessesAfterTraining_44 fl_X8_60 (by first | assumption | ((repeat (first | assumption | exact va_up_self _ _ _ | refine (va_up_ne _ _ (by assumption)).trans ?_)); done) | (simp [va_up, *] <;> rfl)) rfl ?_
  refine z_aload C dX8_guessesAfterTraining_47 rfl ?_
  refine z_callV C dX8_guessesAfterTraining_49 lk_X8_257 mw_X8_guessesFor mi_X8_guessesFor ms_X8_guessesFor rfl (by first | assumption | ((repeat (first | assumption | exact va_up_self _ _ _ | refine (va_up_ne _ _ (by assumption)).trans ?_)); done) | (simp [va_up, *] <;> rfl)) (k_X8_guessesFor hF39 hQ39 hC39 hW16 hXk16) rfl (by first | decide | exact Nat.le_of_ble_eq_true rfl) ⟨by decide, by decide, by decide, by decide⟩ (fun _ _ h => False.elim h) (fun v M' hp => ?_)
  obtain ⟨r49, rfl, f49, hQ49, hr49, hz49⟩ := hp
  refine z_iret C hQ dX8_guessesAfterTraining_52 rfl (by decide) (by decide) ?_
  have hC49 := hC39.fr f49 (hC39.disR hQ39).1 (hC39.disR hQ39).2.1 (hC39.disR hQ39).2.2
  rw [hr49, zgf_eq hXv16]
  exact fI.of (hort _ _ ((f30.tr f39 (fun _ h => h) (fun _ h => h)).tr f49 s8 s11) hQ49 hC49) ((zqR_t g2).trans ((zqD_t g9).trans (zqD_t g16)))
noncomputable def q_trainingsNeeded (S : zSt) (rr dd ll : Int) : Int × Int := zqR S rr (zqD S dd (zq2 (1 ≤ ll ∧ ll ≤ 1080) (0, ztn (sDc S dd.toNat) ll 21 (rC (sRd S rr.toNat)))))
set_option maxHeartbeats 4000000 in
set_option maxRecDepth 100000 in
theorem k_X8_trainingsNeeded {l : Launch} {γ : zG} {M : zM} {U : Nat → Nat} {Y : zSys} {rr dd ll : Int} (hc : hFc γ M U Y) (hk : yOk Y) (hrr : zR rr) (hdd : zR dd) (hll : zR ll) :
    zCon l γ yX8_trainingsNeeded cX8_trainingsNeeded 7 (some .int) [.ref (U 0), .int (zi rr), .int (zi dd), .int (zi ll)] M 7 145 3 18 (fI γ M U Y (q_trainingsNeeded (yS Y) rr dd ll)) (fX γ M U Y (q_trainingsNeeded (yS Y) rr dd ll) xIOB xIAE) := by
  have hc0 := hc
  obtain ⟨hI, pn, Z, iF, oF, hZ, hF, hX, hi1, ho1⟩ := hc
  have hob := id hF
  unfold hFo at hob
  have hD : hSt γ M (zUb U 0) (yS Y) := hZ.2.1 ▸ hX.st0
  have hst := hD.ob
  have hkn := hk.1.1
  have hkk := hk.1.nk
  have hRQ := hX.2.2.2.2.2.2.1
  have hok := fun M' => @fOk.rk γ M M' U Y pn Z iF oF hI hZ hF hX hi1 ho1
  obtain ⟨ct, htr⟩ := hX.2.2.2.2.2.1
  have hto := htr.ob
  obtain ⟨tfs, hto⟩ := hto
  have ne89 : ∀ (a b : Nat), a < 532 → b < 532 → a ≠ b → U a ≠ U b := fun a b h1 h2 h3 q => h3 (hI a b h1 h2 q)
  have hort := fun M' c => @fOk.rt γ M M' U Y pn Z iF oF c hI hZ hF hX hi1 ho1
  have d8 : ∀ a, a < 532 → a ∉ [8, 9, 10] → U a ∉ [U 8, U 9, U 10] := fun a h1 h2 => zUn hI (L := [8, 9, 10]) h1 (by decide) h2
  have s8 : ∀ b, b ∈ [U 8, U 9, U 10] → b ∈ [U 11, U 12, U 13, U 8, U 9, U 10] := fun b hb => by simp at hb ⊢; rcases hb with h | h | h <;> simp [h]
  have s11 : ∀ b, b ∈ [U 11, U 12, U 13] → b ∈ [U 11, U 12, U 13, U 8, U 9, U 10] := fun b hb => by simp at hb ⊢; rcases hb with h | h | h <;> simp [h]
  refine zEnter [some (.ref (U 0)), some (.int (zi rr)), some (.int (zi dd)), some (.int (zi ll)), none, none, none] (by decide +kernel) rfl rfl (Nat.le_of_ble_eq_true rfl) ?_
  intro p e s m args below meth c Q C hin hQ
  have loop : ∀ (g1 : 0 ≤ rr ∧ rr < sRn (yS Y)) (g8 : 0 ≤ dd ∧ dd < sDn (yS Y)) (hl : 1 ≤ ll ∧ ll ≤ 1080) (t : Nat) (M1 : zM) (i : Int) (c1 : Int → Int), i + t = 21 → 0 ≤ i → zFr M M1 [U 11, U 12, U 13, U 8, U 9, U 10] → hRq γ M1 (U 11) (U 12) (U 13) → hCn γ M1 (U 8) (U 9) (U 10) c1 → hRm (zGk (sDc (yS Y)) (sDn (yS Y)).toNat) c1 → ztn (sDc (yS Y) dd.toNat) ll t c1 = ztn (sDc (yS Y) dd.toNat) ll 21 (rC (sRd (yS Y) rr.toNat)) → zAW p l e { frames := 7, cells := 3, slots := 18, locals := 145 } s m args below meth c γ 7 Q M1 2 12 52 [some (.ref (U 0)), some (.int (zi rr)), some (.int (zi dd)), some (.int (zi ll)), some (.ref (zUb U 0 (3 + 6 * rr.toNat))), some (.ref (zUb U 0 (27 + 2 * dd.toNat))), some (.int (zi i))] [] := by
    intro g1 g8 hl
    obtain ⟨sy, hX8, hXk8, hXv8⟩ := hD.dk (d := dd.toNat) (by omega) (by omega)
    have hdl := hXk8.1
    have obd8 := hX8.1
    have n6 : ∀ a, a < 532 → a ∉ [11, 12, 13, 8, 9, 10] → U a ∉ [U 11, U 12, U 13, U 8, U 9, U 10] := fun a h1 h2 => zUn hI (L := [11, 12, 13, 8, 9, 10]) h1 (by decide) h2
    have hky := hKy_of (m := (sDn (yS Y)).toNat) (i := dd.toNat) (by omega) (hk.1.2.1 dd.toNat (by omega)) hXv8
    have hdk := hk.1.2.1 dd.toNat (by omega)
    intro t
    induction t with
    | zero =>
      intro M1 i c1 ht hi hf hQ1 hC1 hG1 he
      refine z_iload C dX8_trainingsNeeded_52 rfl ?_
      refine z_bipush C dX8_trainingsNeeded_54 (by decide) ?_
      refine z_icmp_gtZ (tgt := 91) C dX8_trainingsNeeded_56 (by decide) (by omega) (by omega) (fun h56 => ?_) (fun h56 => ?_)
      · refine z_iconst C dX8_trainingsNeeded_91 ?_
        refine z_iret C hQ dX8_trainingsNeeded_92 rfl (by decide) (by decide) ?_
        exact fI.of (hort _ _ hf hQ1 hC1) ((zqR_t g1).trans ((zqD_t g8).trans ((zq2_t hl).trans (by rw [← he]; rfl))))
      · exact absurd h56 (by omega)
    | succ t ih =>
      intro M1 i c1 ht hi hf hQ1 hC1 hG1 he
      have he : (if zgf c1 (sDc (yS Y) dd.toNat) ≤ ll then 20 - (t : Int) else ztn (sDc (yS Y) dd.toNat) ll t (zdoc c1 (sDc (yS Y) dd.toNat))) = ztn (sDc (yS Y) dd.toNat) ll 21 (rC (sRd (yS Y) rr.toNat)) := he
      have hF1 := hF.fr hf (n6 0 (by omega) (by decide))
      have ob1 := id hF1
      unfold hFo at ob1
      obtain ⟨fs1, hto1⟩ := hC1.ob
      have hY8 := hX8.fr hf (n6 (16 + 43 * 0 + (27 + 2 * dd.toNat)) (by omega) (by simp; omega)) (n6 (16 + 43 * 0 + (28 + 2 * dd.toNat)) (by omega) (by simp; omega))
      refine z_iload C dX8_trainingsNeeded_52 rfl ?_
      refine z_bipush C dX8_trainingsNeeded_54 (by decide) ?_
      refine z_icmp_gtZ (tgt := 91) C dX8_trainingsNeeded_56 (by decide) (by omega) (by omega) (fun h56 => ?_) (fun h56 => ?_)
      · exact absurd h56 (by omega)
      · refine z_aload_n C dX8_trainingsNeeded_59 rfl ?_
        refine z_aload_n C dX8_trainingsNeeded_60 rfl ?_
        refine z_get C dX8_trainingsNeeded_61 fl_X8_60 (by first | assumption | ((repeat (first | assumption | exact va_up_self _ _ _ | refine (va_up_ne _ _ (by assumption)).trans ?_)); done) | (simp [va_up, *] <;> rfl)) rfl ?_
        refine z_aload C dX8_trainingsNeeded_64 rfl ?_
        refine z_callV C dX8_trainingsNeeded_66 lk_X8_257 mw_X8_guessesFor mi_X8_guessesFor ms_X8_guessesFor rfl (by first | assumption | ((repeat (first | assumption | exact va_up_self _ _ _ | refine (va_up_ne _ _ (by assumption)).trans ?_)); done) | (simp [va_up, *] <;> rfl)) (k_X8_guessesFor hF1 hQ1 hC1 hY8 hXk8) rfl (by first | decide | exact Nat.le_of_ble_eq_true rfl) ⟨by decide, by decide, by decide, by decide⟩ (fun _ _ h => False.elim h) (fun v M' hp => ?_)
        obtain ⟨r66, rfl, f66, hQ66, hr66, hz66⟩ := hp
        rw [zgf_eq hXv8] at hr66
        have hz67 := zgf_le hr66 hz66 hdk
        rw [← hr66] at he
        have hdr := hC1.disR hQ1
        have hC66 := hC1.fr f66 hdr.1 hdr.2.1 hdr.2.2
        obtain ⟨fs66, hto66⟩ := hC66.ob
        have d11 : ∀ a, a < 532 → a ∉ [11, 12, 13] → U a ∉ [U 11, U 12, U 13] := fun a h1 h2 => zUn hI (L := [11, 12, 13]) h1 (by decide) h2
        have ob66 := f66.at (d11 0 (by omega) (by decide)) ob1
        have hY66 := hY8.fr f66 (d11 (16 + 43 * 0 + (27 + 2 * dd.toNat)) (by omega) (by simp; omega)) (d11 (16 + 43 * 0 + (28 + 2 * dd.toNat)) (by omega) (by simp; omega))
        refine z_iload_n C dX8_trainingsNeeded_69 rfl ?_
        refine z_icmp_gtZ (tgt := 76) C dX8_trainingsNeeded_70 (by decide) (by omega) (by omega) (fun h70 => ?_) (fun h70 => ?_)
        · refine z_aload_n C dX8_trainingsNeeded_76 rfl ?_
          refine z_get C dX8_trainingsNeeded_77 fl_X8_60 (by first | assumption | ((repeat (first | assumption | exact va_up_self _ _ _ | refine (va_up_ne _ _ (by assumption)).trans ?_)); done) | (simp [va_up, *] <;> rfl)) rfl ?_
          refine z_aload C dX8_trainingsNeeded_80 rfl ?_
          refine z_callV C dX8_trainingsNeeded_82 lk_X8_274 mw_X2_countDocument mi_X2_countDocument ms_X2_countDocument rfl hto66 (k_X2_countDocument hC66 hY66 hXk8 ⟨ne89 (16 + 43 * 0 + (28 + 2 * dd.toNat)) 9 (by omega) (by omega) (by omega), ne89 (16 + 43 * 0 + (28 + 2 * dd.toNat)) 10 (by omega) (by omega) (by omega)⟩ hG1 hky) rfl (by first | decide | exact Nat.le_of_ble_eq_true rfl) ⟨by decide, by decide, by decide, by decide⟩ (fun _ _ h => False.elim h) (fun v M' hp => ?_)
          obtain ⟨rfl, f82, hC82⟩ := hp
          refine z_iincZ C dX8_trainingsNeeded_85 rfl (by decide) ?_
          refine z_goto (tgt := 52) C dX8_trainingsNeeded_88 (by decide) ?_
          rw [if_neg (by omega)] at he
          have hG2 := hG1.ldn hky (dLe (sDc (yS Y) dd.toNat)).toNat (by omega)
          rw [zdoc_eq hXv8] at hC82 hG2
          exact ih _ (i + 1) _ (by omega) (by omega) ((hf.tr f66 (fun _ h => h) s11).tr f82 (fun _ h => h) s8) (hQ66.fr f82 (d8 11 (by omega) (by decide)) (d8 12 (by omega) (by decide)) (d8 13 (by omega) (by decide))) hC82 hG2 he
        · refine z_iload C dX8_trainingsNeeded_73 rfl ?_
          refine z_iret C hQ dX8_trainingsNeeded_75 rfl (by decide) (by decide) ?_
          rw [if_pos (by omega)] at he
          exact fI.of (hort _ _ (hf.tr f66 (fun _ h => h) s11) hQ66 hC66) ((zqR_t g1).trans ((zqD_t g8).trans ((zq2_t hl).trans (by rw [← he, show (20 : Int) - t = i by omega]))))
  unfold zR at hll
  refine z_aload_n C dX8_trainingsNeeded_0 rfl ?_
  refine z_iload_n C dX8_trainingsNeeded_1 rfl ?_
  refine z_callV C dX8_trainingsNeeded_2 lk_X8_149 mw_X8_existingReader mi_X8_existingReader ms_X8_existingReader rfl (by first | assumption | ((repeat (first | assumption | exact va_up_self _ _ _ | refine (va_up_ne _ _ (by assumption)).trans ?_)); done) | (simp [va_up, *] <;> rfl)) (k_X8_existingReader hF hD hkk hrr) rfl (by first | decide | exact Nat.le_of_ble_eq_true rfl) ⟨by decide, by decide, by decide, by decide⟩ (fun X M' h => by obtain ⟨rfl, rfl, h⟩ := h; exact z_out C hQ (by decide) (by decide) (fX.o1 (.rf hc0) (zqR_f h))) (fun v M' hp => ?_)
  obtain ⟨rfl, g2, rfl⟩ := hp
  have hro := hD.rdo (i := rr.toNat) (by omega) (by omega)
  have hR := hD.rd (i := rr.toNat) (by omega) (by omega)
  obtain ⟨cn, hco, hcz, hcr⟩ := hD.rdc (i := rr.toNat) (by omega) (by omega)
  have hrk := (hk.1.2.2 rr.toNat (by omega)).1
  refine z_astore C dX8_trainingsNeeded_5 (by decide) ?_
  refine z_aload_n C dX8_trainingsNeeded_7 rfl ?_
  refine z_iload_n C dX8_trainingsNeeded_8 rfl ?_
  refine z_callV C dX8_trainingsNeeded_9 lk_X8_170 mw_X8_existingDocument mi_X8_existingDocument ms_X8_existingDocument rfl (by first | assumption | ((repeat (first | assumption | exact va_up_self _ _ _ | refine (va_up_ne _ _ (by assumption)).trans ?_)); done) | (simp [va_up, *] <;> rfl)) (k_X8_existingDocument hF hD hkk hdd) rfl (by first | decide | exact Nat.le_of_ble_eq_true rfl) ⟨by decide, by decide, by decide, by decide⟩ (fun X M' h => by obtain ⟨rfl, rfl, h⟩ := h; exact z_out C hQ (by decide) (by decide) (fX.o1 (.rf hc0) ((zqR_t g2).trans (zqD_f h)))) (fun v M' hp => ?_)
  obtain ⟨rfl, g9, rfl⟩ := hp
  obtain ⟨sy, hX9, hXk9, hXv9⟩ := hD.dk (d := dd.toNat) (by omega) (by omega)
  have obd9 := hX9.1
  refine z_astore C dX8_trainingsNeeded_12 (by decide) ?_
  refine z_iload_n C dX8_trainingsNeeded_14 rfl ?_
  refine z_iconst C dX8_trainingsNeeded_15 ?_
  refine z_icmp_ltZ (tgt := 26) C dX8_trainingsNeeded_16 (by decide) (by omega) (by omega) (fun h16 => ?_) (fun h16 => ?_)
  · refine z_throwW C hQ xt_IAE (si := 18) rfl dX8_trainingsNeeded_26 dX8_trainingsNeeded_29 dX8_trainingsNeeded_30 dX8_trainingsNeeded_33 dX8_trainingsNeeded_36 ⟨by decide, by decide, by decide, by decide⟩ (by decide) (by decide) ?_
    exact fX.o2 (.rf hc0) ((zqR_t g2).trans ((zqD_t g9).trans (zq2_f fun w => by omega)))
  · refine z_iload_n C dX8_trainingsNeeded_19 rfl ?_
    refine z_sipush C dX8_trainingsNeeded_20 (by decide) ?_
    refine z_icmp_leZ (tgt := 37) C dX8_trainingsNeeded_23 (by decide) (by omega) (by omega) (fun h23 => ?_) (fun h23 => ?_)
    · refine z_aload_n C dX8_trainingsNeeded_37 rfl ?_
      refine z_get C dX8_trainingsNeeded_38 fl_X8_60 (by first | assumption | ((repeat (first | assumption | exact va_up_self _ _ _ | refine (va_up_ne _ _ (by assumption)).trans ?_)); done) | (simp [va_up, *] <;> rfl)) rfl ?_
      refine z_aload C dX8_trainingsNeeded_41 rfl ?_
      refine z_get C dX8_trainingsNeeded_43 fl_X8_188 (by first | assumption | ((repeat (first | assumption | exact va_up_self _ _ _ | refine (va_up_ne _ _ (by assumption)).trans ?_)); done) | (simp [va_up, *] <;> rfl)) rfl ?_
      refine z_callV C dX8_trainingsNeeded_46 lk_X8_261 mw_X2_copyFrom mi_X2_copyFrom ms_X2_copyFrom rfl hto (k_X2_copyFrom htr hR.2.2.1 ⟨ne89 9 (16 + 43 * 0 + (3 + 6 * rr.toNat + 3)) (by omega) (by omega) (by omega), ne89 9 (16 + 43 * 0 + (3 + 6 * rr.toNat + 4)) (by omega) (by omega) (by omega), ne89 10 (16 + 43 * 0 + (3 + 6 * rr.toNat + 4)) (by omega) (by omega) (by omega)⟩) rfl (by first | decide | exact Nat.le_of_ble_eq_true rfl) ⟨by decide, by decide, by decide, by decide⟩ (fun _ _ h => False.elim h) (fun v M' hp => ?_)
      obtain ⟨rfl, f46, hC46⟩ := hp
      obtain ⟨fs46, hto46⟩ := hC46.ob
      have hF46 := hF.fr f46 (d8 0 (by omega) (by decide))
      have ob46 := id hF46
      unfold hFo at ob46
      have hQ46 := hRQ.fr f46 (d8 11 (by omega) (by decide)) (d8 12 (by omega) (by decide)) (d8 13 (by omega) (by decide))
      refine z_iconst C dX8_trainingsNeeded_49 ?_
      refine z_istore C dX8_trainingsNeeded_50 (by decide) ?_
      exact loop g2 g9 (by omega) 21 _ 0 _ (by omega) (by omega) (f46.tr zFr.rf s8 (fun _ h => h)) hQ46 hC46 (hk.1.rm (i := rr.toNat) (by omega)) rfl
    · refine z_throwW C hQ xt_IAE (si := 18) rfl dX8_trainingsNeeded_26 dX8_trainingsNeeded_29 dX8_trainingsNeeded_30 dX8_trainingsNeeded_33 dX8_trainingsNeeded_36 ⟨by decide, by decide, by decide, by decide⟩ (by decide) (by decide) ?_
      exact fX.o2 (.rf hc0) ((zqR_t g2).trans ((zqD_t g9).trans (zq2_f fun w => by omega)))
def q_outputByte (Y : zSys) (ii : Int) : Int × Int := if 0 ≤ ii ∧ ii < yOn Y then (0, yOf Y ii.toNat) else (1, 0)
set_option maxHeartbeats 4000000 in
set_option maxRecDepth 100000 in
theorem k_X8_outputByte {l : Launch} {γ : zG} {M : zM} {U : Nat → Nat} {Y : zSys} {ii : Int} (hc : hFc γ M U Y) (hk : yOk Y) (hii : zR ii) :
    zCon l γ yX8_outputByte cX8_outputByte 3 (some .int) [.ref (U 0), .int (zi ii)] M 6 82 1 6 (fI γ M U Y (q_outputByte Y ii)) (fX γ M U Y (q_outputByte Y ii) nsN nsN) := by
  have hc0 := hc
  obtain ⟨hI, pn, Z, iF, oF, hZ, hF, hX, hi1, ho1⟩ := hc
  have hob := id hF
  unfold hFo at hob
  have hD : hSt γ M (zUb U 0) (yS Y) := hZ.2.1 ▸ hX.st0
  have hst := hD.ob
  have hkn := hk.1.1
  have hkk := hk.1.nk
  have hRQ := hX.2.2.2.2.2.2.1
  have hok := fun M' => @fOk.rk γ M M' U Y pn Z iF oF hI hZ hF hX hi1 ho1
  have hou := hX.2.2.2.2.1
  have obo := hou.1.1
  refine zEnter [some (.ref (U 0)), some (.int (zi ii)), none] (by decide +kernel) rfl rfl (Nat.le_of_ble_eq_true rfl) ?_
  intro p e s m args below meth c Q C hin hQ
  refine z_aload_n C dX8_outputByte_0 rfl ?_
  refine z_get C dX8_outputByte_1 fl_X8_48 (by first | assumption | ((repeat (first | assumption | exact va_up_self _ _ _ | refine (va_up_ne _ _ (by assumption)).trans ?_)); done) | (simp [va_up, *] <;> rfl)) rfl ?_
  refine z_iload_n C dX8_outputByte_4 rfl ?_
  refine z_callV C dX8_outputByte_5 lk_X8_344 mw_X0_at mi_X0_at ms_X0_at rfl (by first | assumption | ((repeat (first | assumption | exact va_up_self _ _ _ | refine (va_up_ne _ _ (by assumption)).trans ?_)); done) | (simp [va_up, *] <;> rfl)) (k_X0_at hou.1 hou.2 hii) rfl (by first | decide | exact Nat.le_of_ble_eq_true rfl) ⟨by decide, by decide, by decide, by decide⟩ (fun _ _ h => False.elim h) (fun v M' hp => ?_)
  obtain ⟨r5, rfl, rfl, hr5⟩ := hp
  have hz5 := hAt_rng hou.2 ii
  rw [← hr5] at hz5
  refine z_istore_n C dX8_outputByte_8 (by decide) ?_
  refine z_iload_n C dX8_outputByte_9 rfl ?_
  refine z_iconst C dX8_outputByte_10 ?_
  refine z_icmp_neZ (tgt := 25) C dX8_outputByte_11 (by decide) (by omega) (by omega) (fun h11 => ?_) (fun h11 => ?_)
  · refine z_iload_n C dX8_outputByte_25 rfl ?_
    refine z_iret C hQ dX8_outputByte_26 rfl (by decide) (by decide) ?_
    have h : 0 ≤ ii ∧ ii < yOn Y := by
      by_cases h : 0 ≤ ii ∧ ii < yOn Y
      · exact h
      · rw [hr5, hAt_out h] at h11
        exact absurd rfl h11
    rw [hr5, hAt_in h, ho1 _ (by omega)]
    exact fI.of (.rf hc0) (if_pos h)
  · refine z_throwNW C hQ (si := 26) rfl dX8_outputByte_14 dX8_outputByte_17 dX8_outputByte_18 dX8_outputByte_21 dX8_outputByte_24 ⟨by decide, by decide, by decide, by decide⟩ (by decide) (by decide) ?_
    refine fX.o1 (.rf hc0) (if_neg fun h => ?_)
    rw [hr5, hAt_in h] at h11
    have := hou.2.2.2 ii.toNat (by omega)
    omega

