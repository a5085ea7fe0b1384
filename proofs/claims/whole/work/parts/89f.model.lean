/-! the model's questions: readers compared -/
theorem zBest {S : zSt} {X : zDoc} (hX : zDok X) : ∀ t : Nat, (-1 ≤ (zbrn S X t).1 ∧ (zbrn S X t).1 < t) ∧ ((zbrn S X t).1 = -1 → (zbrn S X t).2 = 1081) ∧ ((zbrn S X t).1 ≠ -1 → 1 ≤ (zbrn S X t).2 ∧ (zbrn S X t).2 ≤ 1080)
  | 0 => ⟨⟨(show (-1 : Int) ≤ -1 by decide), (show (-1 : Int) < 0 by decide)⟩, fun _ => rfl, fun h => absurd rfl h⟩
  | t + 1 => by
    obtain ⟨h1, h2, h3⟩ := zBest (S := S) hX t
    have g := zgf_rng (c := rC (sRd S t)) hX
    unfold zbrn
    split
    · exact ⟨⟨(show (-1 : Int) ≤ t by omega), (show (t : Int) < (t + 1 : Nat) by omega)⟩, fun w => absurd w (show (t : Int) ≠ -1 by omega), fun _ => g⟩
    · exact ⟨⟨h1.1, by omega⟩, h2, h3⟩
theorem zHard {S : zSt} {c : Int → Int} : ∀ t : Nat, (∀ i : Nat, i < t → zDok (sDc S i)) → (-1 ≤ (zhdn S c t).1 ∧ (zhdn S c t).1 < t) ∧ ((zhdn S c t).1 = -1 → (zhdn S c t).2 = 0 ∧ t = 0) ∧ ((zhdn S c t).1 ≠ -1 → 1 ≤ (zhdn S c t).2 ∧ (zhdn S c t).2 ≤ 1080)
  | 0, _ => ⟨⟨(show (-1 : Int) ≤ -1 by decide), (show (-1 : Int) < 0 by decide)⟩, fun _ => ⟨rfl, rfl⟩, fun h => absurd rfl h⟩
  | t + 1, hX => by
    obtain ⟨h1, h2, h3⟩ := zHard (S := S) (c := c) t (fun i hi => hX i (by omega))
    have g := zgf_rng (c := c) (hX t (by omega))
    unfold zhdn
    split
    · exact ⟨⟨(show (-1 : Int) ≤ t by omega), (show (t : Int) < (t + 1 : Nat) by omega)⟩, fun w => absurd w (show (t : Int) ≠ -1 by omega), fun _ => g⟩
    · rename_i q
      refine ⟨⟨h1.1, by omega⟩, fun w => ?_, h3⟩
      have := h2 w
      omega
set_option maxHeartbeats 4000000 in
set_option maxRecDepth 100000 in
theorem m_bestReader {l : Launch} {γ : zG} {M : zM} {A : Nat → Nat} {Y : zSys} {t0 : Int} {dd : Int} (hMo0 : hMo γ M A Y t0) (hY : zOk (yS Y)) (r_dd : zR dd) :
    zCon l γ yX9_bestReader cX9_bestReader 6 (some .int) [.ref (A 0), .int (zi dd)] M 10 330 0 0 (mAns γ A M Y (q_bestReader (yS Y) dd)) (fun _ _ => False) := by
  obtain ⟨hA, F, h8, hF⟩ := hMo0
  obtain ⟨hsc, hec, hun, hsl, hinp, hou, ⟨g, hM, hS⟩, hrs⟩ := id hF
  have hO := hsc.1
  have hg := hS.1
  have o1 := hY.1
  have z_dd := r_dd
  unfold zR at z_dd
  refine zEnter [some (.ref (A 0)), some (.int (zi dd)), none, none, none, none] (by decide +kernel) rfl rfl (Nat.le_of_ble_eq_true rfl) ?_
  intro p e s m args below meth c Q C hin hQ
  have loop : ∀ (c2 : 0 ≤ dd ∧ dd < sDn (yS Y)) (t : Nat) (M1 : zM) (F1 : Nat → Int) (i le : Int) (x5 : Option Value), sRn (yS Y) - i = t → 0 ≤ i ∧ i ≤ sRn (yS Y) → M1 (A 1) = some (zar γ 5987 g) → hMf γ M1 A F1 Y → F1 8 = 0 → mAll A M M1 → zR le → ((zbrn (yS Y) (sDc (yS Y) dd.toNat) i.toNat).1 ≠ -1 → le = (zbrn (yS Y) (sDc (yS Y) dd.toNat) i.toNat).2) → zAW p l e { frames := 10, cells := 0, slots := 0, locals := 330 } s m args below meth c γ 6 Q M1 0 0 17 [some (.ref (A 0)), some (.int (zi dd)), some (.int (zi (zbrn (yS Y) (sDc (yS Y) dd.toNat) i.toNat).1)), some (.int (zi le)), some (.int (zi i)), x5] [] := by
    intro c2 t
    have hX := hY.2.1 dd.toNat (by omega)
    induction t with
    | zero =>
      intro M1 F1 i le x5 ht hi hM1 hF1 e8 hal rl hle
      obtain rfl : i = sRn (yS Y) := by omega
      have hO1 := hF1.1.1
      refine z_iload C dX9_bestReader_17 rfl ?_
      refine z_aload_n C dX9_bestReader_19 rfl ?_
      refine z_get C dX9_bestReader_20 fl_X9_7 (by first | assumption | ((repeat (first | assumption | exact va_up_self _ _ _ | refine (va_up_ne _ _ (by first | assumption | exact hA.ne (by decide) | exact hA.ne (by omega))).trans ?_)); done)) rfl ?_
      refine z_iconst C dX9_bestReader_23 ?_
      refine z_aldN C dX9_bestReader_24 (by first | assumption | ((repeat (first | assumption | exact va_up_self _ _ _ | refine (va_up_ne _ _ (by first | assumption | exact hA.ne (by decide) | exact hA.ne (by omega))).trans ?_)); done)) (by omega) (by omega) (by assumption) (fun hr24 => ?_)
      rw [show g (2 : Int).toNat = sRn (yS Y) from hS.2.2.2.1]
      refine z_icmp_geZ (tgt := 64) C dX9_bestReader_25 (by decide) (by omega) (by omega) (fun h25 => ?_) (fun h25 => ?_)
      · refine z_iload_n C dX9_bestReader_64 rfl ?_
        refine z_iret C hQ dX9_bestReader_65 rfl (by decide) (by decide) ?_
        exact mAns.ok hA hF1 hal e8 (by rw [q_bestReader, mqD_t c2]) rfl
      · exact absurd h25 (by omega)
    | succ t ih =>
      intro M1 F1 i le x5 ht hi hM1 hF1 e8 hal rl hle
      have hO1 := hF1.1.1
      have hR := hS.rd hY (r := i) (d := dd) (by omega) c2
      have gr := zgf_rng (c := rC (sRd (yS Y) i.toNat)) hX
      obtain ⟨b1, b2, b3⟩ := zBest (S := yS Y) hX i.toNat
      unfold zR at rl
      have qq := fun M2 F2 le x5 => ih M2 F2 (i + 1) le x5 (by omega) (by omega)
      rw [show (i + 1).toNat = i.toNat + 1 by omega, zbrn, show ((i.toNat : Nat) : Int) = i by omega] at qq
      refine z_iload C dX9_bestReader_17 rfl ?_
      refine z_aload_n C dX9_bestReader_19 rfl ?_
      refine z_get C dX9_bestReader_20 fl_X9_7 (by first | assumption | ((repeat (first | assumption | exact va_up_self _ _ _ | refine (va_up_ne _ _ (by first | assumption | exact hA.ne (by decide) | exact hA.ne (by omega))).trans ?_)); done)) rfl ?_
      refine z_iconst C dX9_bestReader_23 ?_
      refine z_aldN C dX9_bestReader_24 (by first | assumption | ((repeat (first | assumption | exact va_up_self _ _ _ | refine (va_up_ne _ _ (by first | assumption | exact hA.ne (by decide) | exact hA.ne (by omega))).trans ?_)); done)) (by omega) (by omega) (by assumption) (fun hr24 => ?_)
      rw [show g (2 : Int).toNat = sRn (yS Y) from hS.2.2.2.1]
      refine z_icmp_geZ (tgt := 64) C dX9_bestReader_25 (by decide) (by omega) (by omega) (fun h25 => ?_) (fun h25 => ?_)
      · exact absurd h25 (by omega)
      · refine z_aload_n C dX9_bestReader_28 rfl ?_
        refine z_aload_n C dX9_bestReader_29 rfl ?_
        refine z_get C dX9_bestReader_30 fl_X9_7 (by first | assumption | ((repeat (first | assumption | exact va_up_self _ _ _ | refine (va_up_ne _ _ (by first | assumption | exact hA.ne (by decide) | exact hA.ne (by omega))).trans ?_)); done)) rfl ?_
        refine z_iload C dX9_bestReader_33 rfl ?_
        refine z_iload_n C dX9_bestReader_35 rfl ?_
        refine z_callV C dX9_bestReader_36 lk_X9_345 mw_X9_guesses mi_X9_guesses ms_X9_guesses rfl hF1.1.1 (k_X9_guesses hA hF1.1 (kq := 1) (.inl rfl) hM1 hR) rfl (by first | decide | exact Nat.le_of_ble_eq_true rfl) ⟨by decide, by decide, by decide, by decide⟩ (fun _ _ h => False.elim h) (fun v M' hp => ?_)
        obtain ⟨rfl, fa, Fa, pa, sa⟩ := hp
        refine z_istore C dX9_bestReader_39 (by decide) ?_
        refine z_iload_n C dX9_bestReader_41 rfl ?_
        refine z_iconst C dX9_bestReader_42 ?_
        refine z_icmp_eqZ (tgt := 52) C dX9_bestReader_43 (by decide) (by omega) (by omega) (fun h43 => ?_) (fun h43 => ?_)
        · refine z_iload C dX9_bestReader_52 rfl ?_
          refine z_istore_n C dX9_bestReader_54 (by decide) ?_
          refine z_iload C dX9_bestReader_55 rfl ?_
          refine z_istore_n C dX9_bestReader_57 (by decide) ?_
          refine z_iincZ C dX9_bestReader_58 rfl (by decide) ?_
          refine z_goto (tgt := 17) C dX9_bestReader_61 (by decide) ?_
          rw [if_pos (by have := b2 h43; omega)] at qq
          exact qq _ Fa _ _ (fa.at hA (.of rfl) hM1) (hF1.q1 hA fa rfl pa rfl sa) ((pa 8 (by decide)).trans e8) (hal.tr fa ⟨rfl, rfl⟩) (by unfold zR; omega) (fun _ => rfl)
        · refine z_iload C dX9_bestReader_46 rfl ?_
          refine z_iload_n C dX9_bestReader_48 rfl ?_
          refine z_icmp_geZ (tgt := 58) C dX9_bestReader_49 (by decide) (by omega) (by omega) (fun h49 => ?_) (fun h49 => ?_)
          · refine z_iincZ C dX9_bestReader_58 rfl (by decide) ?_
            refine z_goto (tgt := 17) C dX9_bestReader_61 (by decide) ?_
            rw [if_neg (by have := hle h43; omega)] at qq
            exact qq _ Fa le _ (fa.at hA (.of rfl) hM1) (hF1.q1 hA fa rfl pa rfl sa) ((pa 8 (by decide)).trans e8) (hal.tr fa ⟨rfl, rfl⟩) rl hle
          · refine z_iload C dX9_bestReader_52 rfl ?_
            refine z_istore_n C dX9_bestReader_54 (by decide) ?_
            refine z_iload C dX9_bestReader_55 rfl ?_
            refine z_istore_n C dX9_bestReader_57 (by decide) ?_
            refine z_iincZ C dX9_bestReader_58 rfl (by decide) ?_
            refine z_goto (tgt := 17) C dX9_bestReader_61 (by decide) ?_
            rw [if_pos (by have := hle h43; omega)] at qq
            exact qq _ Fa _ _ (fa.at hA (.of rfl) hM1) (hF1.q1 hA fa rfl pa rfl sa) ((pa 8 (by decide)).trans e8) (hal.tr fa ⟨rfl, rfl⟩) (by unfold zR; omega) (fun _ => rfl)
  refine z_aload_n C dX9_bestReader_0 rfl ?_
  refine z_iload_n C dX9_bestReader_1 rfl ?_
  refine z_callV C dX9_bestReader_2 lk_X9_298 mw_X9_noDocument mi_X9_noDocument ms_X9_noDocument rfl (by first | assumption | ((repeat (first | assumption | exact va_up_self _ _ _ | refine (va_up_ne _ _ (by first | assumption | exact hA.ne (by decide) | exact hA.ne (by omega))).trans ?_)); done)) (k_X9_noDocument hA hO hM hS hY r_dd) rfl (by first | decide | exact Nat.le_of_ble_eq_true rfl) ⟨by decide, by decide, by decide, by decide⟩ (fun _ _ h => False.elim h) (fun v M' hp => ?_)
  obtain ⟨r1, F1, rfl, f1, ob1, p1, e1, z1⟩ := hp
  have s1 := z1.rng
  have cf1 := f1
  have cp1 := p1
  have hM1 := cf1.at hA (.of rfl) hM
  refine z_if_eqZ (tgt := 10) C dX9_bestReader_5 (by decide) (by omega) (fun h5 => ?_) (fun h5 => ?_)
  · have t1 := Decidable.not_not.mp (z1.f h5)
    rw [t1] at e1
    obtain ⟨c1, -⟩ := mqD_0 t1
    have hF1 := hF.q0 hA cf1 ob1 cp1 rfl
    refine z_iconst C dX9_bestReader_10 ?_
    refine z_istore_n C dX9_bestReader_11 (by decide) ?_
    refine z_iconst C dX9_bestReader_12 ?_
    refine z_istore_n C dX9_bestReader_13 (by decide) ?_
    refine z_iconst C dX9_bestReader_14 ?_
    refine z_istore C dX9_bestReader_15 (by decide) ?_
    exact loop c1 (sRn (yS Y)).toNat _ F1 0 0 none (by omega) (by omega) hM1 hF1 e1 (cf1.mo rfl) (by unfold zR; omega) (fun w => absurd rfl w)
  · refine z_iconst C dX9_bestReader_8 ?_
    refine z_iret C hQ dX9_bestReader_9 rfl (by decide) (by decide) ?_
    exact mAns.no hA hF cf1 ob1 cp1 e1 (z1.t h5) (mqD_1 rfl)
set_option maxHeartbeats 4000000 in
set_option maxRecDepth 100000 in
theorem m_hardestDocument {l : Launch} {γ : zG} {M : zM} {A : Nat → Nat} {Y : zSys} {t0 : Int} {rr : Int} (hMo0 : hMo γ M A Y t0) (hY : zOk (yS Y)) (r_rr : zR rr) :
    zCon l γ yX9_hardestDocument cX9_hardestDocument 6 (some .int) [.ref (A 0), .int (zi rr)] M 10 330 0 0 (mAns γ A M Y (q_hardestDocument (yS Y) rr)) (fun _ _ => False) := by
  obtain ⟨hA, F, h8, hF⟩ := hMo0
  obtain ⟨hsc, hec, hun, hsl, hinp, hou, ⟨g, hM, hS⟩, hrs⟩ := id hF
  have hO := hsc.1
  have hg := hS.1
  have o1 := hY.1
  have z_rr := r_rr
  unfold zR at z_rr
  refine zEnter [some (.ref (A 0)), some (.int (zi rr)), none, none, none, none] (by decide +kernel) rfl rfl (Nat.le_of_ble_eq_true rfl) ?_
  intro p e s m args below meth c Q C hin hQ
  have loop : ∀ (c1 : 0 ≤ rr ∧ rr < sRn (yS Y)) (t : Nat) (M1 : zM) (F1 : Nat → Int) (i mo : Int) (x5 : Option Value), sDn (yS Y) - i = t → 0 ≤ i ∧ i ≤ sDn (yS Y) → M1 (A 1) = some (zar γ 5987 g) → hMf γ M1 A F1 Y → F1 8 = 0 → mAll A M M1 → zR mo → ((zhdn (yS Y) (rC (sRd (yS Y) rr.toNat)) i.toNat).1 ≠ -1 → mo = (zhdn (yS Y) (rC (sRd (yS Y) rr.toNat)) i.toNat).2) → ((zhdn (yS Y) (rC (sRd (yS Y) rr.toNat)) i.toNat).1 = -1 → mo = -1) → zAW p l e { frames := 10, cells := 0, slots := 0, locals := 330 } s m args below meth c γ 6 Q M1 0 0 17 [some (.ref (A 0)), some (.int (zi rr)), some (.int (zi (zhdn (yS Y) (rC (sRd (yS Y) rr.toNat)) i.toNat).1)), some (.int (zi mo)), some (.int (zi i)), x5] [] := by
    intro c1 t
    induction t with
    | zero =>
      intro M1 F1 i mo x5 ht hi hM1 hF1 e8 hal rl hmo hmn
      obtain rfl : i = sDn (yS Y) := by omega
      have hO1 := hF1.1.1
      refine z_iload C dX9_hardestDocument_17 rfl ?_
      refine z_aload_n C dX9_hardestDocument_19 rfl ?_
      refine z_get C dX9_hardestDocument_20 fl_X9_7 (by first | assumption | ((repeat (first | assumption | exact va_up_self _ _ _ | refine (va_up_ne _ _ (by first | assumption | exact hA.ne (by decide) | exact hA.ne (by omega))).trans ?_)); done)) rfl ?_
      refine z_iconst C dX9_hardestDocument_23 ?_
      refine z_aldN C dX9_hardestDocument_24 (by first | assumption | ((repeat (first | assumption | exact va_up_self _ _ _ | refine (va_up_ne _ _ (by first | assumption | exact hA.ne (by decide) | exact hA.ne (by omega))).trans ?_)); done)) (by omega) (by omega) (by assumption) (fun hr24 => ?_)
      rw [show g (1 : Int).toNat = sDn (yS Y) from hS.2.2.1]
      refine z_icmp_geZ (tgt := 73) C dX9_hardestDocument_25 (by decide) (by omega) (by omega) (fun h25 => ?_) (fun h25 => ?_)
      · refine z_iload_n C dX9_hardestDocument_73 rfl ?_
        refine z_iret C hQ dX9_hardestDocument_74 rfl (by decide) (by decide) ?_
        exact mAns.ok hA hF1 hal e8 (by rw [q_hardestDocument, mqR_t c1]) rfl
      · exact absurd h25 (by omega)
    | succ t ih =>
      intro M1 F1 i mo x5 ht hi hM1 hF1 e8 hal rl hmo hmn
      have hO1 := hF1.1.1
      have hR := hS.rd hY (r := rr) (d := i) c1 (by omega)
      have hX := hY.2.1 i.toNat (by omega)
      have gr := zgf_rng (c := rC (sRd (yS Y) rr.toNat)) hX
      obtain ⟨b1, b2, b3⟩ := zHard (S := yS Y) (c := rC (sRd (yS Y) rr.toNat)) i.toNat (fun j hj => hY.2.1 j (by omega))
      unfold zR at rl
      have cs : (zhdn (yS Y) (rC (sRd (yS Y) rr.toNat)) i.toNat).2 < zgf (rC (sRd (yS Y) rr.toNat)) (sDc (yS Y) i.toNat) ↔ mo < zgf (rC (sRd (yS Y) rr.toNat)) (sDc (yS Y) i.toNat) := by
        by_cases w : (zhdn (yS Y) (rC (sRd (yS Y) rr.toNat)) i.toNat).1 = -1
        · have := b2 w
          have := hmn w
          omega
        · have := hmo w
          omega
      have qq := fun M2 F2 mo x5 => ih M2 F2 (i + 1) mo x5 (by omega) (by omega)
      rw [show (i + 1).toNat = i.toNat + 1 by omega, zhdn, show ((i.toNat : Nat) : Int) = i by omega] at qq
      refine z_iload C dX9_hardestDocument_17 rfl ?_
      refine z_aload_n C dX9_hardestDocument_19 rfl ?_
      refine z_get C dX9_hardestDocument_20 fl_X9_7 (by first | assumption | ((repeat (first | assumption | exact va_up_self _ _ _ | refine (va_up_ne _ _ (by first | assumption | exact hA.ne (by decide) | exact hA.ne (by omega))).trans ?_)); done)) rfl ?_
      refine z_iconst C dX9_hardestDocument_23 ?_
      refine z_aldN C dX9_hardestDocument_24 (by first | assumption | ((repeat (first | assumption | exact va_up_self _ _ _ | refine (va_up_ne _ _ (by first | assumption | exact hA.ne (by decide) | exact hA.ne (by omega))).trans ?_)); done)) (by omega) (by omega) (by assumption) (fun hr24 => ?_)
      rw [show g (1 : Int).toNat = sDn (yS Y) from hS.2.2.1]
      refine z_icmp_geZ (tgt := 73) C dX9_hardestDocument_25 (by decide) (by omega) (by omega) (fun h25 => ?_) (fun h25 => ?_)
      · exact absurd h25 (by omega)
      · refine z_aload_n C dX9_hardestDocument_28 rfl ?_
        refine z_aload_n C dX9_hardestDocument_29 rfl ?_
        refine z_get C dX9_hardestDocument_30 fl_X9_7 (by first | assumption | ((repeat (first | assumption | exact va_up_self _ _ _ | refine (va_up_ne _ _ (by first | assumption | exact hA.ne (by decide) | exact hA.ne (by omega))).trans ?_)); done)) rfl ?_
        refine z_iload_n C dX9_hardestDocument_33 rfl ?_
        refine z_iload C dX9_hardestDocument_34 rfl ?_
        refine z_callV C dX9_hardestDocument_36 lk_X9_345 mw_X9_guesses mi_X9_guesses ms_X9_guesses rfl hF1.1.1 (k_X9_guesses hA hF1.1 (kq := 1) (.inl rfl) hM1 hR) rfl (by first | decide | exact Nat.le_of_ble_eq_true rfl) ⟨by decide, by decide, by decide, by decide⟩ (fun _ _ h => False.elim h) (fun v M' hp => ?_)
        obtain ⟨rfl, fa, Fa, pa, sa⟩ := hp
        refine z_istore C dX9_hardestDocument_39 (by decide) ?_
        refine z_iload C dX9_hardestDocument_41 rfl ?_
        refine z_iload_n C dX9_hardestDocument_43 rfl ?_
        refine z_icmp_leZ (tgt := 52) C dX9_hardestDocument_44 (by decide) (by omega) (by omega) (fun h44 => ?_) (fun h44 => ?_)
        · refine z_iload_n C dX9_hardestDocument_52 rfl ?_
          refine z_istore_n C dX9_hardestDocument_53 (by decide) ?_
          refine z_iload C dX9_hardestDocument_54 rfl ?_
          refine z_iload_n C dX9_hardestDocument_56 rfl ?_
          refine z_icmp_leZ (tgt := 65) C dX9_hardestDocument_57 (by decide) (by omega) (by omega) (fun h57 => ?_) (fun h57 => ?_)
          · refine z_iload_n C dX9_hardestDocument_65 rfl ?_
            refine z_istore_n C dX9_hardestDocument_66 (by decide) ?_
            refine z_iincZ C dX9_hardestDocument_67 rfl (by decide) ?_
            refine z_goto (tgt := 17) C dX9_hardestDocument_70 (by decide) ?_
            rw [if_neg (fun w => by have := cs.mp w; omega)] at qq
            exact qq _ Fa _ _ (fa.at hA (.of rfl) hM1) (hF1.q1 hA fa rfl pa rfl sa) ((pa 8 (by decide)).trans e8) (hal.tr fa ⟨rfl, rfl⟩) rl hmo hmn
          · exact absurd h57 (by omega)
        · refine z_iload C dX9_hardestDocument_47 rfl ?_
          refine z_goto (tgt := 53) C dX9_hardestDocument_49 (by decide) ?_
          refine z_istore_n C dX9_hardestDocument_53 (by decide) ?_
          refine z_iload C dX9_hardestDocument_54 rfl ?_
          refine z_iload_n C dX9_hardestDocument_56 rfl ?_
          refine z_icmp_leZ (tgt := 65) C dX9_hardestDocument_57 (by decide) (by omega) (by omega) (fun h57 => ?_) (fun h57 => ?_)
          · exact absurd h57 (by omega)
          · refine z_iload C dX9_hardestDocument_60 rfl ?_
            refine z_goto (tgt := 66) C dX9_hardestDocument_62 (by decide) ?_
            refine z_istore_n C dX9_hardestDocument_66 (by decide) ?_
            refine z_iincZ C dX9_hardestDocument_67 rfl (by decide) ?_
            refine z_goto (tgt := 17) C dX9_hardestDocument_70 (by decide) ?_
            rw [if_pos (cs.mpr (by omega))] at qq
            exact qq _ Fa _ _ (fa.at hA (.of rfl) hM1) (hF1.q1 hA fa rfl pa rfl sa) ((pa 8 (by decide)).trans e8) (hal.tr fa ⟨rfl, rfl⟩) (by unfold zR; omega) (fun _ => rfl) (fun w => absurd w (show i ≠ -1 by omega))
  refine z_aload_n C dX9_hardestDocument_0 rfl ?_
  refine z_iload_n C dX9_hardestDocument_1 rfl ?_
  refine z_callV C dX9_hardestDocument_2 lk_X9_295 mw_X9_noReader mi_X9_noReader ms_X9_noReader rfl (by first | assumption | ((repeat (first | assumption | exact va_up_self _ _ _ | refine (va_up_ne _ _ (by first | assumption | exact hA.ne (by decide) | exact hA.ne (by omega))).trans ?_)); done)) (k_X9_noReader hA hO hM hS hY r_rr) rfl (by first | decide | exact Nat.le_of_ble_eq_true rfl) ⟨by decide, by decide, by decide, by decide⟩ (fun _ _ h => False.elim h) (fun v M' hp => ?_)
  obtain ⟨r1, F1, rfl, f1, ob1, p1, e1, z1⟩ := hp
  have s1 := z1.rng
  have cf1 := f1
  have cp1 := p1
  have hM1 := cf1.at hA (.of rfl) hM
  refine z_if_eqZ (tgt := 10) C dX9_hardestDocument_5 (by decide) (by omega) (fun h5 => ?_) (fun h5 => ?_)
  · have t1 := Decidable.not_not.mp (z1.f h5)
    rw [t1] at e1
    obtain ⟨c1, -⟩ := mqR_0 t1
    have hF1 := hF.q0 hA cf1 ob1 cp1 rfl
    refine z_iconst C dX9_hardestDocument_10 ?_
    refine z_istore_n C dX9_hardestDocument_11 (by decide) ?_
    refine z_iconst C dX9_hardestDocument_12 ?_
    refine z_istore_n C dX9_hardestDocument_13 (by decide) ?_
    refine z_iconst C dX9_hardestDocument_14 ?_
    refine z_istore C dX9_hardestDocument_15 (by decide) ?_
    exact loop c1 (sDn (yS Y)).toNat _ F1 0 (-1) none (by omega) (by omega) hM1 hF1 e1 (cf1.mo rfl) (by unfold zR; omega) (fun w => absurd rfl w) (fun _ => rfl)
  · refine z_iconst C dX9_hardestDocument_8 ?_
    refine z_iret C hQ dX9_hardestDocument_9 rfl (by decide) (by decide) ?_
    exact mAns.no hA hF cf1 ob1 cp1 e1 (z1.t h5) (mqR_1 rfl)
set_option maxHeartbeats 4000000 in
set_option maxRecDepth 100000 in
theorem m_yearsToForget {l : Launch} {γ : zG} {M : zM} {A : Nat → Nat} {Y : zSys} {t0 : Int} {rr : Int} (hMo0 : hMo γ M A Y t0) (hY : zOk (yS Y)) (r_rr : zR rr) :
    zCon l γ yX9_yearsToForget cX9_yearsToForget 5 (some .int) [.ref (A 0), .int (zi rr)] M 10 330 0 0 (mAns γ A M Y (q_yearsToForget (yS Y) rr)) (fun _ _ => False) := by
  obtain ⟨hA, F, h8, hF⟩ := hMo0
  obtain ⟨hsc, hec, hun, hsl, hinp, hou, ⟨g, hM, hS⟩, hrs⟩ := id hF
  have hO := hsc.1
  have hg := hS.1
  have o1 := hY.1
  have z_rr := r_rr
  unfold zR at z_rr
  refine zEnter [some (.ref (A 0)), some (.int (zi rr)), none, none, none] (by decide +kernel) rfl rfl (Nat.le_of_ble_eq_true rfl) ?_
  intro p e s m args below meth c Q C hin hQ
  have halve : ∀ (c1 : 0 ≤ rr ∧ rr < sRn (yS Y)) (t : Nat) (M1 : zM) (F1 : Nat → Int) (y m1 : Int) (x4 : Option Value), 0 ≤ y ∧ y ≤ 10 → (0 ≤ m1 ∧ m1 ≤ 999) ∧ m1 < 2 ^ t → y + zyh t m1 = zyh 10 (zmx (rC (sRd (yS Y) rr.toNat))) → y + t ≤ 10 → hMf γ M1 A F1 Y → F1 8 = 0 → mAll A M M1 → zAW p l e { frames := 10, cells := 0, slots := 0, locals := 330 } s m args below meth c γ 5 Q M1 0 0 65 [some (.ref (A 0)), some (.int (zi rr)), some (.int (zi m1)), some (.int (zi y)), x4] [] := by
    intro c1 t
    induction t with
    | zero =>
      intro M1 F1 y m1 x4 hy hm he ht hF1 e8 hal
      have hm2 := hm.2
      have he : y + 0 = zyh 10 (zmx (rC (sRd (yS Y) rr.toNat))) := he
      have hm2 : m1 < 1 := hm2
      refine z_iload_n C dX9_yearsToForget_65 rfl ?_
      refine z_if_leZ (tgt := 79) C dX9_yearsToForget_66 (by decide) (by omega) (fun h66 => ?_) (fun h66 => ?_)
      · refine z_iload_n C dX9_yearsToForget_79 rfl ?_
        refine z_iret C hQ dX9_yearsToForget_80 rfl (by decide) (by decide) ?_
        exact mAns.ok hA hF1 hal e8 (by rw [q_yearsToForget, mqR_t c1]) (by rw [← he, Int.add_zero])
      · exact absurd h66 (by omega)
    | succ t ih =>
      intro M1 F1 y m1 x4 hy hm he ht hF1 e8 hal
      have hm2 := hm.2
      rw [Int.pow_succ] at hm2
      have he : y + (if 0 < m1 then zyh t (m1 / 2) + 1 else 0) = zyh 10 (zmx (rC (sRd (yS Y) rr.toNat))) := he
      refine z_iload_n C dX9_yearsToForget_65 rfl ?_
      refine z_if_leZ (tgt := 79) C dX9_yearsToForget_66 (by decide) (by omega) (fun h66 => ?_) (fun h66 => ?_)
      · refine z_iload_n C dX9_yearsToForget_79 rfl ?_
        refine z_iret C hQ dX9_yearsToForget_80 rfl (by decide) (by decide) ?_
        rw [if_neg (by omega), Int.add_zero] at he
        exact mAns.ok hA hF1 hal e8 (by rw [q_yearsToForget, mqR_t c1]) (by rw [← he])
      · refine z_iincZ C dX9_yearsToForget_69 rfl (by decide) ?_
        refine z_iload_n C dX9_yearsToForget_72 rfl ?_
        refine z_iconst C dX9_yearsToForget_73 ?_
        refine z_idivZ C dX9_yearsToForget_74 (by omega) (by omega) ?_
        refine z_istore_n C dX9_yearsToForget_75 (by decide) ?_
        refine z_goto (tgt := 65) C dX9_yearsToForget_76 (by decide) ?_
        rw [if_pos (by omega)] at he
        exact ih _ F1 (y + 1) (m1 / 2) _ (by omega) ⟨by omega, by omega⟩ (by omega) (by omega) hF1 e8 hal
  have loop : ∀ (c1 : 0 ≤ rr ∧ rr < sRn (yS Y)) (t : Nat) (M1 : zM) (F1 : Nat → Int) (i mo : Int) (x4 : Option Value), mMa g rr - i = t → 0 ≤ i ∧ i ≤ mMa g rr → M1 (A 1) = some (zar γ 5987 g) → hMf γ M1 A F1 Y → F1 8 = 0 → mAll A M M1 → (0 ≤ mo ∧ mo ≤ 999) → (∀ j : Int, 0 ≤ j → j < i → mVa g rr j ≤ mo) → (mo = 0 ∨ ∃ j : Int, 0 ≤ j ∧ j < i ∧ mVa g rr j = mo) → zAW p l e { frames := 10, cells := 0, slots := 0, locals := 330 } s m args below meth c γ 5 Q M1 0 0 14 [some (.ref (A 0)), some (.int (zi rr)), some (.int (zi mo)), some (.int (zi i)), x4] [] := by
    intro c1 t
    have hSr := hS.r c1
    obtain ⟨l1, l2, l3, l4⟩ := id hSr.2.2.2.2
    induction t with
    | zero =>
      intro M1 F1 i mo x4 ht hi hM1 hF1 e8 hal rm h1 h2
      obtain rfl : i = mMa g rr := by omega
      have hO1 := hF1.1.1
      have hgr : zGr (rC (sRd (yS Y) rr.toNat)) mo := by
        refine ⟨rm.1, fun k => ?_, ?_⟩
        · by_cases e : rC (sRd (yS Y) rr.toNat) k = 0
          · omega
          · obtain ⟨j, a1, a2, a3⟩ := l4 k e
            have := (l2 j a1 a2).2.2
            rw [a3] at this
            rw [this]
            exact h1 j a1 a2
        · rcases h2 with h2 | ⟨j, a1, a2, a3⟩
          · exact .inl h2
          · exact .inr ⟨mKe g rr j, by rw [(l2 j a1 a2).2.2, a3]⟩
      have hm := zGr_eq (fun k hk => by
        obtain ⟨j, a1, a2, a3⟩ := l4 k hk
        rw [← a3]
        exact sG_rng (l2 j a1 a2).1) hgr
      refine z_iload_n C dX9_yearsToForget_14 rfl ?_
      refine z_aload_n C dX9_yearsToForget_15 rfl ?_
      refine z_get C dX9_yearsToForget_16 fl_X9_7 (by first | assumption | ((repeat (first | assumption | exact va_up_self _ _ _ | refine (va_up_ne _ _ (by first | assumption | exact hA.ne (by decide) | exact hA.ne (by omega))).trans ?_)); done)) rfl ?_
      refine z_iload_n C dX9_yearsToForget_19 rfl ?_
      refine z_callS C dX9_yearsToForget_20 lk_X9_92 mw_X9_atReader mst_X9_atReader k_X9_atReader rfl (by first | decide | exact Nat.le_of_ble_eq_true rfl) ⟨by decide, by decide, by decide, by decide⟩ (fun _ _ h => False.elim h) (fun v M' hp => ?_)
      obtain ⟨rfl, rfl⟩ := hp
      refine z_bipush C dX9_yearsToForget_23 (by decide) ?_
      refine z_iaddZ C dX9_yearsToForget_25 ?_
      refine z_aldN C dX9_yearsToForget_26 (by first | assumption | ((repeat (first | assumption | exact va_up_self _ _ _ | refine (va_up_ne _ _ (by first | assumption | exact hA.ne (by decide) | exact hA.ne (by omega))).trans ?_)); done)) (by omega) (by omega) (by assumption) (fun hr26 => ?_)
      rw [show g (339 + 1412 * rr + 11).toNat = mMa g rr from rfl]
      refine z_icmp_geZ (tgt := 63) C dX9_yearsToForget_27 (by decide) (by omega) (by omega) (fun h27 => ?_) (fun h27 => ?_)
      · refine z_iconst C dX9_yearsToForget_63 ?_
        refine z_istore_n C dX9_yearsToForget_64 (by decide) ?_
        exact halve c1 10 _ F1 0 mo _ (by omega) ⟨rm, by have p10 : (2 : Int) ^ 10 = 1024 := (by decide); rw [p10]; omega⟩ (by rw [← hm]; omega) (by omega) hF1 e8 hal
      · exact absurd h27 (by omega)
    | succ t ih =>
      intro M1 F1 i mo x4 ht hi hM1 hF1 e8 hal rm h1 h2
      have hO1 := hF1.1.1
      have rv := (l2 i hi.1 (by omega)).2.1
      refine z_iload_n C dX9_yearsToForget_14 rfl ?_
      refine z_aload_n C dX9_yearsToForget_15 rfl ?_
      refine z_get C dX9_yearsToForget_16 fl_X9_7 (by first | assumption | ((repeat (first | assumption | exact va_up_self _ _ _ | refine (va_up_ne _ _ (by first | assumption | exact hA.ne (by decide) | exact hA.ne (by omega))).trans ?_)); done)) rfl ?_
      refine z_iload_n C dX9_yearsToForget_19 rfl ?_
      refine z_callS C dX9_yearsToForget_20 lk_X9_92 mw_X9_atReader mst_X9_atReader k_X9_atReader rfl (by first | decide | exact Nat.le_of_ble_eq_true rfl) ⟨by decide, by decide, by decide, by decide⟩ (fun _ _ h => False.elim h) (fun v M' hp => ?_)
      obtain ⟨rfl, rfl⟩ := hp
      refine z_bipush C dX9_yearsToForget_23 (by decide) ?_
      refine z_iaddZ C dX9_yearsToForget_25 ?_
      refine z_aldN C dX9_yearsToForget_26 (by first | assumption | ((repeat (first | assumption | exact va_up_self _ _ _ | refine (va_up_ne _ _ (by first | assumption | exact hA.ne (by decide) | exact hA.ne (by omega))).trans ?_)); done)) (by omega) (by omega) (by assumption) (fun hr26 => ?_)
      rw [show g (339 + 1412 * rr + 11).toNat = mMa g rr from rfl]
      refine z_icmp_geZ (tgt := 63) C dX9_yearsToForget_27 (by decide) (by omega) (by omega) (fun h27 => ?_) (fun h27 => ?_)
      · exact absurd h27 (by omega)
      · refine z_aload_n C dX9_yearsToForget_30 rfl ?_
        refine z_get C dX9_yearsToForget_31 fl_X9_7 (by first | assumption | ((repeat (first | assumption | exact va_up_self _ _ _ | refine (va_up_ne _ _ (by first | assumption | exact hA.ne (by decide) | exact hA.ne (by omega))).trans ?_)); done)) rfl ?_
        refine z_iload_n C dX9_yearsToForget_34 rfl ?_
        refine z_iload_n C dX9_yearsToForget_35 rfl ?_
        refine z_callS C dX9_yearsToForget_36 lk_X9_95 mw_X9_entryAt mst_X9_entryAt k_X9_entryAt rfl (by first | decide | exact Nat.le_of_ble_eq_true rfl) ⟨by decide, by decide, by decide, by decide⟩ (fun _ _ h => False.elim h) (fun v M' hp => ?_)
        obtain ⟨rfl, rfl⟩ := hp
        refine z_iconst C dX9_yearsToForget_39 ?_
        refine z_iaddZ C dX9_yearsToForget_40 ?_
        refine z_aldN C dX9_yearsToForget_41 (by first | assumption | ((repeat (first | assumption | exact va_up_self _ _ _ | refine (va_up_ne _ _ (by first | assumption | exact hA.ne (by decide) | exact hA.ne (by omega))).trans ?_)); done)) (by omega) (by omega) (by assumption) (fun hr41 => ?_)
        rw [show g (339 + 1412 * rr + 12 + 2 * i + 1).toNat = mVa g rr i from rfl]
        refine z_istore C dX9_yearsToForget_42 (by decide) ?_
        refine z_iload C dX9_yearsToForget_44 rfl ?_
        refine z_iload_n C dX9_yearsToForget_46 rfl ?_
        refine z_icmp_leZ (tgt := 55) C dX9_yearsToForget_47 (by decide) (by omega) (by omega) (fun h47 => ?_) (fun h47 => ?_)
        · refine z_iload_n C dX9_yearsToForget_55 rfl ?_
          refine z_istore_n C dX9_yearsToForget_56 (by decide) ?_
          refine z_iincZ C dX9_yearsToForget_57 rfl (by decide) ?_
          refine z_goto (tgt := 14) C dX9_yearsToForget_60 (by decide) ?_
          refine ih _ F1 (i + 1) mo _ (by omega) (by omega) hM1 hF1 e8 hal rm (fun j a1 a2 => ?_) ?_
          · by_cases w : j = i
            · rw [w]; omega
            · exact h1 j a1 (by omega)
          · rcases h2 with h2 | ⟨j, a1, a2, a3⟩
            · exact .inl h2
            · exact .inr ⟨j, a1, by omega, a3⟩
        · refine z_iload C dX9_yearsToForget_50 rfl ?_
          refine z_goto (tgt := 56) C dX9_yearsToForget_52 (by decide) ?_
          refine z_istore_n C dX9_yearsToForget_56 (by decide) ?_
          refine z_iincZ C dX9_yearsToForget_57 rfl (by decide) ?_
          refine z_goto (tgt := 14) C dX9_yearsToForget_60 (by decide) ?_
          refine ih _ F1 (i + 1) (mVa g rr i) _ (by omega) (by omega) hM1 hF1 e8 hal (by omega) (fun j a1 a2 => ?_) (.inr ⟨i, hi.1, by omega, rfl⟩)
          by_cases w : j = i
          · rw [w]; exact Int.le_refl _
          · have := h1 j a1 (by omega)
            omega
  refine z_aload_n C dX9_yearsToForget_0 rfl ?_
  refine z_iload_n C dX9_yearsToForget_1 rfl ?_
  refine z_callV C dX9_yearsToForget_2 lk_X9_295 mw_X9_noReader mi_X9_noReader ms_X9_noReader rfl (by first | assumption | ((repeat (first | assumption | exact va_up_self _ _ _ | refine (va_up_ne _ _ (by first | assumption | exact hA.ne (by decide) | exact hA.ne (by omega))).trans ?_)); done)) (k_X9_noReader hA hO hM hS hY r_rr) rfl (by first | decide | exact Nat.le_of_ble_eq_true rfl) ⟨by decide, by decide, by decide, by decide⟩ (fun _ _ h => False.elim h) (fun v M' hp => ?_)
  obtain ⟨r1, F1, rfl, f1, ob1, p1, e1, z1⟩ := hp
  have s1 := z1.rng
  have cf1 := f1
  have cp1 := p1
  have hM1 := cf1.at hA (.of rfl) hM
  refine z_if_eqZ (tgt := 10) C dX9_yearsToForget_5 (by decide) (by omega) (fun h5 => ?_) (fun h5 => ?_)
  · have t1 := Decidable.not_not.mp (z1.f h5)
    rw [t1] at e1
    obtain ⟨c1, -⟩ := mqR_0 t1
    have hF1 := hF.q0 hA cf1 ob1 cp1 rfl
    have ll := (hS.r c1).2.2.2.2.1
    refine z_iconst C dX9_yearsToForget_10 ?_
    refine z_istore_n C dX9_yearsToForget_11 (by decide) ?_
    refine z_iconst C dX9_yearsToForget_12 ?_
    refine z_istore_n C dX9_yearsToForget_13 (by decide) ?_
    exact loop c1 (mMa g rr).toNat _ F1 0 0 none (by omega) (by omega) hM1 hF1 e1 (cf1.mo rfl) (by omega) (fun j a1 a2 => by omega) (.inl rfl)
  · refine z_iconst C dX9_yearsToForget_8 ?_
    refine z_iret C hQ dX9_yearsToForget_9 rfl (by decide) (by decide) ?_
    exact mAns.no hA hF cf1 ob1 cp1 e1 (z1.t h5) (mqR_1 rfl)

