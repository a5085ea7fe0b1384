/-! the model's questions: names, counts, contexts -/
theorem mLe_nm {R : zRdr} (h : zRok R) {i : Int} (hi : 0 ≤ i ∧ i ≤ 3) : mLe (mNm R) i = if i < rNl R then rNm R i.toNat - 96 else 0 := by
  obtain ⟨-, r1, -, r2⟩ := h
  unfold mLe mNm
  rw [mNf_4]
  have c0 := mNc (nl := rNl R) r2 0
  have c1 := mNc (nl := rNl R) r2 1
  have c2 := mNc (nl := rNl R) r2 2
  have c3 := mNc (nl := rNl R) r2 3
  simp only [show ((0 : Nat) : Int) = 0 from rfl, show ((1 : Nat) : Int) = 1 from rfl, show ((2 : Nat) : Int) = 2 from rfl, show ((3 : Nat) : Int) = 3 from rfl] at c0 c1 c2 c3
  have : i = 0 ∨ i = 1 ∨ i = 2 ∨ i = 3 := by omega
  rcases this with rfl | rfl | rfl | rfl
  · show mLf _ 3 % 27 = (if (0 : Int) < rNl R then rNm R 0 - 96 else 0)
    unfold mLf mLf mLf mLf
    omega
  · show mLf _ 2 % 27 = (if (1 : Int) < rNl R then rNm R 1 - 96 else 0)
    unfold mLf mLf mLf
    omega
  · show mLf _ 1 % 27 = (if (2 : Int) < rNl R then rNm R 2 - 96 else 0)
    unfold mLf mLf
    omega
  · show mLf _ 0 % 27 = (if (3 : Int) < rNl R then rNm R 3 - 96 else 0)
    unfold mLf
    omega
theorem mNm_rng {R : zRdr} (h : zRok R) : 0 ≤ mNm R ∧ mNm R ≤ 531440 := by
  obtain ⟨-, r1, -, r2⟩ := h
  unfold mNm
  rw [mNf_4]
  have c0 := mNc (nl := rNl R) r2 0
  have c1 := mNc (nl := rNl R) r2 1
  have c2 := mNc (nl := rNl R) r2 2
  have c3 := mNc (nl := rNl R) r2 3
  simp only [show ((0 : Nat) : Int) = 0 from rfl, show ((1 : Nat) : Int) = 1 from rfl, show ((2 : Nat) : Int) = 2 from rfl, show ((3 : Nat) : Int) = 3 from rfl] at c0 c1 c2 c3
  omega
set_option maxHeartbeats 4000000 in
set_option maxRecDepth 100000 in
theorem k_X9_lettersOf {l : Launch} {γ : zG} {M : zM} {R0 : zRdr} (h : zRok R0) :
    zCon l γ yX9_lettersOf cX9_lettersOf 2 (some .int) [.int (zi (mNm R0))] M 1 25 0 0 (fun v' M' => v' = some (.int (zi (rNl R0))) ∧ M' = M) (fun _ _ => False) := by
  have hr := mNm_rng h
  have r1 := h.2.1
  have hle := fun i hi => @mLe_nm R0 h i hi
  have r2 := h.2.2.2
  refine zEnter [some (.int (zi (mNm R0))), none] (by decide +kernel) rfl rfl (Nat.le_of_ble_eq_true rfl) ?_
  intro p e s m args below meth c Q C hin hQ
  have loop : ∀ (t : Nat) (k : Int), rNl R0 - k = t → 0 ≤ k → zAW p l e { frames := 1, cells := 0, slots := 0, locals := 25 } s m args below meth c γ 2 Q M 0 0 2 [some (.int (zi (mNm R0))), some (.int (zi k))] [] := by
    intro t
    induction t with
    | zero =>
      intro k ht hk
      obtain rfl : k = rNl R0 := by omega
      refine z_iload_n C dX9_lettersOf_2 rfl ?_
      refine z_iconst C dX9_lettersOf_3 ?_
      refine z_icmp_geZ (tgt := 21) C dX9_lettersOf_4 (by decide) (by omega) (by omega) (fun h4 => ?_) (fun h4 => ?_)
      · refine z_iload_n C dX9_lettersOf_21 rfl ?_
        refine z_iret C hQ dX9_lettersOf_22 rfl (by decide) (by decide) ?_
        exact ⟨rfl, rfl⟩
      · refine z_iload_n C dX9_lettersOf_7 rfl ?_
        refine z_iload_n C dX9_lettersOf_8 rfl ?_
        refine z_callS C dX9_lettersOf_9 lk_X9_310 mw_X9_letterOf mst_X9_letterOf (k_X9_letterOf (x := mNm R0) (i := rNl R0) (by omega) (by omega)) rfl (by first | decide | exact Nat.le_of_ble_eq_true rfl) ⟨by decide, by decide, by decide, by decide⟩ (fun _ _ h => False.elim h) (fun v M' hp => ?_)
        obtain ⟨rfl, rfl⟩ := hp
        rw [hle _ (by omega), if_neg (by omega)]
        refine z_if_leZ (tgt := 21) C dX9_lettersOf_12 (by decide) (by omega) (fun h12 => ?_) (fun h12 => ?_)
        · refine z_iload_n C dX9_lettersOf_21 rfl ?_
          refine z_iret C hQ dX9_lettersOf_22 rfl (by decide) (by decide) ?_
          exact ⟨rfl, rfl⟩
        · exact absurd h12 (by omega)
    | succ t ih =>
      intro k ht hk
      have l2 := r2 k.toNat (by omega)
      unfold zLet at l2
      refine z_iload_n C dX9_lettersOf_2 rfl ?_
      refine z_iconst C dX9_lettersOf_3 ?_
      refine z_icmp_geZ (tgt := 21) C dX9_lettersOf_4 (by decide) (by omega) (by omega) (fun h4 => ?_) (fun h4 => ?_)
      · exact absurd h4 (by omega)
      · refine z_iload_n C dX9_lettersOf_7 rfl ?_
        refine z_iload_n C dX9_lettersOf_8 rfl ?_
        refine z_callS C dX9_lettersOf_9 lk_X9_310 mw_X9_letterOf mst_X9_letterOf (k_X9_letterOf (x := mNm R0) (i := k) (by omega) (by omega)) rfl (by first | decide | exact Nat.le_of_ble_eq_true rfl) ⟨by decide, by decide, by decide, by decide⟩ (fun _ _ h => False.elim h) (fun v M' hp => ?_)
        obtain ⟨rfl, rfl⟩ := hp
        rw [hle _ (by omega), if_pos (by omega)]
        refine z_if_leZ (tgt := 21) C dX9_lettersOf_12 (by decide) (by omega) (fun h12 => ?_) (fun h12 => ?_)
        · exact absurd h12 (by omega)
        · refine z_iincZ C dX9_lettersOf_15 rfl (by decide) ?_
          refine z_goto (tgt := 2) C dX9_lettersOf_18 (by decide) ?_
          exact ih (k + 1) (by omega) (by omega)
  refine z_iconst C dX9_lettersOf_0 ?_
  refine z_istore_n C dX9_lettersOf_1 (by decide) ?_
  exact loop (rNl R0).toNat 0 (by omega) (by omega)
theorem mOut {x a b : Int} (h : (if a ≤ x ∧ x ≤ b then (0 : Int) else 2) = 0) : a ≤ x ∧ x ≤ b := by
  by_cases e : a ≤ x ∧ x ≤ b
  · exact e
  · rw [if_neg e] at h
    cases h
theorem mOut_q {x a b : Int} {P : Prop} (h : P ↔ (a ≤ x ∧ x ≤ b)) {v : Int} : (zq2 P (0, v)).1 = if a ≤ x ∧ x ≤ b then (0 : Int) else 2 := by
  by_cases e : P
  · rw [mq2_t e, if_pos (h.mp e)]
  · rw [mq2_f e, if_neg (fun w => e (h.mpr w))]
set_option maxHeartbeats 4000000 in
set_option maxRecDepth 100000 in
theorem m_readerNameByte {l : Launch} {γ : zG} {M : zM} {A : Nat → Nat} {Y : zSys} {t0 : Int} {rr ii : Int} (hMo0 : hMo γ M A Y t0) (hY : zOk (yS Y)) (r_rr : zR rr) (r_ii : zR ii) :
    zCon l γ yX9_readerNameByte cX9_readerNameByte 3 (some .int) [.ref (A 0), .int (zi rr), .int (zi ii)] M 10 330 0 0 (mAns γ A M Y (q_readerNameByte (yS Y) rr ii)) (fun _ _ => False) := by
  obtain ⟨hA, F, h8, hF⟩ := hMo0
  obtain ⟨hsc, hec, hun, hsl, hinp, hou, ⟨g, hM, hS⟩, hrs⟩ := id hF
  have hO := hsc.1
  have hg := hS.1
  have o1 := hY.1
  have z_rr := r_rr
  unfold zR at z_rr
  have z_ii := r_ii
  unfold zR at z_ii
  refine zEnter [some (.ref (A 0)), some (.int (zi rr)), some (.int (zi ii))] (by decide +kernel) rfl rfl (Nat.le_of_ble_eq_true rfl) ?_
  intro p e s m args below meth c Q C hin hQ
  refine z_aload_n C dX9_readerNameByte_0 rfl ?_
  refine z_iload_n C dX9_readerNameByte_1 rfl ?_
  refine z_callV C dX9_readerNameByte_2 lk_X9_295 mw_X9_noReader mi_X9_noReader ms_X9_noReader rfl (by first | assumption | ((repeat (first | assumption | exact va_up_self _ _ _ | refine (va_up_ne _ _ (by first | assumption | exact hA.ne (by decide) | exact hA.ne (by omega))).trans ?_)); done)) (k_X9_noReader hA hO hM hS hY r_rr) rfl (by first | decide | exact Nat.le_of_ble_eq_true rfl) ⟨by decide, by decide, by decide, by decide⟩ (fun _ _ h => False.elim h) (fun v M' hp => ?_)
  obtain ⟨r1, F1, rfl, f1, ob1, p1, e1, z1⟩ := hp
  have s1 := z1.rng
  have cf1 := f1
  have cp1 := p1
  have hM1 := cf1.at hA (.of rfl) hM
  refine z_if_neZ (tgt := 33) C dX9_readerNameByte_5 (by decide) (by omega) (fun h5 => ?_) (fun h5 => ?_)
  · refine z_iconst C dX9_readerNameByte_33 ?_
    refine z_goto (tgt := 55) C dX9_readerNameByte_34 (by decide) ?_
    refine z_iret C hQ dX9_readerNameByte_55 rfl (by decide) (by decide) ?_
    exact mAns.no hA hF cf1 ob1 cp1 e1 (z1.t h5) (by rw [q_readerNameByte, mqR_f (fun w => z1.t h5 (by rw [mqR_t w])), mqR_f (fun w => z1.t h5 (by rw [mqR_t w]))])
  · have t1 := Decidable.not_not.mp (z1.f h5)
    rw [t1] at e1
    obtain ⟨c1, -⟩ := mqR_0 t1
    have hSr := hS.r c1
    have hRk := (hY.2.2 rr.toNat (by omega)).1
    have hNr := mNm_rng hRk
    have hNl := hRk.2.1
    refine z_aload_n C dX9_readerNameByte_8 rfl ?_
    refine z_iload_n C dX9_readerNameByte_9 rfl ?_
    refine z_iconst C dX9_readerNameByte_10 ?_
    refine z_aload_n C dX9_readerNameByte_11 rfl ?_
    refine z_get C dX9_readerNameByte_12 fl_X9_7 (by first | assumption | ((repeat (first | assumption | exact va_up_self _ _ _ | refine (va_up_ne _ _ (by first | assumption | exact hA.ne (by decide) | exact hA.ne (by omega))).trans ?_)); done)) rfl ?_
    refine z_iload_n C dX9_readerNameByte_15 rfl ?_
    refine z_callS C dX9_readerNameByte_16 lk_X9_92 mw_X9_atReader mst_X9_atReader k_X9_atReader rfl (by first | decide | exact Nat.le_of_ble_eq_true rfl) ⟨by decide, by decide, by decide, by decide⟩ (fun _ _ h => False.elim h) (fun v M' hp => ?_)
    obtain ⟨rfl, rfl⟩ := hp
    refine z_iconst C dX9_readerNameByte_19 ?_
    refine z_iaddZ C dX9_readerNameByte_20 ?_
    refine z_aldN C dX9_readerNameByte_21 (by first | assumption | ((repeat (first | assumption | exact va_up_self _ _ _ | refine (va_up_ne _ _ (by first | assumption | exact hA.ne (by decide) | exact hA.ne (by omega))).trans ?_)); done)) (by omega) (by omega) (by assumption) (fun hr21 => ?_)
    rw [Int.add_zero, hSr.1]
    refine z_callS C dX9_readerNameByte_22 lk_X9_313 mw_X9_lettersOf mst_X9_lettersOf (k_X9_lettersOf hRk) rfl (by first | decide | exact Nat.le_of_ble_eq_true rfl) ⟨by decide, by decide, by decide, by decide⟩ (fun _ _ h => False.elim h) (fun v M' hp => ?_)
    obtain ⟨rfl, rfl⟩ := hp
    refine z_iconst C dX9_readerNameByte_25 ?_
    refine z_isubZ C dX9_readerNameByte_26 ?_
    refine z_callV C dX9_readerNameByte_27 lk_X9_301 mw_X9_out mi_X9_out ms_X9_out rfl (by first | assumption | ((repeat (first | assumption | exact va_up_self _ _ _ | refine (va_up_ne _ _ (by first | assumption | exact hA.ne (by decide) | exact hA.ne (by omega))).trans ?_)); done)) (k_X9_out hA ob1 e1 (x := ii) (a := 0) (b := rNl (sRd (yS Y) rr.toNat) - 1) r_ii (by unfold zR; omega) (by unfold zR; omega)) rfl (by first | decide | exact Nat.le_of_ble_eq_true rfl) ⟨by decide, by decide, by decide, by decide⟩ (fun _ _ h => False.elim h) (fun v M' hp => ?_)
    obtain ⟨r2, F2, rfl, f2, ob2, p2, e2, z2⟩ := hp
    have s2 := z2.rng
    have cf2 := cf1.tr (K := [0]) f2 ⟨rfl, rfl⟩
    have cp2 := cp1.tr (K := [8]) p2 ⟨rfl, rfl⟩
    have hM2 := cf2.at hA (.of rfl) hM
    refine z_if_eqZ (tgt := 37) C dX9_readerNameByte_30 (by decide) (by omega) (fun h30 => ?_) (fun h30 => ?_)
    · have t2 := Decidable.not_not.mp (z2.f h30)
      rw [t2] at e2
      have t3 := mOut t2
      refine z_bipush C dX9_readerNameByte_37 (by decide) ?_
      refine z_aload_n C dX9_readerNameByte_39 rfl ?_
      refine z_get C dX9_readerNameByte_40 fl_X9_7 (by first | assumption | ((repeat (first | assumption | exact va_up_self _ _ _ | refine (va_up_ne _ _ (by first | assumption | exact hA.ne (by decide) | exact hA.ne (by omega))).trans ?_)); done)) rfl ?_
      refine z_iload_n C dX9_readerNameByte_43 rfl ?_
      refine z_callS C dX9_readerNameByte_44 lk_X9_92 mw_X9_atReader mst_X9_atReader k_X9_atReader rfl (by first | decide | exact Nat.le_of_ble_eq_true rfl) ⟨by decide, by decide, by decide, by decide⟩ (fun _ _ h => False.elim h) (fun v M' hp => ?_)
      obtain ⟨rfl, rfl⟩ := hp
      refine z_iconst C dX9_readerNameByte_47 ?_
      refine z_iaddZ C dX9_readerNameByte_48 ?_
      refine z_aldN C dX9_readerNameByte_49 (by first | assumption | ((repeat (first | assumption | exact va_up_self _ _ _ | refine (va_up_ne _ _ (by first | assumption | exact hA.ne (by decide) | exact hA.ne (by omega))).trans ?_)); done)) (by omega) (by omega) (by assumption) (fun hr49 => ?_)
      rw [Int.add_zero, hSr.1]
      refine z_iload_n C dX9_readerNameByte_50 rfl ?_
      refine z_callS C dX9_readerNameByte_51 lk_X9_310 mw_X9_letterOf mst_X9_letterOf (k_X9_letterOf (x := mNm (sRd (yS Y) rr.toNat)) (i := ii) (by omega) (by omega)) rfl (by first | decide | exact Nat.le_of_ble_eq_true rfl) ⟨by decide, by decide, by decide, by decide⟩ (fun _ _ h => False.elim h) (fun v M' hp => ?_)
      obtain ⟨rfl, rfl⟩ := hp
      rw [mLe_nm hRk (by omega), if_pos (by omega)]
      refine z_iaddZ C dX9_readerNameByte_54 ?_
      refine z_iret C hQ dX9_readerNameByte_55 rfl (by decide) (by decide) ?_
      exact mAns.ok hA (hF.q0 hA cf2 ob2 cp2 rfl) (cf2.mo rfl) e2 (by rw [q_readerNameByte, mqR_t c1, mq2_t (by omega)]) (by congr 1; omega)
    · refine z_iconst C dX9_readerNameByte_33 ?_
      refine z_goto (tgt := 55) C dX9_readerNameByte_34 (by decide) ?_
      refine z_iret C hQ dX9_readerNameByte_55 rfl (by decide) (by decide) ?_
      exact mAns.no hA hF cf2 ob2 cp2 e2 (z2.t h30) (by rw [q_readerNameByte, mqR_t c1]; exact mOut_q (by omega))
set_option maxHeartbeats 4000000 in
set_option maxRecDepth 100000 in
theorem m_documentSymbol {l : Launch} {γ : zG} {M : zM} {A : Nat → Nat} {Y : zSys} {t0 : Int} {dd ii : Int} (hMo0 : hMo γ M A Y t0) (hY : zOk (yS Y)) (r_dd : zR dd) (r_ii : zR ii) :
    zCon l γ yX9_documentSymbol cX9_documentSymbol 3 (some .int) [.ref (A 0), .int (zi dd), .int (zi ii)] M 10 330 0 0 (mAns γ A M Y (q_documentSymbol (yS Y) dd ii)) (fun _ _ => False) := by
  obtain ⟨hA, F, h8, hF⟩ := hMo0
  obtain ⟨hsc, hec, hun, hsl, hinp, hou, ⟨g, hM, hS⟩, hrs⟩ := id hF
  have hO := hsc.1
  have hg := hS.1
  have o1 := hY.1
  have z_dd := r_dd
  unfold zR at z_dd
  have z_ii := r_ii
  unfold zR at z_ii
  refine zEnter [some (.ref (A 0)), some (.int (zi dd)), some (.int (zi ii))] (by decide +kernel) rfl rfl (Nat.le_of_ble_eq_true rfl) ?_
  intro p e s m args below meth c Q C hin hQ
  refine z_aload_n C dX9_documentSymbol_0 rfl ?_
  refine z_iload_n C dX9_documentSymbol_1 rfl ?_
  refine z_callV C dX9_documentSymbol_2 lk_X9_298 mw_X9_noDocument mi_X9_noDocument ms_X9_noDocument rfl (by first | assumption | ((repeat (first | assumption | exact va_up_self _ _ _ | refine (va_up_ne _ _ (by first | assumption | exact hA.ne (by decide) | exact hA.ne (by omega))).trans ?_)); done)) (k_X9_noDocument hA hO hM hS hY r_dd) rfl (by first | decide | exact Nat.le_of_ble_eq_true rfl) ⟨by decide, by decide, by decide, by decide⟩ (fun _ _ h => False.elim h) (fun v M' hp => ?_)
  obtain ⟨r1, F1, rfl, f1, ob1, p1, e1, z1⟩ := hp
  have s1 := z1.rng
  have cf1 := f1
  have cp1 := p1
  have hM1 := cf1.at hA (.of rfl) hM
  refine z_if_neZ (tgt := 27) C dX9_documentSymbol_5 (by decide) (by omega) (fun h5 => ?_) (fun h5 => ?_)
  · refine z_iconst C dX9_documentSymbol_27 ?_
    refine z_goto (tgt := 40) C dX9_documentSymbol_28 (by decide) ?_
    refine z_iret C hQ dX9_documentSymbol_40 rfl (by decide) (by decide) ?_
    exact mAns.no hA hF cf1 ob1 cp1 e1 (z1.t h5) (by rw [q_documentSymbol, mqD_f (fun w => z1.t h5 (by rw [mqD_t w])), mqD_f (fun w => z1.t h5 (by rw [mqD_t w]))])
  · have t1 := Decidable.not_not.mp (z1.f h5)
    rw [t1] at e1
    obtain ⟨c1, -⟩ := mqD_0 t1
    have hSd := hS.d c1
    have hX := hY.2.1 dd.toNat (by omega)
    have hXl := hX.1
    refine z_aload_n C dX9_documentSymbol_8 rfl ?_
    refine z_iload_n C dX9_documentSymbol_9 rfl ?_
    refine z_iconst C dX9_documentSymbol_10 ?_
    refine z_aload_n C dX9_documentSymbol_11 rfl ?_
    refine z_get C dX9_documentSymbol_12 fl_X9_7 (by first | assumption | ((repeat (first | assumption | exact va_up_self _ _ _ | refine (va_up_ne _ _ (by first | assumption | exact hA.ne (by decide) | exact hA.ne (by omega))).trans ?_)); done)) rfl ?_
    refine z_iload_n C dX9_documentSymbol_15 rfl ?_
    refine z_callS C dX9_documentSymbol_16 lk_X9_114 mw_X9_lengthOf mst_X9_lengthOf (k_X9_lengthOf hM1 hg (by omega)) rfl (by first | decide | exact Nat.le_of_ble_eq_true rfl) ⟨by decide, by decide, by decide, by decide⟩ (fun _ _ h => False.elim h) (fun v M' hp => ?_)
    obtain ⟨rfl, rfl⟩ := hp
    rw [hSd.1.1]
    refine z_iconst C dX9_documentSymbol_19 ?_
    refine z_isubZ C dX9_documentSymbol_20 ?_
    refine z_callV C dX9_documentSymbol_21 lk_X9_301 mw_X9_out mi_X9_out ms_X9_out rfl (by first | assumption | ((repeat (first | assumption | exact va_up_self _ _ _ | refine (va_up_ne _ _ (by first | assumption | exact hA.ne (by decide) | exact hA.ne (by omega))).trans ?_)); done)) (k_X9_out hA ob1 e1 (x := ii) (a := 0) (b := dLe (sDc (yS Y) dd.toNat) - 1) r_ii (by unfold zR; omega) (by unfold zR; omega)) rfl (by first | decide | exact Nat.le_of_ble_eq_true rfl) ⟨by decide, by decide, by decide, by decide⟩ (fun _ _ h => False.elim h) (fun v M' hp => ?_)
    obtain ⟨r2, F2, rfl, f2, ob2, p2, e2, z2⟩ := hp
    have s2 := z2.rng
    have cf2 := cf1.tr (K := [0]) f2 ⟨rfl, rfl⟩
    have cp2 := cp1.tr (K := [8]) p2 ⟨rfl, rfl⟩
    have hM2 := cf2.at hA (.of rfl) hM
    refine z_if_eqZ (tgt := 31) C dX9_documentSymbol_24 (by decide) (by omega) (fun h24 => ?_) (fun h24 => ?_)
    · have t2 := Decidable.not_not.mp (z2.f h24)
      rw [t2] at e2
      have t3 := mOut t2
      refine z_aload_n C dX9_documentSymbol_31 rfl ?_
      refine z_get C dX9_documentSymbol_32 fl_X9_7 (by first | assumption | ((repeat (first | assumption | exact va_up_self _ _ _ | refine (va_up_ne _ _ (by first | assumption | exact hA.ne (by decide) | exact hA.ne (by omega))).trans ?_)); done)) rfl ?_
      refine z_iload_n C dX9_documentSymbol_35 rfl ?_
      refine z_iload_n C dX9_documentSymbol_36 rfl ?_
      refine z_callS C dX9_documentSymbol_37 lk_X9_103 mw_X9_symbolOf mst_X9_symbolOf (k_X9_symbolOf hM2 hg (d := dd) (i := ii) (by omega) (by omega)) rfl (by first | decide | exact Nat.le_of_ble_eq_true rfl) ⟨by decide, by decide, by decide, by decide⟩ (fun _ _ h => False.elim h) (fun v M' hp => ?_)
      obtain ⟨rfl, rfl⟩ := hp
      rw [hSd.1.sy (by omega), hAt_in (by omega)]
      refine z_iret C hQ dX9_documentSymbol_40 rfl (by decide) (by decide) ?_
      exact mAns.ok hA (hF.q0 hA cf2 ob2 cp2 rfl) (cf2.mo rfl) e2 (by rw [q_documentSymbol, mqD_t c1, mq2_t (by omega)]) (rfl)
    · refine z_iconst C dX9_documentSymbol_27 ?_
      refine z_goto (tgt := 40) C dX9_documentSymbol_28 (by decide) ?_
      refine z_iret C hQ dX9_documentSymbol_40 rfl (by decide) (by decide) ?_
      exact mAns.no hA hF cf2 ob2 cp2 e2 (z2.t h24) (by rw [q_documentSymbol, mqD_t c1]; exact mOut_q (by omega))
set_option maxHeartbeats 4000000 in
set_option maxRecDepth 100000 in
theorem m_countOrder0 {l : Launch} {γ : zG} {M : zM} {A : Nat → Nat} {Y : zSys} {t0 : Int} {rr ss : Int} (hMo0 : hMo γ M A Y t0) (hY : zOk (yS Y)) (r_rr : zR rr) (r_ss : zR ss) :
    zCon l γ yX9_countOrder0 cX9_countOrder0 3 (some .int) [.ref (A 0), .int (zi rr), .int (zi ss)] M 10 330 0 0 (mAns γ A M Y (q_countOrder0 (yS Y) rr ss)) (fun _ _ => False) := by
  obtain ⟨hA, F, h8, hF⟩ := hMo0
  obtain ⟨hsc, hec, hun, hsl, hinp, hou, ⟨g, hM, hS⟩, hrs⟩ := id hF
  have hO := hsc.1
  have hg := hS.1
  have o1 := hY.1
  have z_rr := r_rr
  unfold zR at z_rr
  have z_ss := r_ss
  unfold zR at z_ss
  refine zEnter [some (.ref (A 0)), some (.int (zi rr)), some (.int (zi ss))] (by decide +kernel) rfl rfl (Nat.le_of_ble_eq_true rfl) ?_
  intro p e s m args below meth c Q C hin hQ
  refine z_aload_n C dX9_countOrder0_0 rfl ?_
  refine z_iload_n C dX9_countOrder0_1 rfl ?_
  refine z_callV C dX9_countOrder0_2 lk_X9_295 mw_X9_noReader mi_X9_noReader ms_X9_noReader rfl (by first | assumption | ((repeat (first | assumption | exact va_up_self _ _ _ | refine (va_up_ne _ _ (by first | assumption | exact hA.ne (by decide) | exact hA.ne (by omega))).trans ?_)); done)) (k_X9_noReader hA hO hM hS hY r_rr) rfl (by first | decide | exact Nat.le_of_ble_eq_true rfl) ⟨by decide, by decide, by decide, by decide⟩ (fun _ _ h => False.elim h) (fun v M' hp => ?_)
  obtain ⟨r1, F1, rfl, f1, ob1, p1, e1, z1⟩ := hp
  have s1 := z1.rng
  have cf1 := f1
  have cp1 := p1
  have hM1 := cf1.at hA (.of rfl) hM
  refine z_if_neZ (tgt := 16) C dX9_countOrder0_5 (by decide) (by omega) (fun h5 => ?_) (fun h5 => ?_)
  · refine z_iconst C dX9_countOrder0_16 ?_
    refine z_goto (tgt := 34) C dX9_countOrder0_17 (by decide) ?_
    refine z_iret C hQ dX9_countOrder0_34 rfl (by decide) (by decide) ?_
    exact mAns.no hA hF cf1 ob1 cp1 e1 (z1.t h5) (by rw [q_countOrder0, mqR_f (fun w => z1.t h5 (by rw [mqR_t w])), mqR_f (fun w => z1.t h5 (by rw [mqR_t w]))])
  · have t1 := Decidable.not_not.mp (z1.f h5)
    rw [t1] at e1
    obtain ⟨c1, -⟩ := mqR_0 t1
    refine z_aload_n C dX9_countOrder0_8 rfl ?_
    refine z_iload_n C dX9_countOrder0_9 rfl ?_
    refine z_callV C dX9_countOrder0_10 lk_X9_307 mw_X9_noSymbol mi_X9_noSymbol ms_X9_noSymbol rfl (by first | assumption | ((repeat (first | assumption | exact va_up_self _ _ _ | refine (va_up_ne _ _ (by first | assumption | exact hA.ne (by decide) | exact hA.ne (by omega))).trans ?_)); done)) (k_X9_noSymbol hA ob1 e1 r_ss) rfl (by first | decide | exact Nat.le_of_ble_eq_true rfl) ⟨by decide, by decide, by decide, by decide⟩ (fun _ _ h => False.elim h) (fun v M' hp => ?_)
    obtain ⟨r2, F2, rfl, f2, ob2, p2, e2, z2⟩ := hp
    have s2 := z2.rng
    have cf2 := cf1.tr (K := [0]) f2 ⟨rfl, rfl⟩
    have cp2 := cp1.tr (K := [8]) p2 ⟨rfl, rfl⟩
    have hM2 := cf2.at hA (.of rfl) hM
    refine z_if_eqZ (tgt := 20) C dX9_countOrder0_13 (by decide) (by omega) (fun h13 => ?_) (fun h13 => ?_)
    · have t2 := Decidable.not_not.mp (z2.f h13)
      rw [t2] at e2
      obtain ⟨t20, -⟩ := mq2_0 t2
      have hSr := hS.r c1
      have sy := t20
      unfold zSy at sy
      refine z_aload_n C dX9_countOrder0_20 rfl ?_
      refine z_get C dX9_countOrder0_21 fl_X9_7 (by first | assumption | ((repeat (first | assumption | exact va_up_self _ _ _ | refine (va_up_ne _ _ (by first | assumption | exact hA.ne (by decide) | exact hA.ne (by omega))).trans ?_)); done)) rfl ?_
      refine z_iload_n C dX9_countOrder0_24 rfl ?_
      refine z_iconst C dX9_countOrder0_25 ?_
      refine z_iconst C dX9_countOrder0_26 ?_
      refine z_iload_n C dX9_countOrder0_27 rfl ?_
      refine z_callS C dX9_countOrder0_28 lk_X9_106 mw_X9_keyOf mst_X9_keyOf (k_X9_keyOf (b := -1) (p0 := -1) (s0 := ss) (by unfold zR; omega) (by unfold zR; omega)) rfl (by first | decide | exact Nat.le_of_ble_eq_true rfl) ⟨by decide, by decide, by decide, by decide⟩ (fun _ _ h => False.elim h) (fun v M' hp => ?_)
      obtain ⟨rfl, rfl⟩ := hp
      rw [show mKy (-1) (-1) ss = zCs 0 (-1) (-1) + ss by unfold mKy zCs; simp]
      refine z_callS C dX9_countOrder0_31 lk_X9_316 mw_X9_countOf mst_X9_countOf (k_X9_countOf hM2 hg (r := rr) (by omega) hSr.2.2.2.2.1 (key := zCs 0 (-1) (-1) + ss) (by unfold zCs zR; simp; omega)) rfl (by first | decide | exact Nat.le_of_ble_eq_true rfl) ⟨by decide, by decide, by decide, by decide⟩ (fun _ _ h => False.elim h) (fun v M' hp => ?_)
      obtain ⟨rfl, rfl⟩ := hp
      refine z_iret C hQ dX9_countOrder0_34 rfl (by decide) (by decide) ?_
      exact mAns.ok hA (hF.q0 hA cf2 ob2 cp2 rfl) (cf2.mo rfl) e2 (by rw [q_countOrder0, mqR_t c1, mq2_t t20]) (by rw [mCo_c hS c1])
    · refine z_iconst C dX9_countOrder0_16 ?_
      refine z_goto (tgt := 34) C dX9_countOrder0_17 (by decide) ?_
      refine z_iret C hQ dX9_countOrder0_34 rfl (by decide) (by decide) ?_
      exact mAns.no hA hF cf2 ob2 cp2 e2 (z2.t h13) (by rw [q_countOrder0, mqR_t c1]; exact mq2_1 rfl)
set_option maxHeartbeats 4000000 in
set_option maxRecDepth 100000 in
theorem m_countOrder1 {l : Launch} {γ : zG} {M : zM} {A : Nat → Nat} {Y : zSys} {t0 : Int} {rr pp ss : Int} (hMo0 : hMo γ M A Y t0) (hY : zOk (yS Y)) (r_rr : zR rr) (r_pp : zR pp) (r_ss : zR ss) :
    zCon l γ yX9_countOrder1 cX9_countOrder1 4 (some .int) [.ref (A 0), .int (zi rr), .int (zi pp), .int (zi ss)] M 10 330 0 0 (mAns γ A M Y (q_countOrder1 (yS Y) rr pp ss)) (fun _ _ => False) := by
  obtain ⟨hA, F, h8, hF⟩ := hMo0
  obtain ⟨hsc, hec, hun, hsl, hinp, hou, ⟨g, hM, hS⟩, hrs⟩ := id hF
  have hO := hsc.1
  have hg := hS.1
  have o1 := hY.1
  have z_rr := r_rr
  unfold zR at z_rr
  have z_pp := r_pp
  unfold zR at z_pp
  have z_ss := r_ss
  unfold zR at z_ss
  refine zEnter [some (.ref (A 0)), some (.int (zi rr)), some (.int (zi pp)), some (.int (zi ss))] (by decide +kernel) rfl rfl (Nat.le_of_ble_eq_true rfl) ?_
  intro p e s m args below meth c Q C hin hQ
  refine z_aload_n C dX9_countOrder1_0 rfl ?_
  refine z_iload_n C dX9_countOrder1_1 rfl ?_
  refine z_callV C dX9_countOrder1_2 lk_X9_295 mw_X9_noReader mi_X9_noReader ms_X9_noReader rfl (by first | assumption | ((repeat (first | assumption | exact va_up_self _ _ _ | refine (va_up_ne _ _ (by first | assumption | exact hA.ne (by decide) | exact hA.ne (by omega))).trans ?_)); done)) (k_X9_noReader hA hO hM hS hY r_rr) rfl (by first | decide | exact Nat.le_of_ble_eq_true rfl) ⟨by decide, by decide, by decide, by decide⟩ (fun _ _ h => False.elim h) (fun v M' hp => ?_)
  obtain ⟨r1, F1, rfl, f1, ob1, p1, e1, z1⟩ := hp
  have s1 := z1.rng
  have cf1 := f1
  have cp1 := p1
  have hM1 := cf1.at hA (.of rfl) hM
  refine z_if_neZ (tgt := 24) C dX9_countOrder1_5 (by decide) (by omega) (fun h5 => ?_) (fun h5 => ?_)
  · refine z_iconst C dX9_countOrder1_24 ?_
    refine z_goto (tgt := 42) C dX9_countOrder1_25 (by decide) ?_
    refine z_iret C hQ dX9_countOrder1_42 rfl (by decide) (by decide) ?_
    exact mAns.no hA hF cf1 ob1 cp1 e1 (z1.t h5) (by rw [q_countOrder1, mqR_f (fun w => z1.t h5 (by rw [mqR_t w])), mqR_f (fun w => z1.t h5 (by rw [mqR_t w]))])
  · have t1 := Decidable.not_not.mp (z1.f h5)
    rw [t1] at e1
    obtain ⟨c1, -⟩ := mqR_0 t1
    refine z_aload_n C dX9_countOrder1_8 rfl ?_
    refine z_iload_n C dX9_countOrder1_9 rfl ?_
    refine z_callV C dX9_countOrder1_10 lk_X9_307 mw_X9_noSymbol mi_X9_noSymbol ms_X9_noSymbol rfl (by first | assumption | ((repeat (first | assumption | exact va_up_self _ _ _ | refine (va_up_ne _ _ (by first | assumption | exact hA.ne (by decide) | exact hA.ne (by omega))).trans ?_)); done)) (k_X9_noSymbol hA ob1 e1 r_pp) rfl (by first | decide | exact Nat.le_of_ble_eq_true rfl) ⟨by decide, by decide, by decide, by decide⟩ (fun _ _ h => False.elim h) (fun v M' hp => ?_)
    obtain ⟨r2, F2, rfl, f2, ob2, p2, e2, z2⟩ := hp
    have s2 := z2.rng
    have cf2 := cf1.tr (K := [0]) f2 ⟨rfl, rfl⟩
    have cp2 := cp1.tr (K := [8]) p2 ⟨rfl, rfl⟩
    have hM2 := cf2.at hA (.of rfl) hM
    refine z_if_neZ (tgt := 24) C dX9_countOrder1_13 (by decide) (by omega) (fun h13 => ?_) (fun h13 => ?_)
    · refine z_iconst C dX9_countOrder1_24 ?_
      refine z_goto (tgt := 42) C dX9_countOrder1_25 (by decide) ?_
      refine z_iret C hQ dX9_countOrder1_42 rfl (by decide) (by decide) ?_
      exact mAns.no hA hF cf2 ob2 cp2 e2 (z2.t h13) (by rw [q_countOrder1, mqR_t c1, mq2_f (fun w => z2.t h13 (by rw [mq2_t w.1])), mq2_f (fun w => z2.t h13 (by rw [mq2_t w]))])
    · have t2 := Decidable.not_not.mp (z2.f h13)
      rw [t2] at e2
      obtain ⟨t20, -⟩ := mq2_0 t2
      refine z_aload_n C dX9_countOrder1_16 rfl ?_
      refine z_iload_n C dX9_countOrder1_17 rfl ?_
      refine z_callV C dX9_countOrder1_18 lk_X9_307 mw_X9_noSymbol mi_X9_noSymbol ms_X9_noSymbol rfl (by first | assumption | ((repeat (first | assumption | exact va_up_self _ _ _ | refine (va_up_ne _ _ (by first | assumption | exact hA.ne (by decide) | exact hA.ne (by omega))).trans ?_)); done)) (k_X9_noSymbol hA ob2 e2 r_ss) rfl (by first | decide | exact Nat.le_of_ble_eq_true rfl) ⟨by decide, by decide, by decide, by decide⟩ (fun _ _ h => False.elim h) (fun v M' hp => ?_)
      obtain ⟨r3, F3, rfl, f3, ob3, p3, e3, z3⟩ := hp
      have s3 := z3.rng
      have cf3 := cf2.tr (K := [0]) f3 ⟨rfl, rfl⟩
      have cp3 := cp2.tr (K := [8]) p3 ⟨rfl, rfl⟩
      have hM3 := cf3.at hA (.of rfl) hM
      refine z_if_eqZ (tgt := 28) C dX9_countOrder1_21 (by decide) (by omega) (fun h21 => ?_) (fun h21 => ?_)
      · have t3 := Decidable.not_not.mp (z3.f h21)
        rw [t3] at e3
        obtain ⟨t30, -⟩ := mq2_0 t3
        have hSr := hS.r c1
        have sy := t20
        have sy3 := t30
        unfold zSy at sy sy3
        refine z_aload_n C dX9_countOrder1_28 rfl ?_
        refine z_get C dX9_countOrder1_29 fl_X9_7 (by first | assumption | ((repeat (first | assumption | exact va_up_self _ _ _ | refine (va_up_ne _ _ (by first | assumption | exact hA.ne (by decide) | exact hA.ne (by omega))).trans ?_)); done)) rfl ?_
        refine z_iload_n C dX9_countOrder1_32 rfl ?_
        refine z_iconst C dX9_countOrder1_33 ?_
        refine z_iload_n C dX9_countOrder1_34 rfl ?_
        refine z_iload_n C dX9_countOrder1_35 rfl ?_
        refine z_callS C dX9_countOrder1_36 lk_X9_106 mw_X9_keyOf mst_X9_keyOf (k_X9_keyOf (b := -1) (p0 := pp) (s0 := ss) (by unfold zR; omega) (by unfold zR; omega)) rfl (by first | decide | exact Nat.le_of_ble_eq_true rfl) ⟨by decide, by decide, by decide, by decide⟩ (fun _ _ h => False.elim h) (fun v M' hp => ?_)
        obtain ⟨rfl, rfl⟩ := hp
        rw [show mKy (-1) pp ss = zCs 1 (-1) pp + ss by unfold mKy zCs; simp; omega]
        refine z_callS C dX9_countOrder1_39 lk_X9_316 mw_X9_countOf mst_X9_countOf (k_X9_countOf hM3 hg (r := rr) (by omega) hSr.2.2.2.2.1 (key := zCs 1 (-1) pp + ss) (by unfold zCs zR; simp; omega)) rfl (by first | decide | exact Nat.le_of_ble_eq_true rfl) ⟨by decide, by decide, by decide, by decide⟩ (fun _ _ h => False.elim h) (fun v M' hp => ?_)
        obtain ⟨rfl, rfl⟩ := hp
        refine z_iret C hQ dX9_countOrder1_42 rfl (by decide) (by decide) ?_
        exact mAns.ok hA (hF.q0 hA cf3 ob3 cp3 rfl) (cf3.mo rfl) e3 (by rw [q_countOrder1, mqR_t c1, mq2_t ⟨t20, t30⟩]) (by rw [mCo_c hS c1])
      · refine z_iconst C dX9_countOrder1_24 ?_
        refine z_goto (tgt := 42) C dX9_countOrder1_25 (by decide) ?_
        refine z_iret C hQ dX9_countOrder1_42 rfl (by decide) (by decide) ?_
        exact mAns.no hA hF cf3 ob3 cp3 e3 (z3.t h21) (by rw [q_countOrder1, mqR_t c1, mq2_f (fun w => z3.t h21 (by rw [mq2_t w.2])), mq2_f (fun w => z3.t h21 (by rw [mq2_t w]))])
set_option maxHeartbeats 4000000 in
set_option maxRecDepth 100000 in
theorem m_countOrder2 {l : Launch} {γ : zG} {M : zM} {A : Nat → Nat} {Y : zSys} {t0 : Int} {rr bb pp ss : Int} (hMo0 : hMo γ M A Y t0) (hY : zOk (yS Y)) (r_rr : zR rr) (r_bb : zR bb) (r_pp : zR pp) (r_ss : zR ss) :
    zCon l γ yX9_countOrder2 cX9_countOrder2 5 (some .int) [.ref (A 0), .int (zi rr), .int (zi bb), .int (zi pp), .int (zi ss)] M 10 330 0 0 (mAns γ A M Y (q_countOrder2 (yS Y) rr bb pp ss)) (fun _ _ => False) := by
  obtain ⟨hA, F, h8, hF⟩ := hMo0
  obtain ⟨hsc, hec, hun, hsl, hinp, hou, ⟨g, hM, hS⟩, hrs⟩ := id hF
  have hO := hsc.1
  have hg := hS.1
  have o1 := hY.1
  have z_rr := r_rr
  unfold zR at z_rr
  have z_bb := r_bb
  unfold zR at z_bb
  have z_pp := r_pp
  unfold zR at z_pp
  have z_ss := r_ss
  unfold zR at z_ss
  refine zEnter [some (.ref (A 0)), some (.int (zi rr)), some (.int (zi bb)), some (.int (zi pp)), some (.int (zi ss))] (by decide +kernel) rfl rfl (Nat.le_of_ble_eq_true rfl) ?_
  intro p e s m args below meth c Q C hin hQ
  refine z_aload_n C dX9_countOrder2_0 rfl ?_
  refine z_iload_n C dX9_countOrder2_1 rfl ?_
  refine z_callV C dX9_countOrder2_2 lk_X9_295 mw_X9_noReader mi_X9_noReader ms_X9_noReader rfl (by first | assumption | ((repeat (first | assumption | exact va_up_self _ _ _ | refine (va_up_ne _ _ (by first | assumption | exact hA.ne (by decide) | exact hA.ne (by omega))).trans ?_)); done)) (k_X9_noReader hA hO hM hS hY r_rr) rfl (by first | decide | exact Nat.le_of_ble_eq_true rfl) ⟨by decide, by decide, by decide, by decide⟩ (fun _ _ h => False.elim h) (fun v M' hp => ?_)
  obtain ⟨r1, F1, rfl, f1, ob1, p1, e1, z1⟩ := hp
  have s1 := z1.rng
  have cf1 := f1
  have cp1 := p1
  have hM1 := cf1.at hA (.of rfl) hM
  refine z_if_neZ (tgt := 33) C dX9_countOrder2_5 (by decide) (by omega) (fun h5 => ?_) (fun h5 => ?_)
  · refine z_iconst C dX9_countOrder2_33 ?_
    refine z_iret C hQ dX9_countOrder2_34 rfl (by decide) (by decide) ?_
    exact mAns.no hA hF cf1 ob1 cp1 e1 (z1.t h5) (by rw [q_countOrder2, mqR_f (fun w => z1.t h5 (by rw [mqR_t w])), mqR_f (fun w => z1.t h5 (by rw [mqR_t w]))])
  · have t1 := Decidable.not_not.mp (z1.f h5)
    rw [t1] at e1
    obtain ⟨c1, -⟩ := mqR_0 t1
    refine z_aload_n C dX9_countOrder2_8 rfl ?_
    refine z_iload_n C dX9_countOrder2_9 rfl ?_
    refine z_callV C dX9_countOrder2_10 lk_X9_307 mw_X9_noSymbol mi_X9_noSymbol ms_X9_noSymbol rfl (by first | assumption | ((repeat (first | assumption | exact va_up_self _ _ _ | refine (va_up_ne _ _ (by first | assumption | exact hA.ne (by decide) | exact hA.ne (by omega))).trans ?_)); done)) (k_X9_noSymbol hA ob1 e1 r_bb) rfl (by first | decide | exact Nat.le_of_ble_eq_true rfl) ⟨by decide, by decide, by decide, by decide⟩ (fun _ _ h => False.elim h) (fun v M' hp => ?_)
    obtain ⟨r2, F2, rfl, f2, ob2, p2, e2, z2⟩ := hp
    have s2 := z2.rng
    have cf2 := cf1.tr (K := [0]) f2 ⟨rfl, rfl⟩
    have cp2 := cp1.tr (K := [8]) p2 ⟨rfl, rfl⟩
    have hM2 := cf2.at hA (.of rfl) hM
    refine z_if_neZ (tgt := 33) C dX9_countOrder2_13 (by decide) (by omega) (fun h13 => ?_) (fun h13 => ?_)
    · refine z_iconst C dX9_countOrder2_33 ?_
      refine z_iret C hQ dX9_countOrder2_34 rfl (by decide) (by decide) ?_
      exact mAns.no hA hF cf2 ob2 cp2 e2 (z2.t h13) (by rw [q_countOrder2, mqR_t c1, mq2_f (fun w => z2.t h13 (by rw [mq2_t w.1])), mq2_f (fun w => z2.t h13 (by rw [mq2_t w]))])
    · have t2 := Decidable.not_not.mp (z2.f h13)
      rw [t2] at e2
      obtain ⟨t20, -⟩ := mq2_0 t2
      refine z_aload_n C dX9_countOrder2_16 rfl ?_
      refine z_iload_n C dX9_countOrder2_17 rfl ?_
      refine z_callV C dX9_countOrder2_18 lk_X9_307 mw_X9_noSymbol mi_X9_noSymbol ms_X9_noSymbol rfl (by first | assumption | ((repeat (first | assumption | exact va_up_self _ _ _ | refine (va_up_ne _ _ (by first | assumption | exact hA.ne (by decide) | exact hA.ne (by omega))).trans ?_)); done)) (k_X9_noSymbol hA ob2 e2 r_pp) rfl (by first | decide | exact Nat.le_of_ble_eq_true rfl) ⟨by decide, by decide, by decide, by decide⟩ (fun _ _ h => False.elim h) (fun v M' hp => ?_)
      obtain ⟨r3, F3, rfl, f3, ob3, p3, e3, z3⟩ := hp
      have s3 := z3.rng
      have cf3 := cf2.tr (K := [0]) f3 ⟨rfl, rfl⟩
      have cp3 := cp2.tr (K := [8]) p3 ⟨rfl, rfl⟩
      have hM3 := cf3.at hA (.of rfl) hM
      refine z_if_neZ (tgt := 33) C dX9_countOrder2_21 (by decide) (by omega) (fun h21 => ?_) (fun h21 => ?_)
      · refine z_iconst C dX9_countOrder2_33 ?_
        refine z_iret C hQ dX9_countOrder2_34 rfl (by decide) (by decide) ?_
        exact mAns.no hA hF cf3 ob3 cp3 e3 (z3.t h21) (by rw [q_countOrder2, mqR_t c1, mq2_f (fun w => z3.t h21 (by rw [mq2_t w.2.1])), mq2_f (fun w => z3.t h21 (by rw [mq2_t w]))])
      · have t3 := Decidable.not_not.mp (z3.f h21)
        rw [t3] at e3
        obtain ⟨t30, -⟩ := mq2_0 t3
        refine z_aload_n C dX9_countOrder2_24 rfl ?_
        refine z_iload C dX9_countOrder2_25 rfl ?_
        refine z_callV C dX9_countOrder2_27 lk_X9_307 mw_X9_noSymbol mi_X9_noSymbol ms_X9_noSymbol rfl (by first | assumption | ((repeat (first | assumption | exact va_up_self _ _ _ | refine (va_up_ne _ _ (by first | assumption | exact hA.ne (by decide) | exact hA.ne (by omega))).trans ?_)); done)) (k_X9_noSymbol hA ob3 e3 r_ss) rfl (by first | decide | exact Nat.le_of_ble_eq_true rfl) ⟨by decide, by decide, by decide, by decide⟩ (fun _ _ h => False.elim h) (fun v M' hp => ?_)
        obtain ⟨r4, F4, rfl, f4, ob4, p4, e4, z4⟩ := hp
        have s4 := z4.rng
        have cf4 := cf3.tr (K := [0]) f4 ⟨rfl, rfl⟩
        have cp4 := cp3.tr (K := [8]) p4 ⟨rfl, rfl⟩
        have hM4 := cf4.at hA (.of rfl) hM
        refine z_if_eqZ (tgt := 35) C dX9_countOrder2_30 (by decide) (by omega) (fun h30 => ?_) (fun h30 => ?_)
        · have t4 := Decidable.not_not.mp (z4.f h30)
          rw [t4] at e4
          obtain ⟨t40, -⟩ := mq2_0 t4
          have hSr := hS.r c1
          have sy := t20
          have sy3 := t30
          have sy4 := t40
          unfold zSy at sy sy3 sy4
          refine z_aload_n C dX9_countOrder2_35 rfl ?_
          refine z_get C dX9_countOrder2_36 fl_X9_7 (by first | assumption | ((repeat (first | assumption | exact va_up_self _ _ _ | refine (va_up_ne _ _ (by first | assumption | exact hA.ne (by decide) | exact hA.ne (by omega))).trans ?_)); done)) rfl ?_
          refine z_iload_n C dX9_countOrder2_39 rfl ?_
          refine z_iload_n C dX9_countOrder2_40 rfl ?_
          refine z_iload_n C dX9_countOrder2_41 rfl ?_
          refine z_iload C dX9_countOrder2_42 rfl ?_
          refine z_callS C dX9_countOrder2_44 lk_X9_106 mw_X9_keyOf mst_X9_keyOf (k_X9_keyOf (b := bb) (p0 := pp) (s0 := ss) (by unfold zR; omega) (by unfold zR; omega)) rfl (by first | decide | exact Nat.le_of_ble_eq_true rfl) ⟨by decide, by decide, by decide, by decide⟩ (fun _ _ h => False.elim h) (fun v M' hp => ?_)
          obtain ⟨rfl, rfl⟩ := hp
          rw [show mKy bb pp ss = zCs 2 bb pp + ss by unfold mKy zCs; rw [if_pos (by omega)]; simp]
          refine z_callS C dX9_countOrder2_47 lk_X9_316 mw_X9_countOf mst_X9_countOf (k_X9_countOf hM4 hg (r := rr) (by omega) hSr.2.2.2.2.1 (key := zCs 2 bb pp + ss) (by unfold zCs zR; simp; omega)) rfl (by first | decide | exact Nat.le_of_ble_eq_true rfl) ⟨by decide, by decide, by decide, by decide⟩ (fun _ _ h => False.elim h) (fun v M' hp => ?_)
          obtain ⟨rfl, rfl⟩ := hp
          refine z_iret C hQ dX9_countOrder2_50 rfl (by decide) (by decide) ?_
          exact mAns.ok hA (hF.q0 hA cf4 ob4 cp4 rfl) (cf4.mo rfl) e4 (by rw [q_countOrder2, mqR_t c1, mq2_t ⟨t20, t30, t40⟩]) (by rw [mCo_c hS c1])
        · refine z_iconst C dX9_countOrder2_33 ?_
          refine z_iret C hQ dX9_countOrder2_34 rfl (by decide) (by decide) ?_
          exact mAns.no hA hF cf4 ob4 cp4 e4 (z4.t h30) (by rw [q_countOrder2, mqR_t c1, mq2_f (fun w => z4.t h30 (by rw [mq2_t w.2.2])), mq2_f (fun w => z4.t h30 (by rw [mq2_t w]))])

