/-! the model's output: expected text, a byte of the output -/
set_option maxHeartbeats 4000000 in
set_option maxRecDepth 100000 in
theorem m_writeExpected {l : Launch} {γ : zG} {M : zM} {A : Nat → Nat} {Y : zSys} {t0 : Int} {rr ll : Int} (hMo0 : hMo γ M A Y t0) (hYk : yOk Y) (r_rr : zR rr) (r_ll : zR ll) :
    zCon l γ yX9_writeExpected cX9_writeExpected 4 (some .int) [.ref (A 0), .int (zi rr), .int (zi ll)] M 10 330 0 0 (mAnsY γ A M Y (y_writeExpected Y rr ll) (q_writeExpected Y rr ll)) (fun _ _ => False) := by
  obtain ⟨hA, F, h8, hF⟩ := hMo0
  obtain ⟨hsc, hec, hun, hsl, hinp, hou, ⟨g, hM, hS⟩, hrs⟩ := id hF
  have hO := hsc.1
  have hg := hS.1
  have hY := hYk.1
  have o1 := hY.1
  have z_rr := r_rr
  unfold zR at z_rr
  have z_ll := r_ll
  unfold zR at z_ll
  refine zEnter [some (.ref (A 0)), some (.int (zi rr)), some (.int (zi ll)), none] (by decide +kernel) rfl rfl (Nat.le_of_ble_eq_true rfl) ?_
  intro p e s m args below meth c Q C hin hQ
  obtain ⟨-, -, h0, hH0, -⟩ := hou
  have loop : ∀ (c1 : 0 ≤ rr ∧ rr < sRn (yS Y)) (hll : 1 ≤ ll ∧ ll ≤ 40) (M2 : zM) (F2 : Nat → Int), mF A M M2 [0] → hMf γ M2 A F2 Y → F2 8 = 0 → ∀ (t : Nat) (M1 : zM) (F1 h : Nat → Int) (i : Int), ll - i = t → 0 ≤ i ∧ i ≤ ll → mWr γ M2 A F2 (rC (sRd (yS Y) rr.toNat)) (fun _ => 1) M1 F1 h i → zAW p l e { frames := 10, cells := 0, slots := 0, locals := 330 } s m args below meth c γ 4 Q M1 0 0 27 [some (.ref (A 0)), some (.int (zi rr)), some (.int (zi ll)), some (.int (zi i))] [] := by
    intro c1 hll M2 F2 hf2 hF2 e82 t
    obtain ⟨-, -, -, -, -, -, ⟨gs, hMs, hSs⟩, -⟩ := id hF2
    have hg := hSs.1
    have hG : ∀ x, x ∈ sG (yS Y) → 0 ≤ x ∧ x < 20439 := fun x hx => sG_rng hx
    have hc : zcR (rC (sRd (yS Y) rr.toNat)) := (hY.2.2 rr.toNat (by omega)).1.2.2.1
    have hL := (hSs.r c1).2.2.2.2
    induction t with
    | zero =>
      intro M1 F1 h i ht hi wr
      obtain rfl : i = ll := by omega
      obtain ⟨wf, wk, ws, w29, w31, w32, wh, wo, wb, wp, wv⟩ := id wr
      have hO1 := ws.1
      refine z_iload_n C dX9_writeExpected_27 rfl ?_
      refine z_iload_n C dX9_writeExpected_28 rfl ?_
      refine z_icmp_geZ (tgt := 44) C dX9_writeExpected_29 (by decide) (by omega) (by omega) (fun h29 => ?_) (fun h29 => ?_)
      · refine z_aload_n C dX9_writeExpected_44 rfl ?_
        refine z_getM C dX9_writeExpected_45 fl_X9_364 (by first | assumption | ((repeat (first | assumption | exact va_up_self _ _ _ | refine (va_up_ne _ _ (by first | assumption | exact hA.ne (by decide) | exact hA.ne (by omega))).trans ?_)); done)) rfl (by first | assumption | ((repeat (first | assumption | exact va_up_self _ _ _ | rewrite [va_up_ne _ _ (by decide)])); (first | done | exact rfl))) ?_
        refine z_iret C hQ dX9_writeExpected_48 rfl (by decide) (by decide) ?_
        have fo := hF2.out hA wf (wk.tr (K := [8, 10, 13, 29, 31, 32]) (K2 := []) mKp.rf ⟨rfl, rfl⟩) ws w29 (by omega) wh wo
        exact mAnsY.ok hA fo ((hf2.tr (K := [0, 7, 8, 9, 13]) wf ⟨rfl, rfl⟩).mo rfl) ((wk 8 (by decide)).trans e82) (by rw [q_writeExpected, zqR_t c1, mq2_t hll]) rfl
      · exact absurd h29 (by omega)
    | succ t ih =>
      intro M1 F1 h i ht hi wr
      obtain ⟨wf, wk, ws, w29, w31, w32, wh, wo, wb, wp, wv⟩ := id wr
      have hO1 := ws.1
      have hM1 := wf.at hA (.of rfl) hMs
      refine z_iload_n C dX9_writeExpected_27 rfl ?_
      refine z_iload_n C dX9_writeExpected_28 rfl ?_
      refine z_icmp_geZ (tgt := 44) C dX9_writeExpected_29 (by decide) (by omega) (by omega) (fun h29 => ?_) (fun h29 => ?_)
      · exact absurd h29 (by omega)
      · refine z_aload_n C dX9_writeExpected_32 rfl ?_
        refine z_iload_n C dX9_writeExpected_33 rfl ?_
        refine z_iconst C dX9_writeExpected_34 ?_
        refine z_callV C dX9_writeExpected_35 lk_X9_385 mw_X9_write mi_X9_write ms_X9_write rfl (by first | assumption | ((repeat (first | assumption | exact va_up_self _ _ _ | refine (va_up_ne _ _ (by first | assumption | exact hA.ne (by decide) | exact hA.ne (by omega))).trans ?_)); done)) (k_X9_write hA ws hM1 hg (r := rr) (by omega) w31 w32 wb wp wv hL hG hc (k := 1) (by omega) wh w29 (by omega)) rfl (by first | decide | exact Nat.le_of_ble_eq_true rfl) ⟨by decide, by decide, by decide, by decide⟩ (fun _ _ h => False.elim h) (fun v M' hp => ?_)
        obtain ⟨rfl, gr, fw, Fw, kw, sw, a29, a31, a32, a13⟩ := hp
        have wn := wr.st hi.1 rfl gr fw kw sw a29 a31 a32 a13
        refine z_iincZ C dX9_writeExpected_38 rfl (by decide) ?_
        refine z_goto (tgt := 27) C dX9_writeExpected_41 (by decide) ?_
        exact ih _ Fw _ (i + 1) (by omega) (by omega) wn
  refine z_aload_n C dX9_writeExpected_0 rfl ?_
  refine z_iload_n C dX9_writeExpected_1 rfl ?_
  refine z_callV C dX9_writeExpected_2 lk_X9_295 mw_X9_noReader mi_X9_noReader ms_X9_noReader rfl (by first | assumption | ((repeat (first | assumption | exact va_up_self _ _ _ | refine (va_up_ne _ _ (by first | assumption | exact hA.ne (by decide) | exact hA.ne (by omega))).trans ?_)); done)) (k_X9_noReader hA hO hM hS hY r_rr) rfl (by first | decide | exact Nat.le_of_ble_eq_true rfl) ⟨by decide, by decide, by decide, by decide⟩ (fun _ _ h => False.elim h) (fun v M' hp => ?_)
  obtain ⟨r1, F1, rfl, f1, ob1, p1, e1, z1⟩ := hp
  have s1 := z1.rng
  have cf1 := f1
  have cp1 := p1
  have hM1 := cf1.at hA (.of rfl) hM
  refine z_if_neZ (tgt := 19) C dX9_writeExpected_5 (by decide) (by omega) (fun h5 => ?_) (fun h5 => ?_)
  · refine z_iconst C dX9_writeExpected_19 ?_
    refine z_iret C hQ dX9_writeExpected_20 rfl (by decide) (by decide) ?_
    exact mAnsY.no hA hF cf1 ob1 cp1 e1 (z1.t h5) (by rw [q_writeExpected, mqR_f (fun w => z1.t h5 (by rw [mqR_t w])), mqR_f (fun w => z1.t h5 (by rw [mqR_t w]))])
  · have t1 := Decidable.not_not.mp (z1.f h5)
    rw [t1] at e1
    obtain ⟨c1, -⟩ := mqR_0 t1
    refine z_aload_n C dX9_writeExpected_8 rfl ?_
    refine z_iload_n C dX9_writeExpected_9 rfl ?_
    refine z_iconst C dX9_writeExpected_10 ?_
    refine z_bipush C dX9_writeExpected_11 (by decide) ?_
    refine z_callV C dX9_writeExpected_13 lk_X9_301 mw_X9_out mi_X9_out ms_X9_out rfl (by first | assumption | ((repeat (first | assumption | exact va_up_self _ _ _ | refine (va_up_ne _ _ (by first | assumption | exact hA.ne (by decide) | exact hA.ne (by omega))).trans ?_)); done)) (k_X9_out hA ob1 e1 (x := ll) (a := 1) (b := 40) r_ll (by unfold zR; omega) (by unfold zR; omega)) rfl (by first | decide | exact Nat.le_of_ble_eq_true rfl) ⟨by decide, by decide, by decide, by decide⟩ (fun _ _ h => False.elim h) (fun v M' hp => ?_)
    obtain ⟨r2, F2, rfl, f2, ob2, p2, e2, z2⟩ := hp
    have s2 := z2.rng
    have cf2 := cf1.tr (K := [0]) f2 ⟨rfl, rfl⟩
    have cp2 := cp1.tr (K := [8]) p2 ⟨rfl, rfl⟩
    have hM2 := cf2.at hA (.of rfl) hM
    refine z_if_eqZ (tgt := 21) C dX9_writeExpected_16 (by decide) (by omega) (fun h16 => ?_) (fun h16 => ?_)
    · have t2 := Decidable.not_not.mp (z2.f h16)
      rw [t2] at e2
      have t3 := mOut t2
      have hF2 := hF.q0 hA cf2 ob2 cp2 rfl
      refine z_aload_n C dX9_writeExpected_21 rfl ?_
      refine z_callV C dX9_writeExpected_22 lk_X9_382 mw_X9_begin mi_X9_begin ms_X9_begin rfl (by first | assumption | ((repeat (first | assumption | exact va_up_self _ _ _ | refine (va_up_ne _ _ (by first | assumption | exact hA.ne (by decide) | exact hA.ne (by omega))).trans ?_)); done)) (k_X9_begin ob2) rfl (by first | decide | exact Nat.le_of_ble_eq_true rfl) ⟨by decide, by decide, by decide, by decide⟩ (fun _ _ h => False.elim h) (fun v M' hp => ?_)
      obtain ⟨rfl, f4, F4, ob4, p4, e429, e431, e432⟩ := hp
      refine z_iconst C dX9_writeExpected_25 ?_
      refine z_istore_n C dX9_writeExpected_26 (by decide) ?_
      exact loop c1 t3 _ F2 cf2 hF2 e2 ll.toNat _ F4 h0 0 (by omega) (by omega) (mWr.bg hA hF2.1 f4 ob4 p4 e429 e431 e432 (cf2.at hA (.of rfl) hH0))
    · refine z_iconst C dX9_writeExpected_19 ?_
      refine z_iret C hQ dX9_writeExpected_20 rfl (by decide) (by decide) ?_
      exact mAnsY.no hA hF cf2 ob2 cp2 e2 (z2.t h16) (by rw [q_writeExpected, mqR_t c1]; exact mOut_q Iff.rfl)
set_option maxHeartbeats 4000000 in
set_option maxRecDepth 100000 in
theorem m_outputByte {l : Launch} {γ : zG} {M : zM} {A : Nat → Nat} {Y : zSys} {t0 : Int} {ii : Int} (hMo0 : hMo γ M A Y t0) (r_ii : zR ii) :
    zCon l γ yX9_outputByte cX9_outputByte 2 (some .int) [.ref (A 0), .int (zi ii)] M 10 330 0 0 (mAns γ A M Y (q_outputByte Y ii)) (fun _ _ => False) := by
  obtain ⟨hA, F, h8, hF⟩ := hMo0
  obtain ⟨hsc, hec, hun, hsl, hinp, ⟨e29, hyo, h, h13, hh⟩, ⟨g, hM, hS⟩, hrs⟩ := id hF
  have hO := hsc.1
  have z_ii := r_ii
  unfold zR at z_ii
  refine zEnter [some (.ref (A 0)), some (.int (zi ii))] (by decide +kernel) rfl rfl (Nat.le_of_ble_eq_true rfl) ?_
  intro p e s m args below meth c Q C hin hQ
  refine z_aload_n C dX9_outputByte_0 rfl ?_
  refine z_iload_n C dX9_outputByte_1 rfl ?_
  refine z_iconst C dX9_outputByte_2 ?_
  refine z_aload_n C dX9_outputByte_3 rfl ?_
  refine z_getM C dX9_outputByte_4 fl_X9_364 (by first | assumption | ((repeat (first | assumption | exact va_up_self _ _ _ | refine (va_up_ne _ _ (by first | assumption | exact hA.ne (by decide) | exact hA.ne (by omega))).trans ?_)); done)) rfl (by first | assumption | ((repeat (first | assumption | exact va_up_self _ _ _ | rewrite [va_up_ne _ _ (by decide)])); (first | done | exact rfl))) ?_
  refine z_iconst C dX9_outputByte_7 ?_
  refine z_isubZ C dX9_outputByte_8 ?_
  refine z_callV C dX9_outputByte_9 lk_X9_196 mw_X9_noNumber mi_X9_noNumber ms_X9_noNumber rfl (by first | assumption | ((repeat (first | assumption | exact va_up_self _ _ _ | refine (va_up_ne _ _ (by first | assumption | exact hA.ne (by decide) | exact hA.ne (by omega))).trans ?_)); done)) (k_X9_noNumber hA hO (x := ii) (a := 0) (b := yOn Y - 1) r_ii (by unfold zR; omega) (by unfold zR; omega)) rfl (by first | decide | exact Nat.le_of_ble_eq_true rfl) ⟨by decide, by decide, by decide, by decide⟩ (fun _ _ h => False.elim h) (fun v M' hp => ?_)
  obtain ⟨r1, F1, rfl, f1, ob1, p1, e1, z1⟩ := hp
  have s1 := z1.rng
  have cf1 := f1
  have cp1 := p1
  have hM1 := cf1.at hA (.of rfl) hM
  refine z_if_eqZ (tgt := 19) C dX9_outputByte_12 (by decide) (by omega) (fun h12 => ?_) (fun h12 => ?_)
  · have t1 := Decidable.not_not.mp (z1.f h12)
    rw [t1] at e1
    have t2 := mN1 t1
    have h131 := cf1.at hA (.of rfl) h13
    refine z_aload_n C dX9_outputByte_19 rfl ?_
    refine z_get C dX9_outputByte_20 fl_X9_52 (by first | assumption | ((repeat (first | assumption | exact va_up_self _ _ _ | refine (va_up_ne _ _ (by first | assumption | exact hA.ne (by decide) | exact hA.ne (by omega))).trans ?_)); done)) rfl ?_
    refine z_iload_n C dX9_outputByte_23 rfl ?_
    refine z_aldBi C dX9_outputByte_24 h131 (by omega) (by omega) ?_
    refine z_iret C hQ dX9_outputByte_25 rfl (by decide) (by decide) ?_
    rw [hh ii.toNat (by omega)]
    exact mAns.ok hA (hF.q0 hA cf1 ob1 cp1 rfl) (cf1.mo rfl) e1 (by rw [q_outputByte, if_pos (by omega)]) rfl
  · refine z_iconst C dX9_outputByte_15 ?_
    refine z_goto (tgt := 25) C dX9_outputByte_16 (by decide) ?_
    refine z_iret C hQ dX9_outputByte_25 rfl (by decide) (by decide) ?_
    exact mAns.no hA hF cf1 ob1 cp1 e1 (z1.t h12) (by rw [q_outputByte, if_neg (fun w => z1.t h12 (by rw [if_pos (by omega)])), if_neg (fun w => z1.t h12 (by rw [if_pos w]))])

