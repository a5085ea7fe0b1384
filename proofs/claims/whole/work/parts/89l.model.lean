/-! the model's changes: slots, undo, load -/
theorem mN1 {x a b : Int} (h : (if a ≤ x ∧ x ≤ b then (0 : Int) else 1) = 0) : a ≤ x ∧ x ≤ b := by
  by_cases e : a ≤ x ∧ x ≤ b
  · exact e
  · rw [if_neg e] at h
    cases h
set_option maxHeartbeats 4000000 in
set_option maxRecDepth 100000 in
theorem m_save {l : Launch} {γ : zG} {M : zM} {A : Nat → Nat} {Y : zSys} {t0 : Int} {ss : Int} (hMo0 : hMo γ M A Y t0) (hYk : yOk Y) (r_ss : zR ss) :
    zCon l γ yX9_save cX9_save 2 (some .int) [.ref (A 0), .int (zi ss)] M 10 330 0 0 (mAnsY γ A M Y (y_save Y ss) (q_save Y ss)) (fun _ _ => False) := by
  obtain ⟨hA, F, h8, hF⟩ := hMo0
  obtain ⟨hsc, hec, hun, hsl, hinp, hou, ⟨g, hM, hS⟩, hrs⟩ := id hF
  have hO := hsc.1
  have hg := hS.1
  have hY := hYk.1
  have o1 := hY.1
  have z_ss := r_ss
  unfold zR at z_ss
  refine zEnter [some (.ref (A 0)), some (.int (zi ss))] (by decide +kernel) rfl rfl (Nat.le_of_ble_eq_true rfl) ?_
  intro p e s m args below meth c Q C hin hQ
  obtain ⟨⟨ek, hk6, hkk⟩, gs, h5, hgs, hsls⟩ := hsl
  refine z_aload_n C dX9_save_0 rfl ?_
  refine z_iload_n C dX9_save_1 rfl ?_
  refine z_iconst C dX9_save_2 ?_
  refine z_iconst C dX9_save_3 ?_
  refine z_callV C dX9_save_4 lk_X9_196 mw_X9_noNumber mi_X9_noNumber ms_X9_noNumber rfl (by first | assumption | ((repeat (first | assumption | exact va_up_self _ _ _ | refine (va_up_ne _ _ (by first | assumption | exact hA.ne (by decide) | exact hA.ne (by omega))).trans ?_)); done)) (k_X9_noNumber hA hO (x := ss) (a := 0) (b := 1) r_ss (by unfold zR; omega) (by unfold zR; omega)) rfl (by first | decide | exact Nat.le_of_ble_eq_true rfl) ⟨by decide, by decide, by decide, by decide⟩ (fun _ _ h => False.elim h) (fun v M' hp => ?_)
  obtain ⟨r1, F1, rfl, f1, ob1, p1, e1, z1⟩ := hp
  have s1 := z1.rng
  have cf1 := f1
  have cp1 := p1
  have hM1 := cf1.at hA (.of rfl) hM
  refine z_if_eqZ (tgt := 12) C dX9_save_7 (by decide) (by omega) (fun h7 => ?_) (fun h7 => ?_)
  · have t1 := Decidable.not_not.mp (z1.f h7)
    rw [t1] at e1
    have t2 := mN1 t1
    have h51 := cf1.at hA (.of rfl) h5
    have h61 := cf1.at hA (.of rfl) hk6
    refine z_aload_n C dX9_save_12 rfl ?_
    refine z_get C dX9_save_13 fl_X9_7 (by first | assumption | ((repeat (first | assumption | exact va_up_self _ _ _ | refine (va_up_ne _ _ (by first | assumption | exact hA.ne (by decide) | exact hA.ne (by omega))).trans ?_)); done)) rfl ?_
    refine z_iconst C dX9_save_16 ?_
    refine z_aload_n C dX9_save_17 rfl ?_
    refine z_get C dX9_save_18 fl_X9_23 (by first | assumption | ((repeat (first | assumption | exact va_up_self _ _ _ | refine (va_up_ne _ _ (by first | assumption | exact hA.ne (by decide) | exact hA.ne (by omega))).trans ?_)); done)) rfl ?_
    refine z_sipush C dX9_save_21 (by decide) ?_
    refine z_iload_n C dX9_save_24 rfl ?_
    refine z_imulZ C dX9_save_25 ?_
    refine z_callS C dX9_save_26 lk_X9_71 mw_X9_copyRow mst_X9_copyRow (k_X9_copyRow hM1 hS.1 h51 hgs (hA.ne (by decide)) (by decide) (fa := 0) (ga := 5987 * ss) (by omega) (by omega)) rfl (by first | decide | exact Nat.le_of_ble_eq_true rfl) ⟨by decide, by decide, by decide, by decide⟩ (fun _ _ h => False.elim h) (fun v M' hp => ?_)
    obtain ⟨rfl, f26, a26, z26⟩ := hp
    have f26m : mF A _ _ [5] := f26
    have o26 := f26m.at hA (.of rfl) ob1
    have h66 := f26m.at hA (.of rfl) h61
    have m26 := f26m.at hA (.of rfl) hM1
    refine z_aload_n C dX9_save_29 rfl ?_
    refine z_get C dX9_save_30 fl_X9_26 (by first | assumption | ((repeat (first | assumption | exact va_up_self _ _ _ | refine (va_up_ne _ _ (by first | assumption | exact hA.ne (by decide) | exact hA.ne (by omega))).trans ?_)); done)) rfl ?_
    refine z_iload_n C dX9_save_33 rfl ?_
    refine z_iconst C dX9_save_34 ?_
    refine z_astZi C dX9_save_35 h66 (by omega) (by omega) (by decide) ?_
    refine z_aload_n C dX9_save_36 rfl ?_
    refine z_get C dX9_save_37 fl_X9_7 (by first | assumption | ((repeat (first | assumption | exact va_up_self _ _ _ | refine (va_up_ne _ _ (by first | assumption | exact hA.ne (by decide) | exact hA.ne (by omega))).trans ?_)); done)) rfl ?_
    refine z_iconst C dX9_save_40 ?_
    refine z_aldN C dX9_save_41 (by rw [va_up_ne _ _ (hA.ne (by decide))]; exact m26) (by omega) (by omega) (by assumption) (fun hr41 => ?_)
    refine z_iret C hQ dX9_save_42 rfl (by decide) (by decide) ?_
    have fz := ((cf1.tr (K := [0, 5]) f26m ⟨rfl, rfl⟩).tr (K := [0, 5, 6]) (mF.one (i := 6)) ⟨rfl, rfl⟩ : mF A M (va_up _ (A 6) (some (zaz γ 2 (va_up ek ss.toNat 1)))) [0, 5, 6])
    obtain ⟨s0, ⟨s7, b1, b2⟩, ⟨s8, c1, c2⟩, s9, d1, d2⟩ := hsc
    refine mAnsY.ok (F' := F1) hA ⟨⟨by rw [va_up_ne _ _ (hA.ne (by decide))]; exact o26, ⟨s7, fz.at hA (.of rfl) b1, b2⟩, ⟨s8, fz.at hA (.of rfl) c1, c2⟩, s9, fz.at hA (.of rfl) d1, d2⟩, ⟨(cp1 25 (by decide)).trans hec.1, (cp1 26 (by decide)).trans hec.2⟩, hun.fr hA fz (.of rfl) (cp1 6 (by decide)) (cp1 7 (by decide)), ⟨⟨_, va_up_self _ _ _, fun k hk => ?_⟩, _, by rw [va_up_ne _ _ (hA.ne (by decide))]; exact a26, z26, fun k hk hu => ?_⟩, hinp.fr hA fz (.of rfl) (cp1 19 (by decide)), hou.fr hA fz (.of rfl) (cp1 29 (by decide)), ⟨g, fz.at hA (.of rfl) hM, hS⟩, hrs.fr hA fz (.of rfl) (.of rfl) (.of rfl) (.of rfl) (.of rfl)⟩ (fz.mo rfl) e1 (by rw [q_save, zqS_t (by omega)]) hS.2.1
    · show va_up ek ss.toNat 1 k = va_up (yUs Y) ss.toNat 1 k
      unfold va_up
      split
      · rfl
      · exact hkk k hk
    · show mSt _ (va_up (ySl Y) ss.toNat (yS Y) k)
      by_cases w : k = ss.toNat
      · rw [w, va_up_self]
        refine hS.cg hY (fun j => z26 _) (fun j hj => ?_)
        rw [mCp_at (by omega) (by omega), if_pos (by omega)]
        congr 1
        omega
      · rw [va_up_ne _ _ w]
        have hu2 : va_up (yUs Y) ss.toNat 1 k ≠ 0 := hu
        rw [va_up_ne _ _ w] at hu2
        refine (hsls k hk hu2).cg ((hYk.2.2.2 k hk).2 hu2) (fun j => z26 _) (fun j hj => ?_)
        rw [mCp_at (by omega) (by omega), if_neg (by omega)]
  · refine z_iconst C dX9_save_10 ?_
    refine z_iret C hQ dX9_save_11 rfl (by decide) (by decide) ?_
    exact mAnsY.no hA hF cf1 ob1 cp1 e1 (z1.t h7) (by rw [q_save, zqS_f (fun w => z1.t h7 (by rw [if_pos (by omega)])), if_neg (fun w => z1.t h7 (by rw [if_pos w]))])
set_option maxHeartbeats 4000000 in
set_option maxRecDepth 100000 in
theorem m_restore {l : Launch} {γ : zG} {M : zM} {A : Nat → Nat} {Y : zSys} {t0 : Int} {ss : Int} (hMo0 : hMo γ M A Y t0) (hYk : yOk Y) (r_ss : zR ss) :
    zCon l γ yX9_restore cX9_restore 2 (some .int) [.ref (A 0), .int (zi ss)] M 10 330 0 0 (mAnsY γ A M Y (y_restore Y ss) (q_restore Y ss)) (fun _ _ => False) := by
  obtain ⟨hA, F, h8, hF⟩ := hMo0
  obtain ⟨hsc, hec, hun, hsl, hinp, hou, ⟨g, hM, hS⟩, hrs⟩ := id hF
  have hO := hsc.1
  have hg := hS.1
  have hY := hYk.1
  have o1 := hY.1
  have z_ss := r_ss
  unfold zR at z_ss
  refine zEnter [some (.ref (A 0)), some (.int (zi ss))] (by decide +kernel) rfl rfl (Nat.le_of_ble_eq_true rfl) ?_
  intro p e s m args below meth c Q C hin hQ
  obtain ⟨⟨ek, hk6, hkk⟩, gs, h5, hgs, hsls⟩ := id hsl
  refine z_aload_n C dX9_restore_0 rfl ?_
  refine z_iload_n C dX9_restore_1 rfl ?_
  refine z_iconst C dX9_restore_2 ?_
  refine z_iconst C dX9_restore_3 ?_
  refine z_callV C dX9_restore_4 lk_X9_196 mw_X9_noNumber mi_X9_noNumber ms_X9_noNumber rfl (by first | assumption | ((repeat (first | assumption | exact va_up_self _ _ _ | refine (va_up_ne _ _ (by first | assumption | exact hA.ne (by decide) | exact hA.ne (by omega))).trans ?_)); done)) (k_X9_noNumber hA hO (x := ss) (a := 0) (b := 1) r_ss (by unfold zR; omega) (by unfold zR; omega)) rfl (by first | decide | exact Nat.le_of_ble_eq_true rfl) ⟨by decide, by decide, by decide, by decide⟩ (fun _ _ h => False.elim h) (fun v M' hp => ?_)
  obtain ⟨r1, F1, rfl, f1, ob1, p1, e1, z1⟩ := hp
  have s1 := z1.rng
  have cf1 := f1
  have cp1 := p1
  have hM1 := cf1.at hA (.of rfl) hM
  refine z_if_neZ (tgt := 32) C dX9_restore_7 (by decide) (by omega) (fun h7 => ?_) (fun h7 => ?_)
  · refine z_iconst C dX9_restore_32 ?_
    refine z_iret C hQ dX9_restore_33 rfl (by decide) (by decide) ?_
    exact mAnsY.no hA hF cf1 ob1 cp1 e1 (z1.t h7) (by rw [q_restore, zqS_f (fun w => z1.t h7 (by rw [if_pos (by omega)])), if_neg (fun w => z1.t h7 (by rw [if_pos w]))])
  · have t1 := Decidable.not_not.mp (z1.f h7)
    rw [t1] at e1
    have t2 := mN1 t1
    have h61 := cf1.at hA (.of rfl) hk6
    have hks := hkk ss.toNat (by omega)
    have hus := (hYk.2.2.2 ss.toNat (by omega)).1
    refine z_aload_n C dX9_restore_10 rfl ?_
    refine z_aload_n C dX9_restore_11 rfl ?_
    refine z_get C dX9_restore_12 fl_X9_26 (by first | assumption | ((repeat (first | assumption | exact va_up_self _ _ _ | refine (va_up_ne _ _ (by first | assumption | exact hA.ne (by decide) | exact hA.ne (by omega))).trans ?_)); done)) rfl ?_
    refine z_iload_n C dX9_restore_15 rfl ?_
    refine z_aldZi C dX9_restore_16 h61 (by omega) (by omega) ?_
    rw [hks]
    refine z_if_neZ (tgt := 24) C dX9_restore_17 (by decide) (by omega) (fun h17 => ?_) (fun h17 => ?_)
    · refine z_iconst C dX9_restore_24 ?_
      refine z_iconst C dX9_restore_25 ?_
      refine z_callV C dX9_restore_26 lk_X9_189 mw_X9_refuses mi_X9_refuses ms_X9_refuses rfl (by first | assumption | ((repeat (first | assumption | exact va_up_self _ _ _ | refine (va_up_ne _ _ (by first | assumption | exact hA.ne (by decide) | exact hA.ne (by omega))).trans ?_)); done)) (k_X9_refuses hA ob1 (r := 0) (w := 2) (by omega) (by omega) (by omega)) rfl (by first | decide | exact Nat.le_of_ble_eq_true rfl) ⟨by decide, by decide, by decide, by decide⟩ (fun _ _ h => False.elim h) (fun v M' hp => ?_)
      obtain ⟨r2, F2, rfl, f2, ob2, p2, e2, z2⟩ := hp
      have s2 := z2.rng
      have cf2 := cf1.tr (K := [0]) f2 ⟨rfl, rfl⟩
      have cp2 := cp1.tr (K := [8]) p2 ⟨rfl, rfl⟩
      refine z_if_eqZ (tgt := 34) C dX9_restore_29 (by decide) (by omega) (fun h29 => ?_) (fun h29 => ?_)
      · rw [if_neg (by omega), e1] at e2
        have hF1 := hF.q0 hA cf2 ob2 cp2 rfl
        refine z_aload_n C dX9_restore_34 rfl ?_
        refine z_callV C dX9_restore_35 lk_X9_286 mw_X9_remember mi_X9_remember ms_X9_remember rfl (by first | assumption | ((repeat (first | assumption | exact va_up_self _ _ _ | refine (va_up_ne _ _ (by first | assumption | exact hA.ne (by decide) | exact hA.ne (by omega))).trans ?_)); done)) (k_X9_remember hA hF1 hYk) rfl (by first | decide | exact Nat.le_of_ble_eq_true rfl) ⟨by decide, by decide, by decide, by decide⟩ (fun _ _ h => False.elim h) (fun v M' hp => ?_)
        obtain ⟨rfl, fr, Fr, pr, hFr⟩ := hp
        have orr := hFr.1.1
        obtain ⟨gr, hMr, hSr0⟩ := hFr.2.2.2.2.2.2.1
        have hSr : mSt gr (yS Y) := hSr0
        have hgr := hSr.1
        have er8 : Fr 8 = 0 := (pr 8 (by decide)).trans e2
        have crr := cf2.tr (K := [0, 4]) fr ⟨rfl, rfl⟩
        obtain ⟨-, gs2, h52, hgs2, hsls2⟩ := hFr.2.2.2.1
        have hsu : mSt (fun j => gs2 (5987 * ss.toNat + j)) (ySl Y ss.toNat) := hsls2 ss.toNat (by omega) (by show yUs Y ss.toNat ≠ 0; omega)
        refine z_aload_n C dX9_restore_38 rfl ?_
        refine z_get C dX9_restore_39 fl_X9_23 (by first | assumption | ((repeat (first | assumption | exact va_up_self _ _ _ | refine (va_up_ne _ _ (by first | assumption | exact hA.ne (by decide) | exact hA.ne (by omega))).trans ?_)); done)) rfl ?_
        refine z_sipush C dX9_restore_42 (by decide) ?_
        refine z_iload_n C dX9_restore_45 rfl ?_
        refine z_imulZ C dX9_restore_46 ?_
        refine z_aload_n C dX9_restore_47 rfl ?_
        refine z_get C dX9_restore_48 fl_X9_7 (by first | assumption | ((repeat (first | assumption | exact va_up_self _ _ _ | refine (va_up_ne _ _ (by first | assumption | exact hA.ne (by decide) | exact hA.ne (by omega))).trans ?_)); done)) rfl ?_
        refine z_iconst C dX9_restore_51 ?_
        refine z_callS C dX9_restore_52 lk_X9_71 mw_X9_copyRow mst_X9_copyRow (k_X9_copyRow h52 hgs2 hMr hgr (hA.ne (by decide)) (by decide) (fa := 5987 * ss) (ga := 0) (by omega) (by omega)) rfl (by first | decide | exact Nat.le_of_ble_eq_true rfl) ⟨by decide, by decide, by decide, by decide⟩ (fun _ _ h => False.elim h) (fun v M' hp => ?_)
        obtain ⟨rfl, fu, hu, zu⟩ := hp
        have fu2 : mF A _ _ [1] := fu
        have hSu := hsu.cg ((hYk.2.2.2 ss.toNat (by omega)).2 (by omega)) zu (fun i hi => by
          rw [mCp_at (by omega) (by omega), if_pos (by omega)]
          show gs2 _ = gs2 _
          congr 1
          omega)
        have hFu := hFr.set hA fu2 hu hSu
        have ou := hFu.1.1
        refine z_aload_n C dX9_restore_55 rfl ?_
        refine z_get C dX9_restore_56 fl_X9_7 (by first | assumption | ((repeat (first | assumption | exact va_up_self _ _ _ | refine (va_up_ne _ _ (by first | assumption | exact hA.ne (by decide) | exact hA.ne (by omega))).trans ?_)); done)) rfl ?_
        refine z_iconst C dX9_restore_59 ?_
        refine z_aldN C dX9_restore_60 (by first | assumption | ((repeat (first | assumption | exact va_up_self _ _ _ | refine (va_up_ne _ _ (by first | assumption | exact hA.ne (by decide) | exact hA.ne (by omega))).trans ?_)); done)) (by omega) (by omega) (by assumption) (fun hr60 => ?_)
        refine z_iret C hQ dX9_restore_61 rfl (by decide) (by decide) ?_
        exact mAnsY.ok hA hFu ((crr.tr (K := [0, 4, 1]) fu2 ⟨rfl, rfl⟩).mo rfl) er8 (by rw [q_restore, zqS_t (by omega), mq2_t (by omega)]) hSu.2.1
      · exact absurd (by rw [if_neg (by omega), e1]) (z2.t h29)
    · refine z_iconst C dX9_restore_20 ?_
      refine z_goto (tgt := 25) C dX9_restore_21 (by decide) ?_
      refine z_iconst C dX9_restore_25 ?_
      refine z_callV C dX9_restore_26 lk_X9_189 mw_X9_refuses mi_X9_refuses ms_X9_refuses rfl (by first | assumption | ((repeat (first | assumption | exact va_up_self _ _ _ | refine (va_up_ne _ _ (by first | assumption | exact hA.ne (by decide) | exact hA.ne (by omega))).trans ?_)); done)) (k_X9_refuses hA ob1 (r := 1) (w := 2) (by omega) (by omega) (by omega)) rfl (by first | decide | exact Nat.le_of_ble_eq_true rfl) ⟨by decide, by decide, by decide, by decide⟩ (fun _ _ h => False.elim h) (fun v M' hp => ?_)
      obtain ⟨r2, F2, rfl, f2, ob2, p2, e2, z2⟩ := hp
      have s2 := z2.rng
      have cf2 := cf1.tr (K := [0]) f2 ⟨rfl, rfl⟩
      have cp2 := cp1.tr (K := [8]) p2 ⟨rfl, rfl⟩
      refine z_if_eqZ (tgt := 34) C dX9_restore_29 (by decide) (by omega) (fun h29 => ?_) (fun h29 => ?_)
      · exact absurd (by rw [if_pos ⟨e1, by decide⟩]; decide) (z2.f h29)
      · refine z_iconst C dX9_restore_32 ?_
        refine z_iret C hQ dX9_restore_33 rfl (by decide) (by decide) ?_
        exact mAnsY.no hA hF cf2 ob2 cp2 e2 (z2.t h29) (by rw [q_restore, zqS_t (by omega), mq2_f (by omega), if_pos ⟨e1, by decide⟩])
set_option maxHeartbeats 4000000 in
set_option maxRecDepth 100000 in
theorem m_undo {l : Launch} {γ : zG} {M : zM} {A : Nat → Nat} {Y : zSys} {t0 : Int} (hMo0 : hMo γ M A Y t0) (hYk : yOk Y) :
    zCon l γ yX9_undo cX9_undo 1 (some .int) [.ref (A 0)] M 10 330 0 0 (mAnsY γ A M Y (y_undo Y) (q_undo Y)) (fun _ _ => False) := by
  obtain ⟨hA, F, h8, hF⟩ := hMo0
  obtain ⟨hsc, hec, hun, hsl, hinp, hou, ⟨g, hM, hS⟩, hrs⟩ := id hF
  have hO := hsc.1
  have hg := hS.1
  have hY := hYk.1
  have o1 := hY.1
  refine zEnter [some (.ref (A 0))] (by decide +kernel) rfl rfl (Nat.le_of_ble_eq_true rfl) ?_
  intro p e s m args below meth c Q C hin hQ
  obtain ⟨h7, hn6, gr, hR4, hgr, hrg⟩ := id hun
  obtain ⟨-, hpc, hps, -⟩ := hYk
  have hO1 : va_up M (A 0) (some (mOb A (va_up F 8 0))) (A 0) = some (mOb A (va_up F 8 0)) := va_up_self _ _ _
  have h81 : va_up F 8 0 8 = 0 := va_up_self _ _ _
  have h61 : va_up F 8 0 6 = yPc Y := (va_up_ne _ _ (by decide)).trans hn6
  refine z_aload_n C dX9_undo_0 rfl ?_
  refine z_iconst C dX9_undo_1 ?_
  refine z_putM C dX9_undo_2 fl_X9_85 (by first | assumption | ((repeat (first | assumption | exact va_up_self _ _ _ | refine (va_up_ne _ _ (by first | assumption | exact hA.ne (by decide) | exact hA.ne (by omega))).trans ?_)); done)) rfl ?_
  refine z_aload_n C dX9_undo_5 rfl ?_
  refine z_aload_n C dX9_undo_6 rfl ?_
  refine z_getM C dX9_undo_7 fl_X9_289 (by first | assumption | ((repeat (first | assumption | exact va_up_self _ _ _ | refine (va_up_ne _ _ (by first | assumption | exact hA.ne (by decide) | exact hA.ne (by omega))).trans ?_)); done)) rfl h61 ?_
  refine z_if_neZ (tgt := 17) C dX9_undo_10 (by decide) (by omega) (fun h10 => ?_) (fun h10 => ?_)
  · refine z_iconst C dX9_undo_17 ?_
    refine z_iconst C dX9_undo_18 ?_
    refine z_callV C dX9_undo_19 lk_X9_189 mw_X9_refuses mi_X9_refuses ms_X9_refuses rfl (by first | assumption | ((repeat (first | assumption | exact va_up_self _ _ _ | refine (va_up_ne _ _ (by first | assumption | exact hA.ne (by decide) | exact hA.ne (by omega))).trans ?_)); done)) (k_X9_refuses hA hO1 (r := 0) (w := 1) (by omega) (by omega) (by omega)) rfl (by first | decide | exact Nat.le_of_ble_eq_true rfl) ⟨by decide, by decide, by decide, by decide⟩ (fun _ _ h => False.elim h) (fun v M' hp => ?_)
    obtain ⟨r1, F1, rfl, f1, ob1, p1, e1, z1⟩ := hp
    have s1 := z1.rng
    have cf1 : mF A M _ [0] := ((mF.rf (K := [0])).up (i := 0) (x := some (mOb A (va_up F 8 0))) rfl).tr f1 ⟨rfl, rfl⟩
    have cp1 : mKp [8] F F1 := (mKp.rf.up (K := [8]) (i := 8) rfl).tr p1 ⟨rfl, rfl⟩
    refine z_if_eqZ (tgt := 27) C dX9_undo_22 (by decide) (by omega) (fun h22 => ?_) (fun h22 => ?_)
    · rw [if_neg (by omega), h81] at e1
      have h6F : F1 6 = yPc Y := (cp1 6 (by decide)).trans hn6
      have h7F : F1 7 = F 7 := cp1 7 (by decide)
      have m1 := cf1.at hA (.of rfl) hM
      have m4 := cf1.at hA (.of rfl) hR4
      refine z_aload_n C dX9_undo_27 rfl ?_
      refine z_dup C dX9_undo_28 rfl ?_
      refine z_getM C dX9_undo_29 fl_X9_289 (by first | assumption | ((repeat (first | assumption | exact va_up_self _ _ _ | refine (va_up_ne _ _ (by first | assumption | exact hA.ne (by decide) | exact hA.ne (by omega))).trans ?_)); done)) rfl h6F ?_
      refine z_iconst C dX9_undo_32 ?_
      refine z_isubZ C dX9_undo_33 ?_
      refine z_putM C dX9_undo_34 fl_X9_289 (by first | assumption | ((repeat (first | assumption | exact va_up_self _ _ _ | refine (va_up_ne _ _ (by first | assumption | exact hA.ne (by decide) | exact hA.ne (by omega))).trans ?_)); done)) rfl ?_
      refine z_aload_n C dX9_undo_37 rfl ?_
      refine z_get C dX9_undo_38 fl_X9_20 (by first | assumption | ((repeat (first | assumption | exact va_up_self _ _ _ | refine (va_up_ne _ _ (by first | assumption | exact hA.ne (by decide) | exact hA.ne (by omega))).trans ?_)); done)) rfl ?_
      refine z_sipush C dX9_undo_41 (by decide) ?_
      refine z_aload_n C dX9_undo_44 rfl ?_
      refine z_getM C dX9_undo_45 fl_X9_292 (by first | assumption | ((repeat (first | assumption | exact va_up_self _ _ _ | refine (va_up_ne _ _ (by first | assumption | exact hA.ne (by decide) | exact hA.ne (by omega))).trans ?_)); done)) rfl ((va_up_ne _ _ (by decide)).trans h7F) ?_
      refine z_aload_n C dX9_undo_48 rfl ?_
      refine z_getM C dX9_undo_49 fl_X9_289 (by first | assumption | ((repeat (first | assumption | exact va_up_self _ _ _ | refine (va_up_ne _ _ (by first | assumption | exact hA.ne (by decide) | exact hA.ne (by omega))).trans ?_)); done)) rfl (by first | assumption | ((repeat (first | assumption | exact va_up_self _ _ _ | rewrite [va_up_ne _ _ (by decide)])); (first | done | exact rfl))) ?_
      refine z_iaddZ C dX9_undo_52 ?_
      refine z_bipush C dX9_undo_53 (by decide) ?_
      refine z_iremZ C dX9_undo_55 (by omega) (by omega) ?_
      refine z_imulZ C dX9_undo_56 ?_
      refine z_aload_n C dX9_undo_57 rfl ?_
      refine z_get C dX9_undo_58 fl_X9_7 (by first | assumption | ((repeat (first | assumption | exact va_up_self _ _ _ | refine (va_up_ne _ _ (by first | assumption | exact hA.ne (by decide) | exact hA.ne (by omega))).trans ?_)); done)) rfl ?_
      refine z_iconst C dX9_undo_61 ?_
      refine z_callS C dX9_undo_62 lk_X9_71 mw_X9_copyRow mst_X9_copyRow (k_X9_copyRow (fa := 5987 * ((F 7 + (yPc Y - 1)) % 8)) (ga := 0) (by rw [va_up_ne _ _ (hA.ne (by decide))]; exact m4) hgr (by rw [va_up_ne _ _ (hA.ne (by decide))]; exact m1) hS.1 (hA.ne (by decide)) (by decide) (by omega) (by omega)) rfl (by first | decide | exact Nat.le_of_ble_eq_true rfl) ⟨by decide, by decide, by decide, by decide⟩ (fun _ _ h => False.elim h) (fun v M' hp => ?_)
      obtain ⟨rfl, fu, hu, zu⟩ := hp
      have fu2 : mF A _ _ [1] := fu
      have o62 := fu2.at hA (.of rfl) (va_up_self _ _ _)
      have pl : mRg (F 7) (yPc Y) 0 = (F 7 + (yPc Y - 1)) % 8 := by unfold mRg; omega
      have hSu := (hrg 0 (by omega)).cg (hps 0 (by omega)) zu (fun i hi => by
        rw [mCp_at (by omega) (by omega), if_pos (by omega), ← pl]
        show gr _ = gr _
        congr 1 <;> omega)
      refine z_aload_n C dX9_undo_65 rfl ?_
      refine z_getM C dX9_undo_66 fl_X9_289 (by first | assumption | ((repeat (first | assumption | exact va_up_self _ _ _ | refine (va_up_ne _ _ (by first | assumption | exact hA.ne (by decide) | exact hA.ne (by omega))).trans ?_)); done)) rfl (by first | assumption | ((repeat (first | assumption | exact va_up_self _ _ _ | rewrite [va_up_ne _ _ (by decide)])); (first | done | exact rfl))) ?_
      refine z_iret C hQ dX9_undo_69 rfl (by decide) (by decide) ?_
      have fz := ((cf1.up (i := 0) (x := some (mOb A (va_up F1 6 (yPc Y - 1)))) rfl).tr (K := [0, 1]) fu2 ⟨rfl, rfl⟩)
      have kz : mKp [8, 6] F (va_up F1 6 (yPc Y - 1)) := (cp1.tr (K := [8, 6]) (K2 := []) mKp.rf ⟨rfl, rfl⟩).up rfl
      obtain ⟨s0, ⟨s7, b1, b2⟩, ⟨s8, c1, c2⟩, s9, d1, d2⟩ := hsc
      refine mAnsY.ok hA (F' := va_up F1 6 (yPc Y - 1)) ?_ (fz.mo rfl) ((va_up_ne _ _ (by decide)).trans e1) (by rw [q_undo, if_neg (by omega)]) rfl
      rw [y_undo, if_neg (by omega)]
      refine ⟨⟨o62, ⟨s7, fz.at hA (.of rfl) b1, b2⟩, ⟨s8, fz.at hA (.of rfl) c1, c2⟩, s9, fz.at hA (.of rfl) d1, d2⟩, ⟨(kz 25 (by decide)).trans hec.1, (kz 26 (by decide)).trans hec.2⟩, ⟨by rw [kz 7 (by decide)]; exact h7, va_up_self _ _ _, gr, fz.at hA (.of rfl) hR4, hgr, fun i hi => ?_⟩, hsl.fr hA fz (.of rfl) (.of rfl), hinp.fr hA fz (.of rfl) (kz 19 (by decide)), hou.fr hA fz (.of rfl) (kz 29 (by decide)), ⟨_, hu, hSu⟩, hrs.fr hA fz (.of rfl) (.of rfl) (.of rfl) (.of rfl) (.of rfl)⟩
      have hi : (i : Int) < yPc Y - 1 := hi
      rw [kz 7 (by decide)]
      have pl2 : mRg (F 7) (yPc Y - 1) i = mRg (F 7) (yPc Y) (i + 1) := by unfold mRg; omega
      show mSt (fun j => gr (5987 * mRg (F 7) (yPc Y - 1) i + j).toNat) (yPs Y (i + 1))
      rw [pl2]
      exact hrg (i + 1) (by omega)
    · exact absurd (by rw [if_neg (by omega), h81]) (z1.t h22)
  · refine z_iconst C dX9_undo_13 ?_
    refine z_goto (tgt := 18) C dX9_undo_14 (by decide) ?_
    refine z_iconst C dX9_undo_18 ?_
    refine z_callV C dX9_undo_19 lk_X9_189 mw_X9_refuses mi_X9_refuses ms_X9_refuses rfl (by first | assumption | ((repeat (first | assumption | exact va_up_self _ _ _ | refine (va_up_ne _ _ (by first | assumption | exact hA.ne (by decide) | exact hA.ne (by omega))).trans ?_)); done)) (k_X9_refuses hA hO1 (r := 1) (w := 1) (by omega) (by omega) (by omega)) rfl (by first | decide | exact Nat.le_of_ble_eq_true rfl) ⟨by decide, by decide, by decide, by decide⟩ (fun _ _ h => False.elim h) (fun v M' hp => ?_)
    obtain ⟨r1, F1, rfl, f1, ob1, p1, e1, z1⟩ := hp
    have s1 := z1.rng
    have cf1 : mF A M _ [0] := ((mF.rf (K := [0])).up (i := 0) (x := some (mOb A (va_up F 8 0))) rfl).tr f1 ⟨rfl, rfl⟩
    have cp1 : mKp [8] F F1 := (mKp.rf.up (K := [8]) (i := 8) rfl).tr p1 ⟨rfl, rfl⟩
    refine z_if_eqZ (tgt := 27) C dX9_undo_22 (by decide) (by omega) (fun h22 => ?_) (fun h22 => ?_)
    · exact absurd (by rw [if_pos ⟨h81, by decide⟩]; decide) (z1.f h22)
    · refine z_iconst C dX9_undo_25 ?_
      refine z_iret C hQ dX9_undo_26 rfl (by decide) (by decide) ?_
      exact mAnsY.no hA hF cf1 ob1 cp1 e1 (z1.t h22) (by rw [q_undo, if_pos (by omega), if_pos ⟨h81, by decide⟩])

