/-! the model's changes: years, trainings, readers -/
theorem mF.one {A : Nat → Nat} {M : zM} {i : Nat} {x : Option va_E} : mF A M (va_up M (A i) x) [i] := mF.rf.up (by simp)
theorem hMf.sq {γ : zG} {M M' : zM} {A : Nat → Nat} {F F' g' : Nat → Int} {Y : zSys} {S' : zSt} (hA : mIA A) (h : hMf γ M A F Y) (f : mF A M M' [0, 7, 8, 9, 1]) (kp : mKp [10, 13] F F') (sc : mSc γ M' A F') (h1 : M' (A 1) = some (zar γ 5987 g')) (hs : mSt g' S') : hMf γ M' A F' (ySet Y S') := by
  obtain ⟨a, b, u, w, i, q, -, t⟩ := h
  exact ⟨sc, ⟨(kp 25 (by decide)).trans b.1, (kp 26 (by decide)).trans b.2⟩, u.fr hA f (.of rfl) (kp 6 (by decide)) (kp 7 (by decide)), w.fr hA f (.of rfl) (.of rfl), i.fr hA f (.of rfl) (kp 19 (by decide)), q.fr hA f (.of rfl) (kp 29 (by decide)), ⟨g', h1, hs⟩, t.fr hA f (.of rfl) (.of rfl) (.of rfl) (.of rfl) (.of rfl)⟩
theorem mSr.me {g : Nat → Int} {r m : Int} {R : zRdr} {G : List Int} (h : mSr g r R G) (hr : 0 ≤ r) : mSr (va_up g (339 + 1412 * r + 1).toNat m) r (rSetM R m) G := by
  obtain ⟨h1, h2, h3, h4, h5⟩ := h
  refine ⟨by rw [va_up_ne _ _ (by omega)]; exact h1, va_up_self _ _ _, by rw [va_up_ne _ _ (by omega)]; exact h3, fun d d1 d2 => by rw [va_up_ne _ _ (by omega)]; exact h4 d d1 d2, ?_⟩
  obtain ⟨l1, l2, l3, l4⟩ := h5
  have k1 : ∀ w : Nat, 339 + 1412 * r + 11 ≤ w → va_up g (339 + 1412 * r + 1).toNat m w = g w := fun w hw => va_up_ne _ _ (by omega)
  have e1 : mMa (va_up g (339 + 1412 * r + 1).toNat m) r = mMa g r := k1 _ (by omega)
  have e2 : ∀ j : Int, 0 ≤ j → mKe (va_up g (339 + 1412 * r + 1).toNat m) r j = mKe g r j ∧ mVa (va_up g (339 + 1412 * r + 1).toNat m) r j = mVa g r j := fun j hj => ⟨k1 _ (by omega), k1 _ (by omega)⟩
  unfold mRp
  rw [e1]
  refine ⟨l1, fun j a1 a2 => ?_, fun i j a1 a2 a3 => ?_, fun key hk => ?_⟩
  · rw [(e2 j a1).1, (e2 j a1).2]
    exact l2 j a1 a2
  · rw [(e2 i a1).1, (e2 j (by omega)).1]
    exact l3 i j a1 a2 a3
  · obtain ⟨j, a1, a2, a3⟩ := l4 key hk
    exact ⟨j, a1, a2, by rw [(e2 j a1).1]; exact a3⟩
set_option maxHeartbeats 4000000 in
set_option maxRecDepth 100000 in
theorem m_endYear {l : Launch} {γ : zG} {M : zM} {A : Nat → Nat} {Y : zSys} {t0 : Int} (hMo0 : hMo γ M A Y t0) (hYk : yOk Y) :
    zCon l γ yX9_endYear cX9_endYear 1 (some .int) [.ref (A 0)] M 10 330 0 0 (mAnsY γ A M Y (y_endYear Y) (q_endYear Y)) (fun _ _ => False) := by
  obtain ⟨hA, F, h8, hF⟩ := hMo0
  obtain ⟨hsc, hec, hun, hsl, hinp, hou, ⟨g, hM, hS⟩, hrs⟩ := id hF
  have hO := hsc.1
  have hg := hS.1
  have hY := hYk.1
  have o1 := hY.1
  refine zEnter [some (.ref (A 0))] (by decide +kernel) rfl rfl (Nat.le_of_ble_eq_true rfl) ?_
  intro p e s m args below meth c Q C hin hQ
  have cf1 : mF A M (va_up M (A 0) (some (mOb A (va_up F 8 0)))) [0] := mF.rf.up rfl
  have hF1 : hMf γ (va_up M (A 0) (some (mOb A (va_up F 8 0)))) A (va_up F 8 0) Y := hF.q0 hA cf1 (va_up_self _ _ _) (mKp.rf.up rfl : mKp [8] F _) rfl
  have e1 : va_up F 8 0 8 = 0 := va_up_self _ _ _
  refine z_aload_n C dX9_endYear_0 rfl ?_
  refine z_iconst C dX9_endYear_1 ?_
  refine z_putM C dX9_endYear_2 fl_X9_85 (by first | assumption | ((repeat (first | assumption | exact va_up_self _ _ _ | refine (va_up_ne _ _ (by first | assumption | exact hA.ne (by decide) | exact hA.ne (by omega))).trans ?_)); done)) rfl ?_
  refine z_aload_n C dX9_endYear_5 rfl ?_
  refine z_callV C dX9_endYear_6 lk_X9_286 mw_X9_remember mi_X9_remember ms_X9_remember rfl (by first | assumption | ((repeat (first | assumption | exact va_up_self _ _ _ | refine (va_up_ne _ _ (by first | assumption | exact hA.ne (by decide) | exact hA.ne (by omega))).trans ?_)); done)) (k_X9_remember hA hF1 hYk) rfl (by first | decide | exact Nat.le_of_ble_eq_true rfl) ⟨by decide, by decide, by decide, by decide⟩ (fun _ _ h => False.elim h) (fun v M' hp => ?_)
  obtain ⟨rfl, fr, Fr, pr, hFr⟩ := hp
  have orr := hFr.1.1
  obtain ⟨gr, hMr, hSr0⟩ := hFr.2.2.2.2.2.2.1
  have hSr : mSt gr (yS Y) := hSr0
  have hgr := hSr.1
  have er8 : Fr 8 = 0 := (pr 8 (by decide)).trans e1
  have crr := cf1.tr (K := [0, 4]) fr ⟨rfl, rfl⟩
  refine z_aload_n C dX9_endYear_9 rfl ?_
  refine z_get C dX9_endYear_10 fl_X9_7 (by first | assumption | ((repeat (first | assumption | exact va_up_self _ _ _ | refine (va_up_ne _ _ (by first | assumption | exact hA.ne (by decide) | exact hA.ne (by omega))).trans ?_)); done)) rfl ?_
  refine z_callS C dX9_endYear_13 lk_X9_282 mw_X9_passYear mst_X9_passYear (k_X9_passYear hMr hSr hY) rfl (by first | decide | exact Nat.le_of_ble_eq_true rfl) ⟨by decide, by decide, by decide, by decide⟩ (fun _ _ h => False.elim h) (fun v M' hp => ?_)
  obtain ⟨rfl, fu, gu, hu, hSu⟩ := hp
  have fu2 : mF A _ _ [1] := fu
  have hFu := hFr.set hA fu2 hu hSu
  have ou := hFu.1.1
  have hgu := hSu.1
  refine z_aload_n C dX9_endYear_16 rfl ?_
  refine z_get C dX9_endYear_17 fl_X9_7 (by first | assumption | ((repeat (first | assumption | exact va_up_self _ _ _ | refine (va_up_ne _ _ (by first | assumption | exact hA.ne (by decide) | exact hA.ne (by omega))).trans ?_)); done)) rfl ?_
  refine z_iconst C dX9_endYear_20 ?_
  refine z_aldN C dX9_endYear_21 (by first | assumption | ((repeat (first | assumption | exact va_up_self _ _ _ | refine (va_up_ne _ _ (by first | assumption | exact hA.ne (by decide) | exact hA.ne (by omega))).trans ?_)); done)) (by omega) (by omega) (by assumption) (fun hr21 => ?_)
  refine z_iret C hQ dX9_endYear_22 rfl (by decide) (by decide) ?_
  exact mAnsY.ok hA hFu ((crr.tr (K := [0, 4, 1]) fu2 ⟨rfl, rfl⟩).mo rfl) er8 rfl hSu.2.1
set_option maxHeartbeats 4000000 in
set_option maxRecDepth 100000 in
theorem m_train {l : Launch} {γ : zG} {M : zM} {A : Nat → Nat} {Y : zSys} {t0 : Int} {rr dd : Int} (hMo0 : hMo γ M A Y t0) (hYk : yOk Y) (r_rr : zR rr) (r_dd : zR dd) :
    zCon l γ yX9_train cX9_train 3 (some .int) [.ref (A 0), .int (zi rr), .int (zi dd)] M 10 330 0 0 (mAnsY γ A M Y (y_train Y rr dd) (q_train Y rr dd)) (fun _ _ => False) := by
  obtain ⟨hA, F, h8, hF⟩ := hMo0
  obtain ⟨hsc, hec, hun, hsl, hinp, hou, ⟨g, hM, hS⟩, hrs⟩ := id hF
  have hO := hsc.1
  have hg := hS.1
  have hY := hYk.1
  have o1 := hY.1
  have z_rr := r_rr
  unfold zR at z_rr
  have z_dd := r_dd
  unfold zR at z_dd
  refine zEnter [some (.ref (A 0)), some (.int (zi rr)), some (.int (zi dd))] (by decide +kernel) rfl rfl (Nat.le_of_ble_eq_true rfl) ?_
  intro p e s m args below meth c Q C hin hQ
  refine z_aload_n C dX9_train_0 rfl ?_
  refine z_iload_n C dX9_train_1 rfl ?_
  refine z_iload_n C dX9_train_2 rfl ?_
  refine z_callV C dX9_train_3 lk_X9_328 mw_X9_noBoth mi_X9_noBoth ms_X9_noBoth rfl (by first | assumption | ((repeat (first | assumption | exact va_up_self _ _ _ | refine (va_up_ne _ _ (by first | assumption | exact hA.ne (by decide) | exact hA.ne (by omega))).trans ?_)); done)) (k_X9_noBoth hA hO hM hS hY r_rr r_dd) rfl (by first | decide | exact Nat.le_of_ble_eq_true rfl) ⟨by decide, by decide, by decide, by decide⟩ (fun _ _ h => False.elim h) (fun v M' hp => ?_)
  obtain ⟨r1, F1, rfl, f1, ob1, p1, e1, z1⟩ := hp
  have s1 := z1.rng
  have cf1 := f1
  have cp1 := p1
  have hM1 := cf1.at hA (.of rfl) hM
  refine z_if_eqZ (tgt := 11) C dX9_train_6 (by decide) (by omega) (fun h6 => ?_) (fun h6 => ?_)
  · have t1 := Decidable.not_not.mp (z1.f h6)
    rw [t1] at e1
    obtain ⟨c1, c0⟩ := mqR_0 t1
    obtain ⟨c2, -⟩ := mqD_0 c0
    have hF1 := hF.q0 hA cf1 ob1 cp1 rfl
    have hs1 := hF1.1
    refine z_aload_n C dX9_train_11 rfl ?_
    refine z_callV C dX9_train_12 lk_X9_286 mw_X9_remember mi_X9_remember ms_X9_remember rfl (by first | assumption | ((repeat (first | assumption | exact va_up_self _ _ _ | refine (va_up_ne _ _ (by first | assumption | exact hA.ne (by decide) | exact hA.ne (by omega))).trans ?_)); done)) (k_X9_remember hA hF1 hYk) rfl (by first | decide | exact Nat.le_of_ble_eq_true rfl) ⟨by decide, by decide, by decide, by decide⟩ (fun _ _ h => False.elim h) (fun v M' hp => ?_)
    obtain ⟨rfl, fr, Fr, pr, hFr⟩ := hp
    have orr := hFr.1.1
    obtain ⟨gr, hMr, hSr0⟩ := hFr.2.2.2.2.2.2.1
    have hSr : mSt gr (yS Y) := hSr0
    have hgr := hSr.1
    have er8 : Fr 8 = 0 := (pr 8 (by decide)).trans e1
    have crr := cf1.tr (K := [0, 4]) fr ⟨rfl, rfl⟩
    refine z_aload_n C dX9_train_15 rfl ?_
    refine z_get C dX9_train_16 fl_X9_7 (by first | assumption | ((repeat (first | assumption | exact va_up_self _ _ _ | refine (va_up_ne _ _ (by first | assumption | exact hA.ne (by decide) | exact hA.ne (by omega))).trans ?_)); done)) rfl ?_
    refine z_iload_n C dX9_train_19 rfl ?_
    refine z_iload_n C dX9_train_20 rfl ?_
    refine z_callS C dX9_train_21 lk_X9_262 mw_X9_trainOn mst_X9_trainOn (k_X9_trainOnS hMr hSr hY c1 c2) rfl (by first | decide | exact Nat.le_of_ble_eq_true rfl) ⟨by decide, by decide, by decide, by decide⟩ (fun _ _ h => False.elim h) (fun v M' hp => ?_)
    obtain ⟨rfl, fu, gu, hu, hSu⟩ := hp
    have fu2 : mF A _ _ [1] := fu
    have hFu := hFr.set hA fu2 hu hSu
    have ou := hFu.1.1
    have hRu := hSu.rd (sTrn_ok hY c1 c2) (r := rr) (d := dd) c1 c2
    rw [sTrn_c] at hRu
    refine z_aload_n C dX9_train_24 rfl ?_
    refine z_aload_n C dX9_train_25 rfl ?_
    refine z_get C dX9_train_26 fl_X9_7 (by first | assumption | ((repeat (first | assumption | exact va_up_self _ _ _ | refine (va_up_ne _ _ (by first | assumption | exact hA.ne (by decide) | exact hA.ne (by omega))).trans ?_)); done)) rfl ?_
    refine z_iload_n C dX9_train_29 rfl ?_
    refine z_iload_n C dX9_train_30 rfl ?_
    refine z_callV C dX9_train_31 lk_X9_345 mw_X9_guesses mi_X9_guesses ms_X9_guesses rfl hFu.1.1 (k_X9_guesses hA hFu.1 (kq := 1) (.inl rfl) hu hRu) rfl (by first | decide | exact Nat.le_of_ble_eq_true rfl) ⟨by decide, by decide, by decide, by decide⟩ (fun _ _ h => False.elim h) (fun v M' hp => ?_)
    obtain ⟨rfl, fa, Fa, pa, sa⟩ := hp
    refine z_iret C hQ dX9_train_34 rfl (by decide) (by decide) ?_
    exact mAnsY.ok hA (hFu.q1 hA fa rfl pa rfl sa) (((crr.tr (K := [0, 4, 1]) fu2 ⟨rfl, rfl⟩).tr (K := [0, 4, 1, 7, 8, 9]) fa ⟨rfl, rfl⟩).mo rfl) ((pa 8 (by decide)).trans er8) (by rw [q_train, mqR_t c1, mqD_t c2]; rfl) rfl
  · refine z_iconst C dX9_train_9 ?_
    refine z_iret C hQ dX9_train_10 rfl (by decide) (by decide) ?_
    exact mAnsY.no hA hF cf1 ob1 cp1 e1 (z1.t h6) (mqR_1 (mqD_1 rfl))
set_option maxHeartbeats 4000000 in
set_option maxRecDepth 100000 in
theorem m_learn {l : Launch} {γ : zG} {M : zM} {A : Nat → Nat} {Y : zSys} {t0 : Int} {rr dd : Int} (hMo0 : hMo γ M A Y t0) (hYk : yOk Y) (r_rr : zR rr) (r_dd : zR dd) :
    zCon l γ yX9_learn cX9_learn 3 (some .int) [.ref (A 0), .int (zi rr), .int (zi dd)] M 10 330 0 0 (mAnsY γ A M Y (y_learn Y rr dd) (q_learn Y rr dd)) (fun _ _ => False) := by
  obtain ⟨hA, F, h8, hF⟩ := hMo0
  obtain ⟨hsc, hec, hun, hsl, hinp, hou, ⟨g, hM, hS⟩, hrs⟩ := id hF
  have hO := hsc.1
  have hg := hS.1
  have hY := hYk.1
  have o1 := hY.1
  have z_rr := r_rr
  unfold zR at z_rr
  have z_dd := r_dd
  unfold zR at z_dd
  refine zEnter [some (.ref (A 0)), some (.int (zi rr)), some (.int (zi dd))] (by decide +kernel) rfl rfl (Nat.le_of_ble_eq_true rfl) ?_
  intro p e s m args below meth c Q C hin hQ
  refine z_aload_n C dX9_learn_0 rfl ?_
  refine z_iload_n C dX9_learn_1 rfl ?_
  refine z_iload_n C dX9_learn_2 rfl ?_
  refine z_callV C dX9_learn_3 lk_X9_328 mw_X9_noBoth mi_X9_noBoth ms_X9_noBoth rfl (by first | assumption | ((repeat (first | assumption | exact va_up_self _ _ _ | refine (va_up_ne _ _ (by first | assumption | exact hA.ne (by decide) | exact hA.ne (by omega))).trans ?_)); done)) (k_X9_noBoth hA hO hM hS hY r_rr r_dd) rfl (by first | decide | exact Nat.le_of_ble_eq_true rfl) ⟨by decide, by decide, by decide, by decide⟩ (fun _ _ h => False.elim h) (fun v M' hp => ?_)
  obtain ⟨r1, F1, rfl, f1, ob1, p1, e1, z1⟩ := hp
  have s1 := z1.rng
  have cf1 := f1
  have cp1 := p1
  have hM1 := cf1.at hA (.of rfl) hM
  refine z_if_eqZ (tgt := 11) C dX9_learn_6 (by decide) (by omega) (fun h6 => ?_) (fun h6 => ?_)
  · have t1 := Decidable.not_not.mp (z1.f h6)
    rw [t1] at e1
    obtain ⟨c1, c0⟩ := mqR_0 t1
    obtain ⟨c2, -⟩ := mqD_0 c0
    have hF1 := hF.q0 hA cf1 ob1 cp1 rfl
    have hs1 := hF1.1
    refine z_aload_n C dX9_learn_11 rfl ?_
    refine z_callV C dX9_learn_12 lk_X9_286 mw_X9_remember mi_X9_remember ms_X9_remember rfl (by first | assumption | ((repeat (first | assumption | exact va_up_self _ _ _ | refine (va_up_ne _ _ (by first | assumption | exact hA.ne (by decide) | exact hA.ne (by omega))).trans ?_)); done)) (k_X9_remember hA hF1 hYk) rfl (by first | decide | exact Nat.le_of_ble_eq_true rfl) ⟨by decide, by decide, by decide, by decide⟩ (fun _ _ h => False.elim h) (fun v M' hp => ?_)
    obtain ⟨rfl, fr, Fr, pr, hFr⟩ := hp
    have orr := hFr.1.1
    obtain ⟨gr, hMr, hSr0⟩ := hFr.2.2.2.2.2.2.1
    have hSr : mSt gr (yS Y) := hSr0
    have hgr := hSr.1
    have er8 : Fr 8 = 0 := (pr 8 (by decide)).trans e1
    have crr := cf1.tr (K := [0, 4]) fr ⟨rfl, rfl⟩
    refine z_aload_n C dX9_learn_15 rfl ?_
    refine z_aload_n C dX9_learn_16 rfl ?_
    refine z_get C dX9_learn_17 fl_X9_7 (by first | assumption | ((repeat (first | assumption | exact va_up_self _ _ _ | refine (va_up_ne _ _ (by first | assumption | exact hA.ne (by decide) | exact hA.ne (by omega))).trans ?_)); done)) rfl ?_
    refine z_iload_n C dX9_learn_20 rfl ?_
    refine z_iload_n C dX9_learn_21 rfl ?_
    refine z_callV C dX9_learn_22 lk_X9_351 mw_X9_learnAll mi_X9_learnAll ms_X9_learnAll rfl hFr.1.1 (k_X9_learnAll hA hFr.1 (kq := 1) (.inl rfl) hMr hSr hY c1 c2) rfl (by first | decide | exact Nat.le_of_ble_eq_true rfl) ⟨by decide, by decide, by decide, by decide⟩ (fun _ _ h => False.elim h) (fun v M' hp => ?_)
    obtain ⟨rfl, fa, Fa, pa, sa, ga, ha1, hSa⟩ := hp
    refine z_iret C hQ dX9_learn_25 rfl (by decide) (by decide) ?_
    exact mAnsY.ok hA (hFr.sq hA fa pa sa ha1 hSa) ((crr.tr (K := [0, 4, 1, 7, 8, 9]) fa ⟨rfl, rfl⟩).mo rfl) ((pa 8 (by decide)).trans er8) (by rw [q_learn, mqR_t c1, mqD_t c2]) rfl
  · refine z_iconst C dX9_learn_9 ?_
    refine z_iret C hQ dX9_learn_10 rfl (by decide) (by decide) ?_
    exact mAnsY.no hA hF cf1 ob1 cp1 e1 (z1.t h6) (mqR_1 (mqD_1 rfl))
set_option maxHeartbeats 4000000 in
set_option maxRecDepth 100000 in
theorem m_setEscapeMethod {l : Launch} {γ : zG} {M : zM} {A : Nat → Nat} {Y : zSys} {t0 : Int} {rr mm : Int} (hMo0 : hMo γ M A Y t0) (hYk : yOk Y) (r_rr : zR rr) (r_mm : zR mm) :
    zCon l γ yX9_setEscapeMethod cX9_setEscapeMethod 4 (some .int) [.ref (A 0), .int (zi rr), .int (zi mm)] M 10 330 0 0 (mAnsY γ A M Y (y_setEscapeMethod Y rr mm) (q_setEscapeMethod Y rr mm)) (fun _ _ => False) := by
  obtain ⟨hA, F, h8, hF⟩ := hMo0
  obtain ⟨hsc, hec, hun, hsl, hinp, hou, ⟨g, hM, hS⟩, hrs⟩ := id hF
  have hO := hsc.1
  have hg := hS.1
  have hY := hYk.1
  have o1 := hY.1
  have z_rr := r_rr
  unfold zR at z_rr
  have z_mm := r_mm
  unfold zR at z_mm
  refine zEnter [some (.ref (A 0)), some (.int (zi rr)), some (.int (zi mm)), none] (by decide +kernel) rfl rfl (Nat.le_of_ble_eq_true rfl) ?_
  intro p e s m args below meth c Q C hin hQ
  refine z_aload_n C dX9_setEscapeMethod_0 rfl ?_
  refine z_iload_n C dX9_setEscapeMethod_1 rfl ?_
  refine z_callV C dX9_setEscapeMethod_2 lk_X9_295 mw_X9_noReader mi_X9_noReader ms_X9_noReader rfl (by first | assumption | ((repeat (first | assumption | exact va_up_self _ _ _ | refine (va_up_ne _ _ (by first | assumption | exact hA.ne (by decide) | exact hA.ne (by omega))).trans ?_)); done)) (k_X9_noReader hA hO hM hS hY r_rr) rfl (by first | decide | exact Nat.le_of_ble_eq_true rfl) ⟨by decide, by decide, by decide, by decide⟩ (fun _ _ h => False.elim h) (fun v M' hp => ?_)
  obtain ⟨r1, F1, rfl, f1, ob1, p1, e1, z1⟩ := hp
  have s1 := z1.rng
  have cf1 := f1
  have cp1 := p1
  have hM1 := cf1.at hA (.of rfl) hM
  refine z_if_neZ (tgt := 18) C dX9_setEscapeMethod_5 (by decide) (by omega) (fun h5 => ?_) (fun h5 => ?_)
  · refine z_iconst C dX9_setEscapeMethod_18 ?_
    refine z_iret C hQ dX9_setEscapeMethod_19 rfl (by decide) (by decide) ?_
    exact mAnsY.no hA hF cf1 ob1 cp1 e1 (z1.t h5) (by rw [q_setEscapeMethod, mqR_f (fun w => z1.t h5 (by rw [mqR_t w])), mqR_f (fun w => z1.t h5 (by rw [mqR_t w]))])
  · have t1 := Decidable.not_not.mp (z1.f h5)
    rw [t1] at e1
    obtain ⟨c1, -⟩ := mqR_0 t1
    refine z_aload_n C dX9_setEscapeMethod_8 rfl ?_
    refine z_iload_n C dX9_setEscapeMethod_9 rfl ?_
    refine z_iconst C dX9_setEscapeMethod_10 ?_
    refine z_iconst C dX9_setEscapeMethod_11 ?_
    refine z_callV C dX9_setEscapeMethod_12 lk_X9_301 mw_X9_out mi_X9_out ms_X9_out rfl (by first | assumption | ((repeat (first | assumption | exact va_up_self _ _ _ | refine (va_up_ne _ _ (by first | assumption | exact hA.ne (by decide) | exact hA.ne (by omega))).trans ?_)); done)) (k_X9_out hA ob1 e1 (x := mm) (a := 0) (b := 2) r_mm (by unfold zR; omega) (by unfold zR; omega)) rfl (by first | decide | exact Nat.le_of_ble_eq_true rfl) ⟨by decide, by decide, by decide, by decide⟩ (fun _ _ h => False.elim h) (fun v M' hp => ?_)
    obtain ⟨r2, F2, rfl, f2, ob2, p2, e2, z2⟩ := hp
    have s2 := z2.rng
    have cf2 := cf1.tr (K := [0]) f2 ⟨rfl, rfl⟩
    have cp2 := cp1.tr (K := [8]) p2 ⟨rfl, rfl⟩
    have hM2 := cf2.at hA (.of rfl) hM
    refine z_if_eqZ (tgt := 20) C dX9_setEscapeMethod_15 (by decide) (by omega) (fun h15 => ?_) (fun h15 => ?_)
    · have t2 := Decidable.not_not.mp (z2.f h15)
      rw [t2] at e2
      have t3 := mOut t2
      have hF1 := hF.q0 hA cf2 ob2 cp2 rfl
      refine z_aload_n C dX9_setEscapeMethod_20 rfl ?_
      refine z_callV C dX9_setEscapeMethod_21 lk_X9_286 mw_X9_remember mi_X9_remember ms_X9_remember rfl (by first | assumption | ((repeat (first | assumption | exact va_up_self _ _ _ | refine (va_up_ne _ _ (by first | assumption | exact hA.ne (by decide) | exact hA.ne (by omega))).trans ?_)); done)) (k_X9_remember hA hF1 hYk) rfl (by first | decide | exact Nat.le_of_ble_eq_true rfl) ⟨by decide, by decide, by decide, by decide⟩ (fun _ _ h => False.elim h) (fun v M' hp => ?_)
      obtain ⟨rfl, fr, Fr, pr, hFr⟩ := hp
      have orr := hFr.1.1
      obtain ⟨gr, hMr, hSr0⟩ := hFr.2.2.2.2.2.2.1
      have hSr : mSt gr (yS Y) := hSr0
      have hgr := hSr.1
      have er8 : Fr 8 = 0 := (pr 8 (by decide)).trans e2
      have crr := cf2.tr (K := [0, 4]) fr ⟨rfl, rfl⟩
      have hRr := hSr.r c1
      refine z_aload_n C dX9_setEscapeMethod_24 rfl ?_
      refine z_get C dX9_setEscapeMethod_25 fl_X9_7 (by first | assumption | ((repeat (first | assumption | exact va_up_self _ _ _ | refine (va_up_ne _ _ (by first | assumption | exact hA.ne (by decide) | exact hA.ne (by omega))).trans ?_)); done)) rfl ?_
      refine z_iload_n C dX9_setEscapeMethod_28 rfl ?_
      refine z_callS C dX9_setEscapeMethod_29 lk_X9_92 mw_X9_atReader mst_X9_atReader k_X9_atReader rfl (by first | decide | exact Nat.le_of_ble_eq_true rfl) ⟨by decide, by decide, by decide, by decide⟩ (fun _ _ h => False.elim h) (fun v M' hp => ?_)
      obtain ⟨rfl, rfl⟩ := hp
      refine z_iconst C dX9_setEscapeMethod_32 ?_
      refine z_iaddZ C dX9_setEscapeMethod_33 ?_
      refine z_aldN C dX9_setEscapeMethod_34 (by first | assumption | ((repeat (first | assumption | exact va_up_self _ _ _ | refine (va_up_ne _ _ (by first | assumption | exact hA.ne (by decide) | exact hA.ne (by omega))).trans ?_)); done)) (by omega) (by omega) (by assumption) (fun hr34 => ?_)
      rw [hRr.2.1] at hr34 ⊢
      refine z_istore_n C dX9_setEscapeMethod_35 (by decide) ?_
      refine z_aload_n C dX9_setEscapeMethod_36 rfl ?_
      refine z_get C dX9_setEscapeMethod_37 fl_X9_7 (by first | assumption | ((repeat (first | assumption | exact va_up_self _ _ _ | refine (va_up_ne _ _ (by first | assumption | exact hA.ne (by decide) | exact hA.ne (by omega))).trans ?_)); done)) rfl ?_
      refine z_iload_n C dX9_setEscapeMethod_40 rfl ?_
      refine z_callS C dX9_setEscapeMethod_41 lk_X9_92 mw_X9_atReader mst_X9_atReader k_X9_atReader rfl (by first | decide | exact Nat.le_of_ble_eq_true rfl) ⟨by decide, by decide, by decide, by decide⟩ (fun _ _ h => False.elim h) (fun v M' hp => ?_)
      obtain ⟨rfl, rfl⟩ := hp
      refine z_iconst C dX9_setEscapeMethod_44 ?_
      refine z_iaddZ C dX9_setEscapeMethod_45 ?_
      refine z_iload_n C dX9_setEscapeMethod_46 rfl ?_
      refine z_astN C dX9_setEscapeMethod_47 (by first | assumption | ((repeat (first | assumption | exact va_up_self _ _ _ | refine (va_up_ne _ _ (by first | assumption | exact hA.ne (by decide) | exact hA.ne (by omega))).trans ?_)); done)) (by omega) (by omega) (by assumption) (by omega) (fun hr47 => ?_)
      refine z_iload_n C dX9_setEscapeMethod_48 rfl ?_
      refine z_iret C hQ dX9_setEscapeMethod_49 rfl (by decide) (by decide) ?_
      have hSu := hSr.setR hY hr47 (r := rr.toNat) (R := rSetM (sRd (yS Y) rr.toNat) mm) (by omega) (fun i hi => va_up_ne _ _ (by omega)) (by rw [show ((rr.toNat : Nat) : Int) = rr by omega]; exact hRr.me (by omega))
      exact mAnsY.ok hA (hFr.set hA mF.one (va_up_self _ _ _) hSu) ((crr.tr (K := [0, 4, 1]) (mF.one (i := 1)) ⟨rfl, rfl⟩).mo rfl) er8 (by rw [q_setEscapeMethod, mqR_t c1, mq2_t t3]) rfl
    · refine z_iconst C dX9_setEscapeMethod_18 ?_
      refine z_iret C hQ dX9_setEscapeMethod_19 rfl (by decide) (by decide) ?_
      exact mAnsY.no hA hF cf2 ob2 cp2 e2 (z2.t h15) (by rw [q_setEscapeMethod, mqR_t c1]; exact mOut_q Iff.rfl)
set_option maxHeartbeats 4000000 in
set_option maxRecDepth 100000 in
theorem m_forget {l : Launch} {γ : zG} {M : zM} {A : Nat → Nat} {Y : zSys} {t0 : Int} {rr : Int} (hMo0 : hMo γ M A Y t0) (hYk : yOk Y) (r_rr : zR rr) :
    zCon l γ yX9_forget cX9_forget 5 (some .int) [.ref (A 0), .int (zi rr)] M 10 330 0 0 (mAnsY γ A M Y (y_forget Y rr) (q_forget Y rr)) (fun _ _ => False) := by
  obtain ⟨hA, F, h8, hF⟩ := hMo0
  obtain ⟨hsc, hec, hun, hsl, hinp, hou, ⟨g, hM, hS⟩, hrs⟩ := id hF
  have hO := hsc.1
  have hg := hS.1
  have hY := hYk.1
  have o1 := hY.1
  have z_rr := r_rr
  unfold zR at z_rr
  refine zEnter [some (.ref (A 0)), some (.int (zi rr)), none, none, none] (by decide +kernel) rfl rfl (Nat.le_of_ble_eq_true rfl) ?_
  intro p e s m args below meth c Q C hin hQ
  have loop : ∀ (c1 : 0 ≤ rr ∧ rr < sRn (yS Y)) (t : Nat) (M1 : zM) (Fr gr g1 : Nat → Int) (k po : Int), 8 - k = t → 0 ≤ k ∧ k ≤ 8 → zi po = zi (q_forget Y rr).2 → hMf γ M1 A Fr (yRem Y) ∨ True → M1 (A 0) = some (mOb A Fr) → M1 (A 1) = some (zar γ 5987 g1) → (∀ j, zR (g1 j)) → mSt gr (yS Y) → (g1 (339 + 1412 * rr + 2).toNat = 0 ∧ g1 (339 + 1412 * rr + 11).toNat = 0) → (∀ d : Int, 0 ≤ d → d < k → g1 (339 + 1412 * rr + 3 + d).toNat = 0) → (∀ i : Nat, ((i : Int) < 339 + 1412 * rr + 2 ∨ 339 + 1412 * rr + 12 ≤ i) → g1 i = gr i) → (∀ (M2 : zM) (g2 : Nat → Int), mF A M1 M2 [1] → M2 (A 1) = some (zar γ 5987 g2) → mSt g2 (sSetR (yS Y) rr.toNat (rClr (sRd (yS Y) rr.toNat))) → mAnsY γ A M Y (y_forget Y rr) (q_forget Y rr) (some (.int (zi po))) M2) → zAW p l e { frames := 10, cells := 0, slots := 0, locals := 330 } s m args below meth c γ 5 Q M1 0 0 50 [some (.ref (A 0)), some (.int (zi rr)), some (.int (zi po)), some (.int (zi (339 + 1412 * rr))), some (.int (zi k))] [] := by
    intro c1 t
    induction t with
    | zero =>
      intro M1 Fr gr g1 k po ht hk hpo _ hO1 hM1 hg1 hSr hz hd ho hfin
      obtain rfl : k = 8 := by omega
      have hRr := hSr.r c1
      obtain ⟨r1, r2, r3, r4, r5⟩ := hRr
      refine z_iload C dX9_forget_50 rfl ?_
      refine z_bipush C dX9_forget_52 (by decide) ?_
      refine z_icmp_geZ (tgt := 75) C dX9_forget_54 (by decide) (by omega) (by omega) (fun h54 => ?_) (fun h54 => ?_)
      · refine z_iload_n C dX9_forget_75 rfl ?_
        refine z_iret C hQ dX9_forget_76 rfl (by decide) (by decide) ?_
        refine hfin _ g1 mF.rf hM1 (hSr.setR hY hg1 (r := rr.toNat) (by omega) (fun i hi => ho i (by omega)) ?_)
        rw [show ((rr.toNat : Nat) : Int) = rr by omega]
        refine ⟨by rw [ho _ (by omega)]; exact r1, by rw [ho _ (by omega)]; exact r2, by rw [hz.1]; rfl, fun d d1 d2 => by rw [hd d d1 d2]; rfl, ?_⟩
        have em : mMa g1 rr = 0 := hz.2
        exact ⟨by omega, fun j j1 j2 => by omega, fun i j i1 i2 i3 => by omega, fun key hk => absurd rfl hk⟩
      · exact absurd h54 (by omega)
    | succ t ih =>
      intro M1 Fr gr g1 k po ht hk hpo _ hO1 hM1 hg1 hSr hz hd ho hfin
      refine z_iload C dX9_forget_50 rfl ?_
      refine z_bipush C dX9_forget_52 (by decide) ?_
      refine z_icmp_geZ (tgt := 75) C dX9_forget_54 (by decide) (by omega) (by omega) (fun h54 => ?_) (fun h54 => ?_)
      · exact absurd h54 (by omega)
      · refine z_aload_n C dX9_forget_57 rfl ?_
        refine z_get C dX9_forget_58 fl_X9_7 (by first | assumption | ((repeat (first | assumption | exact va_up_self _ _ _ | refine (va_up_ne _ _ (by first | assumption | exact hA.ne (by decide) | exact hA.ne (by omega))).trans ?_)); done)) rfl ?_
        refine z_iload_n C dX9_forget_61 rfl ?_
        refine z_iconst C dX9_forget_62 ?_
        refine z_iaddZ C dX9_forget_63 ?_
        refine z_iload C dX9_forget_64 rfl ?_
        refine z_iaddZ C dX9_forget_66 ?_
        refine z_iconst C dX9_forget_67 ?_
        refine z_astN C dX9_forget_68 (by first | assumption | ((repeat (first | assumption | exact va_up_self _ _ _ | refine (va_up_ne _ _ (by first | assumption | exact hA.ne (by decide) | exact hA.ne (by omega))).trans ?_)); done)) (by omega) (by omega) (by assumption) (by omega) (fun hr68 => ?_)
        refine z_iincZ C dX9_forget_69 rfl (by decide) ?_
        refine z_goto (tgt := 50) C dX9_forget_72 (by decide) ?_
        refine ih _ Fr gr _ (k + 1) po (by omega) (by omega) hpo (.inr trivial) (by rw [va_up_ne _ _ (hA.ne (by decide))]; exact hO1) (va_up_self _ _ _) hr68 hSr ⟨by rw [va_up_ne _ _ (by omega)]; exact hz.1, by rw [va_up_ne _ _ (by omega)]; exact hz.2⟩ (fun d d1 d2 => ?_) (fun i hi => by rw [va_up_ne _ _ (by omega)]; exact ho i hi) (fun M2 g2 f2 => hfin M2 g2 ((mF.one (i := 1)).tr (K := [1]) f2 ⟨rfl, rfl⟩))
        unfold va_up
        split
        · rfl
        · exact hd d d1 (by omega)
  refine z_aload_n C dX9_forget_0 rfl ?_
  refine z_iload_n C dX9_forget_1 rfl ?_
  refine z_callV C dX9_forget_2 lk_X9_295 mw_X9_noReader mi_X9_noReader ms_X9_noReader rfl (by first | assumption | ((repeat (first | assumption | exact va_up_self _ _ _ | refine (va_up_ne _ _ (by first | assumption | exact hA.ne (by decide) | exact hA.ne (by omega))).trans ?_)); done)) (k_X9_noReader hA hO hM hS hY r_rr) rfl (by first | decide | exact Nat.le_of_ble_eq_true rfl) ⟨by decide, by decide, by decide, by decide⟩ (fun _ _ h => False.elim h) (fun v M' hp => ?_)
  obtain ⟨r1, F1, rfl, f1, ob1, p1, e1, z1⟩ := hp
  have s1 := z1.rng
  have cf1 := f1
  have cp1 := p1
  have hM1 := cf1.at hA (.of rfl) hM
  refine z_if_eqZ (tgt := 10) C dX9_forget_5 (by decide) (by omega) (fun h5 => ?_) (fun h5 => ?_)
  · have t1 := Decidable.not_not.mp (z1.f h5)
    rw [t1] at e1
    obtain ⟨c1, -⟩ := mqR_0 t1
    have hF1 := hF.q0 hA cf1 ob1 cp1 rfl
    refine z_aload_n C dX9_forget_10 rfl ?_
    refine z_callV C dX9_forget_11 lk_X9_286 mw_X9_remember mi_X9_remember ms_X9_remember rfl (by first | assumption | ((repeat (first | assumption | exact va_up_self _ _ _ | refine (va_up_ne _ _ (by first | assumption | exact hA.ne (by decide) | exact hA.ne (by omega))).trans ?_)); done)) (k_X9_remember hA hF1 hYk) rfl (by first | decide | exact Nat.le_of_ble_eq_true rfl) ⟨by decide, by decide, by decide, by decide⟩ (fun _ _ h => False.elim h) (fun v M' hp => ?_)
    obtain ⟨rfl, fr, Fr, pr, hFr⟩ := hp
    have orr := hFr.1.1
    obtain ⟨gr, hMr, hSr0⟩ := hFr.2.2.2.2.2.2.1
    have hSr : mSt gr (yS Y) := hSr0
    have hgr := hSr.1
    have er8 : Fr 8 = 0 := (pr 8 (by decide)).trans e1
    have crr := cf1.tr (K := [0, 4]) fr ⟨rfl, rfl⟩
    have hRr := hSr.r c1
    have ll := hRr.2.2.2.2.1
    refine z_aload_n C dX9_forget_14 rfl ?_
    refine z_get C dX9_forget_15 fl_X9_7 (by first | assumption | ((repeat (first | assumption | exact va_up_self _ _ _ | refine (va_up_ne _ _ (by first | assumption | exact hA.ne (by decide) | exact hA.ne (by omega))).trans ?_)); done)) rfl ?_
    refine z_iload_n C dX9_forget_18 rfl ?_
    refine z_callS C dX9_forget_19 lk_X9_325 mw_X9_positiveOf mst_X9_positiveOf (k_X9_positiveOf hMr hgr (r := rr) (by omega) ll) rfl (by first | decide | exact Nat.le_of_ble_eq_true rfl) ⟨by decide, by decide, by decide, by decide⟩ (fun _ _ h => False.elim h) (fun v M' hp => ?_)
    obtain ⟨rfl, rfl⟩ := hp
    rw [mPo_sum hRr.2.2.2.2 (fun x hx => sG_rng hx)]
    refine z_istore_n C dX9_forget_22 (by decide) ?_
    refine z_iload_n C dX9_forget_23 rfl ?_
    refine z_callS C dX9_forget_24 lk_X9_92 mw_X9_atReader mst_X9_atReader k_X9_atReader rfl (by first | decide | exact Nat.le_of_ble_eq_true rfl) ⟨by decide, by decide, by decide, by decide⟩ (fun _ _ h => False.elim h) (fun v M' hp => ?_)
    obtain ⟨rfl, rfl⟩ := hp
    refine z_istore_n C dX9_forget_27 (by decide) ?_
    refine z_aload_n C dX9_forget_28 rfl ?_
    refine z_get C dX9_forget_29 fl_X9_7 (by first | assumption | ((repeat (first | assumption | exact va_up_self _ _ _ | refine (va_up_ne _ _ (by first | assumption | exact hA.ne (by decide) | exact hA.ne (by omega))).trans ?_)); done)) rfl ?_
    refine z_iload_n C dX9_forget_32 rfl ?_
    refine z_iconst C dX9_forget_33 ?_
    refine z_iaddZ C dX9_forget_34 ?_
    refine z_iconst C dX9_forget_35 ?_
    refine z_astN C dX9_forget_36 (by first | assumption | ((repeat (first | assumption | exact va_up_self _ _ _ | refine (va_up_ne _ _ (by first | assumption | exact hA.ne (by decide) | exact hA.ne (by omega))).trans ?_)); done)) (by omega) (by omega) (by assumption) (by omega) (fun hr36 => ?_)
    refine z_aload_n C dX9_forget_37 rfl ?_
    refine z_get C dX9_forget_38 fl_X9_7 (by first | assumption | ((repeat (first | assumption | exact va_up_self _ _ _ | refine (va_up_ne _ _ (by first | assumption | exact hA.ne (by decide) | exact hA.ne (by omega))).trans ?_)); done)) rfl ?_
    refine z_iload_n C dX9_forget_41 rfl ?_
    refine z_bipush C dX9_forget_42 (by decide) ?_
    refine z_iaddZ C dX9_forget_44 ?_
    refine z_iconst C dX9_forget_45 ?_
    refine z_astN C dX9_forget_46 (by first | assumption | ((repeat (first | assumption | exact va_up_self _ _ _ | refine (va_up_ne _ _ (by first | assumption | exact hA.ne (by decide) | exact hA.ne (by omega))).trans ?_)); done)) (by omega) (by omega) (by assumption) (by omega) (fun hr46 => ?_)
    refine z_iconst C dX9_forget_47 ?_
    refine z_istore C dX9_forget_48 (by decide) ?_
    refine loop c1 8 _ Fr gr _ 0 _ (by omega) (by omega) (by rw [q_forget, mqR_t c1]) (.inr trivial) (by rw [va_up_ne _ _ (hA.ne (by decide)), va_up_ne _ _ (hA.ne (by decide))]; exact orr) (va_up_self _ _ _) hr46 hSr ⟨by rw [va_up_ne _ _ (by omega), va_up_self], by rw [va_up_self]⟩ (fun d d1 d2 => by omega) (fun i hi => by rw [va_up_ne _ _ (by omega), va_up_ne _ _ (by omega)]) (fun M2 g2 f2 h2 hS2 => ?_)
    have fz := ((mF.one (i := 1)).up (i := 1) rfl).tr (K := [1]) f2 ⟨rfl, rfl⟩
    exact mAnsY.ok hA (hFr.set hA fz h2 hS2) ((crr.tr (K := [0, 4, 1]) fz ⟨rfl, rfl⟩).mo rfl) er8 (by rw [q_forget, mqR_t c1]) rfl
  · refine z_iconst C dX9_forget_8 ?_
    refine z_iret C hQ dX9_forget_9 rfl (by decide) (by decide) ?_
    exact mAnsY.no hA hF cf1 ob1 cp1 e1 (z1.t h5) (mqR_1 rfl)

