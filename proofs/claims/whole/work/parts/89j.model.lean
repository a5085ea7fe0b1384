/-! the model's changes: input, years, remembered states -/
theorem hMf.set {γ : zG} {M M' : zM} {A : Nat → Nat} {F g' : Nat → Int} {Y : zSys} {S' : zSt} (hA : mIA A) (h : hMf γ M A F Y) (f : mF A M M' [1]) (h1 : M' (A 1) = some (zar γ 5987 g')) (hs : mSt g' S') : hMf γ M' A F (ySet Y S') := by
  obtain ⟨a, b, u, w, i, q, -, t⟩ := h
  exact ⟨a.fr hA f (.of rfl) (.of rfl) (.of rfl) (.of rfl), b, u.fr hA f (.of rfl) rfl rfl, w.fr hA f (.of rfl) (.of rfl), i.fr hA f (.of rfl) rfl, q.fr hA f (.of rfl) rfl, ⟨g', h1, hs⟩, t.fr hA f (.of rfl) (.of rfl) (.of rfl) (.of rfl) (.of rfl)⟩
set_option maxHeartbeats 4000000 in
set_option maxRecDepth 100000 in
theorem k_X9_remember {l : Launch} {γ : zG} {M : zM} {A : Nat → Nat} {F : Nat → Int} {Y : zSys} (hA : mIA A) (hF : hMf γ M A F Y) (hYk : yOk Y) :
    zCon l γ yX9_remember cX9_remember 1 none [.ref (A 0)] M 1 30 0 0 (fun v' M' => v' = none ∧ mF A M M' [0, 4] ∧ ∃ F', mKp [6, 7] F F' ∧ hMf γ M' A F' (yRem Y)) (fun _ _ => False) := by
  obtain ⟨hsc, hec, ⟨h7, hn6, gr, hR4, hgr, hrg⟩, hsl, hinp, hou, ⟨g, hM, hS⟩, hrs⟩ := id hF
  have hO := hsc.1
  obtain ⟨hy, hpc, hps, -⟩ := hYk
  refine zEnter [some (.ref (A 0))] (by decide +kernel) rfl rfl (Nat.le_of_ble_eq_true rfl) ?_
  intro p e s m args below meth c Q C hin hQ
  have tl : ∀ (M1 : zM) (F1 : Nat → Int) (u n0 : Int), mF A M M1 [0, 4] → mKp [6, 7] F F1 → hMf γ M1 A F Y ∨ True → M1 (A 0) = some (mOb A F1) → M1 (A 1) = some (zar γ 5987 g) → M1 (A 4) = some (zar γ 47896 gr) → F1 7 = u → F1 6 = n0 → (0 ≤ u ∧ u < 8) → (0 ≤ n0 ∧ n0 < 8) → n0 + 1 = min (yPc Y + 1) 8 → (∀ i : Nat, i < n0 → mRg u (n0 + 1) (i + 1) = mRg (F 7) (yPc Y) i) → zAW p l e { frames := 1, cells := 0, slots := 0, locals := 30 } s m args below meth c γ 1 Q M1 0 0 32 [some (.ref (A 0))] [] := by
    intro M1 F1 u n0 hf hp1 _ hO1 hM1 hR1 e7 e6 ru rn hmin hpl
    have h6r : 0 ≤ (u + n0) % 8 ∧ (u + n0) % 8 < 8 := by omega
    refine z_aload_n C dX9_remember_32 rfl ?_
    refine z_get C dX9_remember_33 fl_X9_7 (by first | assumption | ((repeat (first | assumption | exact va_up_self _ _ _ | refine (va_up_ne _ _ (by first | assumption | exact hA.ne (by decide) | exact hA.ne (by omega))).trans ?_)); done)) rfl ?_
    refine z_iconst C dX9_remember_36 ?_
    refine z_aload_n C dX9_remember_37 rfl ?_
    refine z_get C dX9_remember_38 fl_X9_20 (by first | assumption | ((repeat (first | assumption | exact va_up_self _ _ _ | refine (va_up_ne _ _ (by first | assumption | exact hA.ne (by decide) | exact hA.ne (by omega))).trans ?_)); done)) rfl ?_
    refine z_sipush C dX9_remember_41 (by decide) ?_
    refine z_aload_n C dX9_remember_44 rfl ?_
    refine z_getM C dX9_remember_45 fl_X9_292 (by first | assumption | ((repeat (first | assumption | exact va_up_self _ _ _ | refine (va_up_ne _ _ (by first | assumption | exact hA.ne (by decide) | exact hA.ne (by omega))).trans ?_)); done)) rfl (by first | assumption | ((repeat (first | assumption | exact va_up_self _ _ _ | rewrite [va_up_ne _ _ (by decide)])); (first | done | exact rfl))) ?_
    refine z_aload_n C dX9_remember_48 rfl ?_
    refine z_getM C dX9_remember_49 fl_X9_289 (by first | assumption | ((repeat (first | assumption | exact va_up_self _ _ _ | refine (va_up_ne _ _ (by first | assumption | exact hA.ne (by decide) | exact hA.ne (by omega))).trans ?_)); done)) rfl (by first | assumption | ((repeat (first | assumption | exact va_up_self _ _ _ | rewrite [va_up_ne _ _ (by decide)])); (first | done | exact rfl))) ?_
    refine z_iaddZ C dX9_remember_52 ?_
    refine z_bipush C dX9_remember_53 (by decide) ?_
    refine z_iremZ C dX9_remember_55 (by omega) (by omega) ?_
    refine z_imulZ C dX9_remember_56 ?_
    refine z_callS C dX9_remember_57 lk_X9_71 mw_X9_copyRow mst_X9_copyRow (k_X9_copyRow hM1 hS.1 hR1 hgr (hA.ne (by decide)) (by decide) (fa := 0) (ga := 5987 * ((u + n0) % 8)) (by omega) (by omega)) rfl (by first | decide | exact Nat.le_of_ble_eq_true rfl) ⟨by decide, by decide, by decide, by decide⟩ (fun _ _ h => False.elim h) (fun v M' hp => ?_)
    obtain ⟨rfl, f57, a57, z57⟩ := hp
    have f57m : mF A M1 _ [4] := f57
    have o57 := f57m.at hA (.of rfl) hO1
    refine z_aload_n C dX9_remember_60 rfl ?_
    refine z_dup C dX9_remember_61 rfl ?_
    refine z_getM C dX9_remember_62 fl_X9_289 (by first | assumption | ((repeat (first | assumption | exact va_up_self _ _ _ | refine (va_up_ne _ _ (by first | assumption | exact hA.ne (by decide) | exact hA.ne (by omega))).trans ?_)); done)) rfl (by first | assumption | ((repeat (first | assumption | exact va_up_self _ _ _ | rewrite [va_up_ne _ _ (by decide)])); (first | done | exact rfl))) ?_
    refine z_iconst C dX9_remember_65 ?_
    refine z_iaddZ C dX9_remember_66 ?_
    refine z_putM C dX9_remember_67 fl_X9_289 (by first | assumption | ((repeat (first | assumption | exact va_up_self _ _ _ | refine (va_up_ne _ _ (by first | assumption | exact hA.ne (by decide) | exact hA.ne (by omega))).trans ?_)); done)) rfl ?_
    refine z_vret C hQ dX9_remember_70 (by decide) (by decide) ?_
    have fz : mF A M _ [0, 4] := (hf.tr (K := [0, 4]) f57m ⟨rfl, rfl⟩).up (i := 0) (x := some (mOb A (va_up F1 6 (n0 + 1)))) rfl
    have kz : mKp [6, 7] F (va_up F1 6 (n0 + 1)) := hp1.up rfl
    refine ⟨rfl, fz, _, kz, ?_⟩
    obtain ⟨s0, ⟨s7, b1, b2⟩, ⟨s8, c1, c2⟩, s9, d1, d2⟩ := hsc
    refine ⟨⟨va_up_self _ _ _, ⟨s7, fz.at hA (.of rfl) b1, b2⟩, ⟨s8, fz.at hA (.of rfl) c1, c2⟩, s9, fz.at hA (.of rfl) d1, d2⟩, ⟨(kz 25 (by decide)).trans hec.1, (kz 26 (by decide)).trans hec.2⟩, ⟨?_, ?_, _, ?_, z57, fun i hi => ?_⟩, hsl.fr hA fz (.of rfl) (.of rfl), hinp.fr hA fz (.of rfl) (kz 19 (by decide)), hou.fr hA fz (.of rfl) (kz 29 (by decide)), ⟨g, fz.at hA (.of rfl) hM, hS⟩, hrs.fr hA fz (.of rfl) (.of rfl) (.of rfl) (.of rfl) (.of rfl)⟩
    · rw [va_up_ne _ _ (by decide), e7]
      exact ru
    · rw [va_up_self]
      exact hmin
    · rw [va_up_ne _ _ (hA.ne (by decide))]
      exact a57
    · have hi : (i : Int) < min (yPc Y + 1) 8 := hi
      rw [va_up_ne _ _ (by decide), e7]
      show mSt (fun j => mCp g 0 gr (5987 * ((u + n0) % 8)) 5987 (5987 * mRg u (min (yPc Y + 1) 8) i + j).toNat) (if i = 0 then yS Y else yPs Y (i - 1))
      rw [← hmin]
      by_cases e : i = 0
      · subst e
        rw [if_pos rfl]
        have pl : mRg u (n0 + 1) 0 = (u + n0) % 8 := by
          unfold mRg
          omega
        refine hS.cg hy (fun j => z57 _) (fun j hj => ?_)
        rw [mCp_at (by omega) (by omega), pl, if_pos (by omega)]
        congr 1
        omega
      · rw [if_neg e]
        have hq := hpl (i - 1) (by omega)
        rw [show i - 1 + 1 = i by omega] at hq
        have hpr : 0 ≤ mRg u (n0 + 1) i ∧ mRg u (n0 + 1) i < 8 := by
          unfold mRg
          omega
        have hne : mRg u (n0 + 1) i ≠ (u + n0) % 8 := by
          unfold mRg
          omega
        refine (hrg (i - 1) (by omega)).cg (hps (i - 1) (by omega)) (fun j => z57 _) (fun j hj => ?_)
        show mCp g 0 gr (5987 * ((u + n0) % 8)) 5987 (5987 * mRg u (n0 + 1) i + j).toNat = gr (5987 * mRg (F 7) (yPc Y) (i - 1) + j).toNat
        rw [mCp_at (by omega) (by omega), if_neg (by omega), hq]
  refine z_aload_n C dX9_remember_0 rfl ?_
  refine z_getM C dX9_remember_1 fl_X9_289 (by first | assumption | ((repeat (first | assumption | exact va_up_self _ _ _ | refine (va_up_ne _ _ (by first | assumption | exact hA.ne (by decide) | exact hA.ne (by omega))).trans ?_)); done)) rfl hn6 ?_
  refine z_bipush C dX9_remember_4 (by decide) ?_
  refine z_icmp_neZ (tgt := 32) C dX9_remember_6 (by decide) (by omega) (by omega) (fun h6 => ?_) (fun h6 => ?_)
  · exact tl M F (F 7) (yPc Y) mF.rf mKp.rf (.inr trivial) hO hM hR4 rfl hn6 h7 (by omega) (by omega) (fun i hi => by unfold mRg; omega)
  · refine z_aload_n C dX9_remember_9 rfl ?_
    refine z_aload_n C dX9_remember_10 rfl ?_
    refine z_getM C dX9_remember_11 fl_X9_292 (by first | assumption | ((repeat (first | assumption | exact va_up_self _ _ _ | refine (va_up_ne _ _ (by first | assumption | exact hA.ne (by decide) | exact hA.ne (by omega))).trans ?_)); done)) rfl rfl ?_
    refine z_iconst C dX9_remember_14 ?_
    refine z_iaddZ C dX9_remember_15 ?_
    refine z_bipush C dX9_remember_16 (by decide) ?_
    refine z_iremZ C dX9_remember_18 (by omega) (by omega) ?_
    refine z_putM C dX9_remember_19 fl_X9_292 (by first | assumption | ((repeat (first | assumption | exact va_up_self _ _ _ | refine (va_up_ne _ _ (by first | assumption | exact hA.ne (by decide) | exact hA.ne (by omega))).trans ?_)); done)) rfl ?_
    refine z_aload_n C dX9_remember_22 rfl ?_
    refine z_dup C dX9_remember_23 rfl ?_
    refine z_getM C dX9_remember_24 fl_X9_289 (by first | assumption | ((repeat (first | assumption | exact va_up_self _ _ _ | refine (va_up_ne _ _ (by first | assumption | exact hA.ne (by decide) | exact hA.ne (by omega))).trans ?_)); done)) rfl (by first | assumption | ((repeat (first | assumption | exact va_up_self _ _ _ | rewrite [va_up_ne _ _ (by decide)])); (first | done | exact rfl))) ?_
    refine z_iconst C dX9_remember_27 ?_
    refine z_isubZ C dX9_remember_28 ?_
    refine z_putM C dX9_remember_29 fl_X9_289 (by first | assumption | ((repeat (first | assumption | exact va_up_self _ _ _ | refine (va_up_ne _ _ (by first | assumption | exact hA.ne (by decide) | exact hA.ne (by omega))).trans ?_)); done)) rfl ?_
    refine tl _ _ ((F 7 + 1) % 8) 7 ((mF.rf.up rfl).up rfl) ((mKp.rf.up rfl).up rfl) (.inr trivial) (va_up_self _ _ _) (by rw [va_up_ne _ _ (hA.ne (by decide)), va_up_ne _ _ (hA.ne (by decide))]; exact hM) (by rw [va_up_ne _ _ (hA.ne (by decide)), va_up_ne _ _ (hA.ne (by decide))]; exact hR4) (by rw [va_up_ne _ _ (by decide), va_up_self]) ?_ (by omega) (by omega) (by omega) (fun i hi => by unfold mRg; omega)
    rw [va_up_self]
    omega
set_option maxHeartbeats 4000000 in
set_option maxRecDepth 100000 in
theorem m_appendInput {l : Launch} {γ : zG} {M : zM} {A : Nat → Nat} {Y : zSys} {t0 : Int} {a0 a1 a2 a3 a4 : Int} (hMo0 : hMo γ M A Y t0) (hYk : yOk Y) (r_a0 : zR a0) (r_a1 : zR a1) (r_a2 : zR a2) (r_a3 : zR a3) (r_a4 : zR a4) :
    zCon l γ yX9_appendInput cX9_appendInput 6 (some .int) [.ref (A 0), .int (zi a0), .int (zi a1), .int (zi a2), .int (zi a3), .int (zi a4)] M 10 330 0 0 (mAnsY γ A M Y (y_appendInput Y a0 a1 a2 a3 a4) (q_appendInput Y a0 a1 a2 a3 a4)) (fun _ _ => False) := by
  obtain ⟨hA, F, h8, hF⟩ := hMo0
  obtain ⟨hsc, hec, hun, hsl, hinp, hou, ⟨g, hM, hS⟩, hrs⟩ := id hF
  have hO := hsc.1
  have hg := hS.1
  have hY := hYk.1
  have o1 := hY.1
  have z_a0 := r_a0
  unfold zR at z_a0
  have z_a1 := r_a1
  unfold zR at z_a1
  have z_a2 := r_a2
  unfold zR at z_a2
  have z_a3 := r_a3
  unfold zR at z_a3
  have z_a4 := r_a4
  unfold zR at z_a4
  refine zEnter [some (.ref (A 0)), some (.int (zi a0)), some (.int (zi a1)), some (.int (zi a2)), some (.int (zi a3)), some (.int (zi a4))] (by decide +kernel) rfl rfl (Nat.le_of_ble_eq_true rfl) ?_
  intro p e s m args below meth c Q C hin hQ
  obtain ⟨hn19, f, hI, hB, hif⟩ := hinp
  have bb := hB.1
  have hO1 : va_up M (A 0) (some (mOb A (va_up F 8 0))) (A 0) = some (mOb A (va_up F 8 0)) := va_up_self _ _ _
  have h81 : va_up F 8 0 8 = 0 := va_up_self _ _ _
  have h191 : va_up F 8 0 19 = yIn Y := (va_up_ne _ _ (by decide)).trans hn19
  have hI1 : va_up M (A 0) (some (mOb A (va_up F 8 0))) (A 11) = some (zar γ 500 f) := by rw [va_up_ne _ _ (hA.ne (by decide))]; exact hI
  refine z_aload_n C dX9_appendInput_0 rfl ?_
  refine z_iconst C dX9_appendInput_1 ?_
  refine z_putM C dX9_appendInput_2 fl_X9_85 (by first | assumption | ((repeat (first | assumption | exact va_up_self _ _ _ | refine (va_up_ne _ _ (by first | assumption | exact hA.ne (by decide) | exact hA.ne (by omega))).trans ?_)); done)) rfl ?_
  refine z_aload_n C dX9_appendInput_5 rfl ?_
  refine z_aload_n C dX9_appendInput_6 rfl ?_
  refine z_getM C dX9_appendInput_7 fl_X9_68 (by first | assumption | ((repeat (first | assumption | exact va_up_self _ _ _ | refine (va_up_ne _ _ (by first | assumption | exact hA.ne (by decide) | exact hA.ne (by omega))).trans ?_)); done)) rfl h191 ?_
  refine z_bipush C dX9_appendInput_10 (by decide) ?_
  refine z_iaddZ C dX9_appendInput_12 ?_
  refine z_sipush C dX9_appendInput_13 (by decide) ?_
  refine z_icmp_leZ (tgt := 23) C dX9_appendInput_16 (by decide) (by omega) (by omega) (fun h16 => ?_) (fun h16 => ?_)
  · refine z_iconst C dX9_appendInput_23 ?_
    refine z_iconst C dX9_appendInput_24 ?_
    refine z_callV C dX9_appendInput_25 lk_X9_189 mw_X9_refuses mi_X9_refuses ms_X9_refuses rfl (by first | assumption | ((repeat (first | assumption | exact va_up_self _ _ _ | refine (va_up_ne _ _ (by first | assumption | exact hA.ne (by decide) | exact hA.ne (by omega))).trans ?_)); done)) (k_X9_refuses hA hO1 (r := 0) (w := 1) (by omega) (by omega) (by omega)) rfl (by first | decide | exact Nat.le_of_ble_eq_true rfl) ⟨by decide, by decide, by decide, by decide⟩ (fun _ _ h => False.elim h) (fun v M' hp => ?_)
    obtain ⟨r1, F1, rfl, f1, ob1, p1, e1, z1⟩ := hp
    have s1 := z1.rng
    refine z_if_eqZ (tgt := 33) C dX9_appendInput_28 (by decide) (by omega) (fun h28 => ?_) (fun h28 => ?_)
    · rw [if_neg (by omega), h81] at e1
      have hi1 := f1.at hA (.of rfl) hI1
      have c0 : mF A M _ [0] := ((mF.rf (K := [0])).up (i := 0) (x := some (mOb A (va_up F 8 0))) rfl).tr f1 ⟨rfl, rfl⟩
      have q0 : mKp [8, 19] F F1 := (mKp.rf.up (K := [8]) (i := 8) rfl).tr p1 ⟨rfl, rfl⟩
      refine z_aload_n C dX9_appendInput_33 rfl ?_
      refine z_iload_n C dX9_appendInput_34 rfl ?_
      refine z_callV C dX9_appendInput_35 lk_X9_193 mw_X9_appendWord mi_X9_appendWord ms_X9_appendWord rfl (by first | assumption | ((repeat (first | assumption | exact va_up_self _ _ _ | refine (va_up_ne _ _ (by first | assumption | exact hA.ne (by decide) | exact hA.ne (by omega))).trans ?_)); done)) (k_X9_appendWord hA ob1 hi1 ((p1 19 (by decide)).trans h191) hB (x := a0) (by omega)) rfl (by first | decide | exact Nat.le_of_ble_eq_true rfl) ⟨by decide, by decide, by decide, by decide⟩ (fun _ _ h => False.elim h) (fun v M' hp => ?_)
      obtain ⟨rfl, fa, Fa, oa, pa, ea, ia, ba⟩ := hp
      refine z_aload_n C dX9_appendInput_38 rfl ?_
      refine z_iload_n C dX9_appendInput_39 rfl ?_
      refine z_callV C dX9_appendInput_40 lk_X9_193 mw_X9_appendWord mi_X9_appendWord ms_X9_appendWord rfl (by first | assumption | ((repeat (first | assumption | exact va_up_self _ _ _ | refine (va_up_ne _ _ (by first | assumption | exact hA.ne (by decide) | exact hA.ne (by omega))).trans ?_)); done)) (k_X9_appendWord hA oa ia ea ba (x := a1) (by omega)) rfl (by first | decide | exact Nat.le_of_ble_eq_true rfl) ⟨by decide, by decide, by decide, by decide⟩ (fun _ _ h => False.elim h) (fun v M' hp => ?_)
      obtain ⟨rfl, fb, Fb, ob, pb, eb, ib, bb1⟩ := hp
      refine z_aload_n C dX9_appendInput_43 rfl ?_
      refine z_iload_n C dX9_appendInput_44 rfl ?_
      refine z_callV C dX9_appendInput_45 lk_X9_193 mw_X9_appendWord mi_X9_appendWord ms_X9_appendWord rfl (by first | assumption | ((repeat (first | assumption | exact va_up_self _ _ _ | refine (va_up_ne _ _ (by first | assumption | exact hA.ne (by decide) | exact hA.ne (by omega))).trans ?_)); done)) (k_X9_appendWord hA ob ib eb bb1 (x := a2) (by omega)) rfl (by first | decide | exact Nat.le_of_ble_eq_true rfl) ⟨by decide, by decide, by decide, by decide⟩ (fun _ _ h => False.elim h) (fun v M' hp => ?_)
      obtain ⟨rfl, fc, Fc, oc, pc, ec, ic, bc⟩ := hp
      refine z_aload_n C dX9_appendInput_48 rfl ?_
      refine z_iload C dX9_appendInput_49 rfl ?_
      refine z_callV C dX9_appendInput_51 lk_X9_193 mw_X9_appendWord mi_X9_appendWord ms_X9_appendWord rfl (by first | assumption | ((repeat (first | assumption | exact va_up_self _ _ _ | refine (va_up_ne _ _ (by first | assumption | exact hA.ne (by decide) | exact hA.ne (by omega))).trans ?_)); done)) (k_X9_appendWord hA oc ic ec bc (x := a3) (by omega)) rfl (by first | decide | exact Nat.le_of_ble_eq_true rfl) ⟨by decide, by decide, by decide, by decide⟩ (fun _ _ h => False.elim h) (fun v M' hp => ?_)
      obtain ⟨rfl, fd, Fd, od, pd, ed, id1, bd⟩ := hp
      refine z_aload_n C dX9_appendInput_54 rfl ?_
      refine z_iload C dX9_appendInput_55 rfl ?_
      refine z_callV C dX9_appendInput_57 lk_X9_193 mw_X9_appendWord mi_X9_appendWord ms_X9_appendWord rfl (by first | assumption | ((repeat (first | assumption | exact va_up_self _ _ _ | refine (va_up_ne _ _ (by first | assumption | exact hA.ne (by decide) | exact hA.ne (by omega))).trans ?_)); done)) (k_X9_appendWord hA od id1 ed bd (x := a4) (by omega)) rfl (by first | decide | exact Nat.le_of_ble_eq_true rfl) ⟨by decide, by decide, by decide, by decide⟩ (fun _ _ h => False.elim h) (fun v M' hp => ?_)
      obtain ⟨rfl, fe, Fe, oe, pe, ee, ie, be⟩ := hp
      have ff := ((((c0.tr (K := [0, 11]) fa ⟨rfl, rfl⟩).tr (K := [0, 11]) fb ⟨rfl, rfl⟩).tr (K := [0, 11]) fc ⟨rfl, rfl⟩).tr (K := [0, 11]) fd ⟨rfl, rfl⟩).tr (K := [0, 11]) fe ⟨rfl, rfl⟩
      have kk := ((((q0.tr (K := [8, 19]) pa ⟨rfl, rfl⟩).tr (K := [8, 19]) pb ⟨rfl, rfl⟩).tr (K := [8, 19]) pc ⟨rfl, rfl⟩).tr (K := [8, 19]) pd ⟨rfl, rfl⟩).tr (K := [8, 19]) pe ⟨rfl, rfl⟩
      have e88 : Fe 8 = 0 := (pe 8 (by decide)).trans ((pd 8 (by decide)).trans ((pc 8 (by decide)).trans ((pb 8 (by decide)).trans ((pa 8 (by decide)).trans e1))))
      refine z_aload_n C dX9_appendInput_60 rfl ?_
      refine z_getM C dX9_appendInput_61 fl_X9_68 (by first | assumption | ((repeat (first | assumption | exact va_up_self _ _ _ | refine (va_up_ne _ _ (by first | assumption | exact hA.ne (by decide) | exact hA.ne (by omega))).trans ?_)); done)) rfl ee ?_
      refine z_iret C hQ dX9_appendInput_64 rfl (by decide) (by decide) ?_
      rw [show yIn Y + 4 + 4 + 4 + 4 + 4 = yIn Y + 20 by omega] at ee be
      refine mAnsY.ok hA (hF.inp hA ff oe kk ee ie be (fun j hj => ?_)) (ff.mo rfl) e88 (by rw [q_appendInput, if_pos (by omega)]) (by congr 1; omega)
      have := za5_cg (a := a0) (b := a1) (c := a2) (d := a3) (e := a4) (by omega) hif j hj
      unfold za5 at this
      rw [show yIn Y + 8 = yIn Y + 4 + 4 by omega, show yIn Y + 12 = yIn Y + 4 + 4 + 4 by omega, show yIn Y + 16 = yIn Y + 4 + 4 + 4 + 4 by omega] at this
      rw [this]
      unfold za5
      rw [show yIn Y + 8 = yIn Y + 4 + 4 by omega, show yIn Y + 12 = yIn Y + 4 + 4 + 4 by omega, show yIn Y + 16 = yIn Y + 4 + 4 + 4 + 4 by omega]
    · exact absurd (by rw [if_neg (by omega), h81]) (z1.t h28)
  · refine z_iconst C dX9_appendInput_19 ?_
    refine z_goto (tgt := 24) C dX9_appendInput_20 (by decide) ?_
    refine z_iconst C dX9_appendInput_24 ?_
    refine z_callV C dX9_appendInput_25 lk_X9_189 mw_X9_refuses mi_X9_refuses ms_X9_refuses rfl (by first | assumption | ((repeat (first | assumption | exact va_up_self _ _ _ | refine (va_up_ne _ _ (by first | assumption | exact hA.ne (by decide) | exact hA.ne (by omega))).trans ?_)); done)) (k_X9_refuses hA hO1 (r := 1) (w := 1) (by omega) (by omega) (by omega)) rfl (by first | decide | exact Nat.le_of_ble_eq_true rfl) ⟨by decide, by decide, by decide, by decide⟩ (fun _ _ h => False.elim h) (fun v M' hp => ?_)
    obtain ⟨r1, F1, rfl, f1, ob1, p1, e1, z1⟩ := hp
    have s1 := z1.rng
    refine z_if_eqZ (tgt := 33) C dX9_appendInput_28 (by decide) (by omega) (fun h28 => ?_) (fun h28 => ?_)
    · exact absurd (by rw [if_pos ⟨h81, by decide⟩]; decide) (z1.f h28)
    · refine z_iconst C dX9_appendInput_31 ?_
      refine z_iret C hQ dX9_appendInput_32 rfl (by decide) (by decide) ?_
      exact mAnsY.no hA hF (((mF.rf (K := [0])).up (i := 0) (x := some (mOb A (va_up F 8 0))) rfl).tr f1 ⟨rfl, rfl⟩) ob1 ((mKp.rf.up (K := [8]) (i := 8) rfl).tr p1 ⟨rfl, rfl⟩) e1 (z1.t h28) (by rw [q_appendInput, if_neg (by omega), if_pos ⟨h81, by decide⟩])
set_option maxHeartbeats 4000000 in
set_option maxRecDepth 100000 in
theorem m_truncateInput {l : Launch} {γ : zG} {M : zM} {A : Nat → Nat} {Y : zSys} {t0 : Int} {ll : Int} (hMo0 : hMo γ M A Y t0) (hYk : yOk Y) (r_ll : zR ll) :
    zCon l γ yX9_truncateInput cX9_truncateInput 2 (some .int) [.ref (A 0), .int (zi ll)] M 10 330 0 0 (mAnsY γ A M Y (y_truncateInput Y ll) (q_truncateInput Y ll)) (fun _ _ => False) := by
  obtain ⟨hA, F, h8, hF⟩ := hMo0
  obtain ⟨hsc, hec, hun, hsl, hinp, hou, ⟨g, hM, hS⟩, hrs⟩ := id hF
  have hO := hsc.1
  have hg := hS.1
  have hY := hYk.1
  have o1 := hY.1
  have z_ll := r_ll
  unfold zR at z_ll
  refine zEnter [some (.ref (A 0)), some (.int (zi ll))] (by decide +kernel) rfl rfl (Nat.le_of_ble_eq_true rfl) ?_
  intro p e s m args below meth c Q C hin hQ
  obtain ⟨hn19, f, hI, hB, hif⟩ := hinp
  have bb := hB.1
  refine z_aload_n C dX9_truncateInput_0 rfl ?_
  refine z_iload_n C dX9_truncateInput_1 rfl ?_
  refine z_iconst C dX9_truncateInput_2 ?_
  refine z_aload_n C dX9_truncateInput_3 rfl ?_
  refine z_getM C dX9_truncateInput_4 fl_X9_68 (by first | assumption | ((repeat (first | assumption | exact va_up_self _ _ _ | refine (va_up_ne _ _ (by first | assumption | exact hA.ne (by decide) | exact hA.ne (by omega))).trans ?_)); done)) rfl hn19 ?_
  refine z_callV C dX9_truncateInput_7 lk_X9_196 mw_X9_noNumber mi_X9_noNumber ms_X9_noNumber rfl (by first | assumption | ((repeat (first | assumption | exact va_up_self _ _ _ | refine (va_up_ne _ _ (by first | assumption | exact hA.ne (by decide) | exact hA.ne (by omega))).trans ?_)); done)) (k_X9_noNumber hA hO (x := ll) (a := 0) (b := yIn Y) r_ll (by unfold zR; omega) (by unfold zR; omega)) rfl (by first | decide | exact Nat.le_of_ble_eq_true rfl) ⟨by decide, by decide, by decide, by decide⟩ (fun _ _ h => False.elim h) (fun v M' hp => ?_)
  obtain ⟨r1, F1, rfl, f1, ob1, p1, e1, z1⟩ := hp
  have s1 := z1.rng
  have cf1 := f1
  have cp1 := p1
  have hM1 := cf1.at hA (.of rfl) hM
  refine z_if_eqZ (tgt := 15) C dX9_truncateInput_10 (by decide) (by omega) (fun h10 => ?_) (fun h10 => ?_)
  · have t1 := Decidable.not_not.mp (z1.f h10)
    have t2 : 0 ≤ ll ∧ ll ≤ yIn Y := by
      by_cases w : 0 ≤ ll ∧ ll ≤ yIn Y
      · exact w
      · rw [if_neg w] at t1; cases t1
    rw [t1] at e1
    refine z_aload_n C dX9_truncateInput_15 rfl ?_
    refine z_iload_n C dX9_truncateInput_16 rfl ?_
    refine z_putM C dX9_truncateInput_17 fl_X9_68 (by first | assumption | ((repeat (first | assumption | exact va_up_self _ _ _ | refine (va_up_ne _ _ (by first | assumption | exact hA.ne (by decide) | exact hA.ne (by omega))).trans ?_)); done)) rfl ?_
    refine z_iload_n C dX9_truncateInput_20 rfl ?_
    refine z_iret C hQ dX9_truncateInput_21 rfl (by decide) (by decide) ?_
    refine mAnsY.ok hA (hF.inp hA ((cf1.mo (K := [0, 11]) rfl).up rfl) (va_up_self _ _ _) ((cp1.tr (K := [8, 19]) (K2 := []) mKp.rf ⟨rfl, rfl⟩).up rfl) (va_up_self _ _ _) (by rw [va_up_ne _ _ (hA.ne (by decide))]; exact cf1.at hA (.of rfl) hI) ⟨by omega, hB.2.1, fun j hj => hB.2.2 j (by omega)⟩ (fun j hj => hif j (by omega))) ((cf1.up rfl).mo rfl) ((va_up_ne _ _ (by decide)).trans e1) (by rw [q_truncateInput, if_pos t2]) rfl
  · refine z_iconst C dX9_truncateInput_13 ?_
    refine z_iret C hQ dX9_truncateInput_14 rfl (by decide) (by decide) ?_
    exact mAnsY.no hA hF cf1 ob1 cp1 e1 (z1.t h10) (by rw [q_truncateInput, if_neg (fun w => z1.t h10 (by rw [if_pos w])), if_neg (fun w => z1.t h10 (by rw [if_pos w]))])

