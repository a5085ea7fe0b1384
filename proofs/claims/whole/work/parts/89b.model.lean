/-! the model's questions: the shapes of their answers -/
theorem mSt.r {g : Nat → Int} {S : zSt} (h : mSt g S) {r : Int} (hr : 0 ≤ r ∧ r < sRn S) : mSr g r (sRd S r.toNat) (sG S) := by
  have := h.2.2.2.2.2 r.toNat (by omega)
  rw [show ((r.toNat : Nat) : Int) = r by omega] at this
  exact this
theorem mSt.d {g : Nat → Int} {S : zSt} (h : mSt g S) {d : Int} (hd : 0 ≤ d ∧ d < sDn S) : mSd g d (sDc S d.toNat) := by
  have := h.2.2.2.2.1 d.toNat (by omega)
  rw [show ((d.toNat : Nat) : Int) = d by omega] at this
  exact this
theorem mAns.no {γ : zG} {A : Nat → Nat} {M M' : zM} {F F' : Nat → Int} {Y : zSys} {q : Int × Int} {th b : Int} (hA : mIA A) (hF : hMf γ M A F Y) (f : mF A M M' [0]) (o : M' (A 0) = some (mOb A F')) (p : mKp [8] F F') (e : F' 8 = th) (hn : th ≠ 0) (hq : q.1 = th) : mAns γ A M Y q (some (.int (zi b))) M' := ⟨b, rfl, f.mo rfl, ⟨hA, F', e.trans hq.symm, hF.q0 hA f o p rfl⟩, fun w => absurd (hq.symm.trans w) hn⟩
theorem mAns.ok {γ : zG} {A : Nat → Nat} {M M' : zM} {F' : Nat → Int} {Y : zSys} {q : Int × Int} {b v : Int} (hA : mIA A) (hF : hMf γ M' A F' Y) (f : mAll A M M') (e : F' 8 = 0) (hq : q = (0, v)) (hb : zi b = zi v) : mAns γ A M Y q (some (.int (zi b))) M' := ⟨b, rfl, f, ⟨hA, F', by rw [e, hq], hF⟩, fun _ => by rw [hb, hq]⟩
theorem mKp8 {K : List Nat} {F F' : Nat → Int} (h : mKp [8] F F') (hK : K.contains 8 = true) : mKp K F F' := h.tr (K2 := []) mKp.rf ⟨by simpa using hK, rfl⟩
theorem mPo_sum {g : Nat → Int} {r : Int} {c : Int → Int} {G : List Int} (h : mRp g r c G) (hG : ∀ x, x ∈ G → 0 ≤ x ∧ x < 20439) : mPo g r (mMa g r).toNat = zsum (zind c) 0 20439 := by
  obtain ⟨h1, h2, h3, h4⟩ := h
  have e := zsum_enum (lo := 0) (t := 20439) (ks := fun j => mKe g r j) (mMa g r).toNat (zind c) (fun j hj => by
    have := hG _ (h2 j (by omega) (by omega)).1
    show 0 ≤ mKe g r j ∧ mKe g r j < 0 + (20439 : Nat)
    omega) (fun i j hi hj => h3 i j (by omega) (by omega) (by omega)) (fun k k1 k2 k3 => by
    obtain ⟨j, a1, a2, a3⟩ := h4 k (fun w => k3 (if_pos w))
    exact ⟨j.toNat, by omega, by show mKe g r ((j.toNat : Nat) : Int) = k; rw [show ((j.toNat : Nat) : Int) = j by omega]; exact a3⟩)
  rw [e]
  have aux : ∀ t : Nat, (t : Int) ≤ mMa g r → mPo g r t = zsn (fun j => zind c (mKe g r j)) t := by
    intro t
    induction t with
    | zero => intro _; rfl
    | succ t ih =>
      intro ht
      show mPo g r t + _ = zsn _ t + zind c (mKe g r t)
      rw [ih (by omega)]
      obtain ⟨-, q2, q3⟩ := h2 t (by omega) (by omega)
      unfold zind
      rw [q3]
      have : g (339 + 1412 * r + 12 + 2 * (t : Int) + 1).toNat = mVa g r t := rfl
      rw [this]
      by_cases w : mVa g r t = 0
      · rw [if_pos w, if_neg (by omega)]
      · rw [if_neg w, if_pos (by omega)]
  exact aux _ (by omega)
theorem mCo_c {g : Nat → Int} {S : zSt} (h : mSt g S) {r : Int} (hr : 0 ≤ r ∧ r < sRn S) (key : Int) : mCo g r key = rC (sRd S r.toNat) key := (h.r hr).2.2.2.2.co hr.1 key
set_option maxHeartbeats 4000000 in
set_option maxRecDepth 100000 in
theorem m_thrown {l : Launch} {γ : zG} {M : zM} {A : Nat → Nat} {Y : zSys} {t0 : Int} (h : hMo γ M A Y t0) :
    zCon l γ yX9_thrown cX9_thrown 1 (some .int) [.ref (A 0)] M 0 0 0 0 (fun v' M' => v' = some (.int (zi t0)) ∧ M' = M) (fun _ _ => False) := by
  obtain ⟨hA, F, h8, hF⟩ := h
  have hO := hF.1.1
  refine zEnter [some (.ref (A 0))] (by decide +kernel) rfl rfl (Nat.le_of_ble_eq_true rfl) ?_
  intro p e s m args below meth c Q C hin hQ
  refine z_aload_n C dX9_thrown_0 rfl ?_
  refine z_getM C dX9_thrown_1 fl_X9_85 (by first | assumption | ((repeat (first | assumption | exact va_up_self _ _ _ | refine (va_up_ne _ _ (by first | assumption | exact hA.ne (by decide) | exact hA.ne (by omega))).trans ?_)); done)) rfl (by first | assumption | ((repeat (first | assumption | exact va_up_self _ _ _ | rewrite [va_up_ne _ _ (by decide)])); (first | done | exact rfl))) ?_
  refine z_iret C hQ dX9_thrown_4 rfl (by decide) (by decide) ?_
  exact ⟨rfl, rfl⟩
set_option maxHeartbeats 4000000 in
set_option maxRecDepth 100000 in
theorem m_year {l : Launch} {γ : zG} {M : zM} {A : Nat → Nat} {Y : zSys} {t0 : Int} (hMo0 : hMo γ M A Y t0) (hY : zOk (yS Y)) :
    zCon l γ yX9_year cX9_year 1 (some .int) [.ref (A 0)] M 10 330 0 0 (mAns γ A M Y ((0, sYr (yS Y)))) (fun _ _ => False) := by
  obtain ⟨hA, F, h8, hF⟩ := hMo0
  obtain ⟨hsc, hec, hun, hsl, hinp, hou, ⟨g, hM, hS⟩, hrs⟩ := id hF
  have hO := hsc.1
  have hg := hS.1
  have o1 := hY.1
  refine zEnter [some (.ref (A 0))] (by decide +kernel) rfl rfl (Nat.le_of_ble_eq_true rfl) ?_
  intro p e s m args below meth c Q C hin hQ
  refine z_aload_n C dX9_year_0 rfl ?_
  refine z_iconst C dX9_year_1 ?_
  refine z_putM C dX9_year_2 fl_X9_85 (by first | assumption | ((repeat (first | assumption | exact va_up_self _ _ _ | refine (va_up_ne _ _ (by first | assumption | exact hA.ne (by decide) | exact hA.ne (by omega))).trans ?_)); done)) rfl ?_
  refine z_aload_n C dX9_year_5 rfl ?_
  refine z_get C dX9_year_6 fl_X9_7 (by first | assumption | ((repeat (first | assumption | exact va_up_self _ _ _ | refine (va_up_ne _ _ (by first | assumption | exact hA.ne (by decide) | exact hA.ne (by omega))).trans ?_)); done)) rfl ?_
  refine z_iconst C dX9_year_9 ?_
  refine z_aldN C dX9_year_10 (by first | assumption | ((repeat (first | assumption | exact va_up_self _ _ _ | refine (va_up_ne _ _ (by first | assumption | exact hA.ne (by decide) | exact hA.ne (by omega))).trans ?_)); done)) (by omega) (by omega) (by assumption) (fun hr10 => ?_)
  refine z_iret C hQ dX9_year_11 rfl (by decide) (by decide) ?_
  exact mAns.ok hA (hF.q0 hA (mF.rf.up rfl) (va_up_self _ _ _) (mKp.rf.up rfl : mKp [8] F _) rfl) (mF.rf.up rfl) (va_up_self _ _ _) rfl (hS.2.1)
set_option maxHeartbeats 4000000 in
set_option maxRecDepth 100000 in
theorem m_readerCount {l : Launch} {γ : zG} {M : zM} {A : Nat → Nat} {Y : zSys} {t0 : Int} (hMo0 : hMo γ M A Y t0) (hY : zOk (yS Y)) :
    zCon l γ yX9_readerCount cX9_readerCount 1 (some .int) [.ref (A 0)] M 10 330 0 0 (mAns γ A M Y ((0, sRn (yS Y)))) (fun _ _ => False) := by
  obtain ⟨hA, F, h8, hF⟩ := hMo0
  obtain ⟨hsc, hec, hun, hsl, hinp, hou, ⟨g, hM, hS⟩, hrs⟩ := id hF
  have hO := hsc.1
  have hg := hS.1
  have o1 := hY.1
  refine zEnter [some (.ref (A 0))] (by decide +kernel) rfl rfl (Nat.le_of_ble_eq_true rfl) ?_
  intro p e s m args below meth c Q C hin hQ
  refine z_aload_n C dX9_readerCount_0 rfl ?_
  refine z_iconst C dX9_readerCount_1 ?_
  refine z_putM C dX9_readerCount_2 fl_X9_85 (by first | assumption | ((repeat (first | assumption | exact va_up_self _ _ _ | refine (va_up_ne _ _ (by first | assumption | exact hA.ne (by decide) | exact hA.ne (by omega))).trans ?_)); done)) rfl ?_
  refine z_aload_n C dX9_readerCount_5 rfl ?_
  refine z_get C dX9_readerCount_6 fl_X9_7 (by first | assumption | ((repeat (first | assumption | exact va_up_self _ _ _ | refine (va_up_ne _ _ (by first | assumption | exact hA.ne (by decide) | exact hA.ne (by omega))).trans ?_)); done)) rfl ?_
  refine z_iconst C dX9_readerCount_9 ?_
  refine z_aldN C dX9_readerCount_10 (by first | assumption | ((repeat (first | assumption | exact va_up_self _ _ _ | refine (va_up_ne _ _ (by first | assumption | exact hA.ne (by decide) | exact hA.ne (by omega))).trans ?_)); done)) (by omega) (by omega) (by assumption) (fun hr10 => ?_)
  refine z_iret C hQ dX9_readerCount_11 rfl (by decide) (by decide) ?_
  exact mAns.ok hA (hF.q0 hA (mF.rf.up rfl) (va_up_self _ _ _) (mKp.rf.up rfl : mKp [8] F _) rfl) (mF.rf.up rfl) (va_up_self _ _ _) rfl (by rw [show g (2 : Int).toNat = sRn (yS Y) from hS.2.2.2.1])
set_option maxHeartbeats 4000000 in
set_option maxRecDepth 100000 in
theorem m_documentCount {l : Launch} {γ : zG} {M : zM} {A : Nat → Nat} {Y : zSys} {t0 : Int} (hMo0 : hMo γ M A Y t0) (hY : zOk (yS Y)) :
    zCon l γ yX9_documentCount cX9_documentCount 1 (some .int) [.ref (A 0)] M 10 330 0 0 (mAns γ A M Y ((0, sDn (yS Y)))) (fun _ _ => False) := by
  obtain ⟨hA, F, h8, hF⟩ := hMo0
  obtain ⟨hsc, hec, hun, hsl, hinp, hou, ⟨g, hM, hS⟩, hrs⟩ := id hF
  have hO := hsc.1
  have hg := hS.1
  have o1 := hY.1
  refine zEnter [some (.ref (A 0))] (by decide +kernel) rfl rfl (Nat.le_of_ble_eq_true rfl) ?_
  intro p e s m args below meth c Q C hin hQ
  refine z_aload_n C dX9_documentCount_0 rfl ?_
  refine z_iconst C dX9_documentCount_1 ?_
  refine z_putM C dX9_documentCount_2 fl_X9_85 (by first | assumption | ((repeat (first | assumption | exact va_up_self _ _ _ | refine (va_up_ne _ _ (by first | assumption | exact hA.ne (by decide) | exact hA.ne (by omega))).trans ?_)); done)) rfl ?_
  refine z_aload_n C dX9_documentCount_5 rfl ?_
  refine z_get C dX9_documentCount_6 fl_X9_7 (by first | assumption | ((repeat (first | assumption | exact va_up_self _ _ _ | refine (va_up_ne _ _ (by first | assumption | exact hA.ne (by decide) | exact hA.ne (by omega))).trans ?_)); done)) rfl ?_
  refine z_iconst C dX9_documentCount_9 ?_
  refine z_aldN C dX9_documentCount_10 (by first | assumption | ((repeat (first | assumption | exact va_up_self _ _ _ | refine (va_up_ne _ _ (by first | assumption | exact hA.ne (by decide) | exact hA.ne (by omega))).trans ?_)); done)) (by omega) (by omega) (by assumption) (fun hr10 => ?_)
  refine z_iret C hQ dX9_documentCount_11 rfl (by decide) (by decide) ?_
  exact mAns.ok hA (hF.q0 hA (mF.rf.up rfl) (va_up_self _ _ _) (mKp.rf.up rfl : mKp [8] F _) rfl) (mF.rf.up rfl) (va_up_self _ _ _) rfl (by rw [show g (1 : Int).toNat = sDn (yS Y) from hS.2.2.1])
set_option maxHeartbeats 4000000 in
set_option maxRecDepth 100000 in
theorem m_errorCode {l : Launch} {γ : zG} {M : zM} {A : Nat → Nat} {Y : zSys} {t0 : Int} (hMo0 : hMo γ M A Y t0) (hY : zOk (yS Y)) :
    zCon l γ yX9_errorCode cX9_errorCode 1 (some .int) [.ref (A 0)] M 10 330 0 0 (mAns γ A M Y ((0, yEc Y))) (fun _ _ => False) := by
  obtain ⟨hA, F, h8, hF⟩ := hMo0
  obtain ⟨hsc, hec, hun, hsl, hinp, hou, ⟨g, hM, hS⟩, hrs⟩ := id hF
  have hO := hsc.1
  have hg := hS.1
  have o1 := hY.1
  refine zEnter [some (.ref (A 0))] (by decide +kernel) rfl rfl (Nat.le_of_ble_eq_true rfl) ?_
  intro p e s m args below meth c Q C hin hQ
  refine z_aload_n C dX9_errorCode_0 rfl ?_
  refine z_iconst C dX9_errorCode_1 ?_
  refine z_putM C dX9_errorCode_2 fl_X9_85 (by first | assumption | ((repeat (first | assumption | exact va_up_self _ _ _ | refine (va_up_ne _ _ (by first | assumption | exact hA.ne (by decide) | exact hA.ne (by omega))).trans ?_)); done)) rfl ?_
  refine z_aload_n C dX9_errorCode_5 rfl ?_
  refine z_getM C dX9_errorCode_6 fl_X9_199 (by first | assumption | ((repeat (first | assumption | exact va_up_self _ _ _ | refine (va_up_ne _ _ (by first | assumption | exact hA.ne (by decide) | exact hA.ne (by omega))).trans ?_)); done)) rfl ((va_up_ne _ _ (by decide)).trans hec.1) ?_
  refine z_iret C hQ dX9_errorCode_9 rfl (by decide) (by decide) ?_
  exact mAns.ok hA (hF.q0 hA (mF.rf.up rfl) (va_up_self _ _ _) (mKp.rf.up rfl : mKp [8] F _) rfl) (mF.rf.up rfl) (va_up_self _ _ _) rfl (rfl)
set_option maxHeartbeats 4000000 in
set_option maxRecDepth 100000 in
theorem m_errorPosition {l : Launch} {γ : zG} {M : zM} {A : Nat → Nat} {Y : zSys} {t0 : Int} (hMo0 : hMo γ M A Y t0) (hY : zOk (yS Y)) :
    zCon l γ yX9_errorPosition cX9_errorPosition 1 (some .int) [.ref (A 0)] M 10 330 0 0 (mAns γ A M Y ((0, yEp Y))) (fun _ _ => False) := by
  obtain ⟨hA, F, h8, hF⟩ := hMo0
  obtain ⟨hsc, hec, hun, hsl, hinp, hou, ⟨g, hM, hS⟩, hrs⟩ := id hF
  have hO := hsc.1
  have hg := hS.1
  have o1 := hY.1
  refine zEnter [some (.ref (A 0))] (by decide +kernel) rfl rfl (Nat.le_of_ble_eq_true rfl) ?_
  intro p e s m args below meth c Q C hin hQ
  refine z_aload_n C dX9_errorPosition_0 rfl ?_
  refine z_iconst C dX9_errorPosition_1 ?_
  refine z_putM C dX9_errorPosition_2 fl_X9_85 (by first | assumption | ((repeat (first | assumption | exact va_up_self _ _ _ | refine (va_up_ne _ _ (by first | assumption | exact hA.ne (by decide) | exact hA.ne (by omega))).trans ?_)); done)) rfl ?_
  refine z_aload_n C dX9_errorPosition_5 rfl ?_
  refine z_getM C dX9_errorPosition_6 fl_X9_45 (by first | assumption | ((repeat (first | assumption | exact va_up_self _ _ _ | refine (va_up_ne _ _ (by first | assumption | exact hA.ne (by decide) | exact hA.ne (by omega))).trans ?_)); done)) rfl ((va_up_ne _ _ (by decide)).trans hec.2) ?_
  refine z_iret C hQ dX9_errorPosition_9 rfl (by decide) (by decide) ?_
  exact mAns.ok hA (hF.q0 hA (mF.rf.up rfl) (va_up_self _ _ _) (mKp.rf.up rfl : mKp [8] F _) rfl) (mF.rf.up rfl) (va_up_self _ _ _) rfl (rfl)
set_option maxHeartbeats 4000000 in
set_option maxRecDepth 100000 in
theorem m_undoDepth {l : Launch} {γ : zG} {M : zM} {A : Nat → Nat} {Y : zSys} {t0 : Int} (hMo0 : hMo γ M A Y t0) (hY : zOk (yS Y)) :
    zCon l γ yX9_undoDepth cX9_undoDepth 1 (some .int) [.ref (A 0)] M 10 330 0 0 (mAns γ A M Y ((0, yPc Y))) (fun _ _ => False) := by
  obtain ⟨hA, F, h8, hF⟩ := hMo0
  obtain ⟨hsc, hec, hun, hsl, hinp, hou, ⟨g, hM, hS⟩, hrs⟩ := id hF
  have hO := hsc.1
  have hg := hS.1
  have o1 := hY.1
  refine zEnter [some (.ref (A 0))] (by decide +kernel) rfl rfl (Nat.le_of_ble_eq_true rfl) ?_
  intro p e s m args below meth c Q C hin hQ
  refine z_aload_n C dX9_undoDepth_0 rfl ?_
  refine z_iconst C dX9_undoDepth_1 ?_
  refine z_putM C dX9_undoDepth_2 fl_X9_85 (by first | assumption | ((repeat (first | assumption | exact va_up_self _ _ _ | refine (va_up_ne _ _ (by first | assumption | exact hA.ne (by decide) | exact hA.ne (by omega))).trans ?_)); done)) rfl ?_
  refine z_aload_n C dX9_undoDepth_5 rfl ?_
  refine z_getM C dX9_undoDepth_6 fl_X9_289 (by first | assumption | ((repeat (first | assumption | exact va_up_self _ _ _ | refine (va_up_ne _ _ (by first | assumption | exact hA.ne (by decide) | exact hA.ne (by omega))).trans ?_)); done)) rfl ((va_up_ne _ _ (by decide)).trans hun.2.1) ?_
  refine z_iret C hQ dX9_undoDepth_9 rfl (by decide) (by decide) ?_
  exact mAns.ok hA (hF.q0 hA (mF.rf.up rfl) (va_up_self _ _ _) (mKp.rf.up rfl : mKp [8] F _) rfl) (mF.rf.up rfl) (va_up_self _ _ _) rfl (rfl)
set_option maxHeartbeats 4000000 in
set_option maxRecDepth 100000 in
theorem m_escapeMethod {l : Launch} {γ : zG} {M : zM} {A : Nat → Nat} {Y : zSys} {t0 : Int} {rr : Int} (hMo0 : hMo γ M A Y t0) (hY : zOk (yS Y)) (r_rr : zR rr) :
    zCon l γ yX9_escapeMethod cX9_escapeMethod 2 (some .int) [.ref (A 0), .int (zi rr)] M 10 330 0 0 (mAns γ A M Y (q_escapeMethod (yS Y) rr)) (fun _ _ => False) := by
  obtain ⟨hA, F, h8, hF⟩ := hMo0
  obtain ⟨hsc, hec, hun, hsl, hinp, hou, ⟨g, hM, hS⟩, hrs⟩ := id hF
  have hO := hsc.1
  have hg := hS.1
  have o1 := hY.1
  have z_rr := r_rr
  unfold zR at z_rr
  refine zEnter [some (.ref (A 0)), some (.int (zi rr))] (by decide +kernel) rfl rfl (Nat.le_of_ble_eq_true rfl) ?_
  intro p e s m args below meth c Q C hin hQ
  refine z_aload_n C dX9_escapeMethod_0 rfl ?_
  refine z_iload_n C dX9_escapeMethod_1 rfl ?_
  refine z_callV C dX9_escapeMethod_2 lk_X9_295 mw_X9_noReader mi_X9_noReader ms_X9_noReader rfl hO (k_X9_noReader hA hO hM hS hY r_rr) rfl (by first | decide | exact Nat.le_of_ble_eq_true rfl) ⟨by decide, by decide, by decide, by decide⟩ (fun _ _ h => False.elim h) (fun v M' hp => ?_)
  obtain ⟨r1, F1, rfl, f1, ob1, p1, e1, z1⟩ := hp
  have s1 := z1.rng
  have hM1 := f1.at hA (.of rfl) hM
  refine z_if_eqZ (tgt := 12) C dX9_escapeMethod_5 (by decide) (by omega) (fun h5 => ?_) (fun h5 => ?_)
  · have t1 := Decidable.not_not.mp (z1.f h5)
    obtain ⟨c1, -⟩ := mqR_0 t1
    refine z_aload_n C dX9_escapeMethod_12 rfl ?_
    refine z_get C dX9_escapeMethod_13 fl_X9_7 (by first | assumption | ((repeat (first | assumption | exact va_up_self _ _ _ | refine (va_up_ne _ _ (by first | assumption | exact hA.ne (by decide) | exact hA.ne (by omega))).trans ?_)); done)) rfl ?_
    refine z_iload_n C dX9_escapeMethod_16 rfl ?_
    refine z_callS C dX9_escapeMethod_17 lk_X9_92 mw_X9_atReader mst_X9_atReader k_X9_atReader rfl (by first | decide | exact Nat.le_of_ble_eq_true rfl) ⟨by decide, by decide, by decide, by decide⟩ (fun _ _ h => False.elim h) (fun v M' hp => ?_)
    obtain ⟨rfl, rfl⟩ := hp
    refine z_iconst C dX9_escapeMethod_20 ?_
    refine z_iaddZ C dX9_escapeMethod_21 ?_
    refine z_aldN C dX9_escapeMethod_22 (by first | assumption | ((repeat (first | assumption | exact va_up_self _ _ _ | refine (va_up_ne _ _ (by first | assumption | exact hA.ne (by decide) | exact hA.ne (by omega))).trans ?_)); done)) (by omega) (by omega) (by assumption) (fun hr22 => ?_)
    refine z_iret C hQ dX9_escapeMethod_23 rfl (by decide) (by decide) ?_
    exact mAns.ok hA (hF.q0 hA f1 ob1 p1 rfl) (f1.mo rfl) (e1.trans t1) (by rw [q_escapeMethod, mqR_t c1]) (by rw [(hS.r c1).2.1])
  · refine z_iconst C dX9_escapeMethod_8 ?_
    refine z_goto (tgt := 23) C dX9_escapeMethod_9 (by decide) ?_
    refine z_iret C hQ dX9_escapeMethod_23 rfl (by decide) (by decide) ?_
    exact mAns.no hA hF f1 ob1 p1 e1 (z1.t h5) (mqR_1 rfl)
set_option maxHeartbeats 4000000 in
set_option maxRecDepth 100000 in
theorem m_documentLength {l : Launch} {γ : zG} {M : zM} {A : Nat → Nat} {Y : zSys} {t0 : Int} {dd : Int} (hMo0 : hMo γ M A Y t0) (hY : zOk (yS Y)) (r_dd : zR dd) :
    zCon l γ yX9_documentLength cX9_documentLength 2 (some .int) [.ref (A 0), .int (zi dd)] M 10 330 0 0 (mAns γ A M Y (q_documentLength (yS Y) dd)) (fun _ _ => False) := by
  obtain ⟨hA, F, h8, hF⟩ := hMo0
  obtain ⟨hsc, hec, hun, hsl, hinp, hou, ⟨g, hM, hS⟩, hrs⟩ := id hF
  have hO := hsc.1
  have hg := hS.1
  have o1 := hY.1
  have z_dd := r_dd
  unfold zR at z_dd
  refine zEnter [some (.ref (A 0)), some (.int (zi dd))] (by decide +kernel) rfl rfl (Nat.le_of_ble_eq_true rfl) ?_
  intro p e s m args below meth c Q C hin hQ
  refine z_aload_n C dX9_documentLength_0 rfl ?_
  refine z_iload_n C dX9_documentLength_1 rfl ?_
  refine z_callV C dX9_documentLength_2 lk_X9_298 mw_X9_noDocument mi_X9_noDocument ms_X9_noDocument rfl hO (k_X9_noDocument hA hO hM hS hY r_dd) rfl (by first | decide | exact Nat.le_of_ble_eq_true rfl) ⟨by decide, by decide, by decide, by decide⟩ (fun _ _ h => False.elim h) (fun v M' hp => ?_)
  obtain ⟨r1, F1, rfl, f1, ob1, p1, e1, z1⟩ := hp
  have s1 := z1.rng
  have hM1 := f1.at hA (.of rfl) hM
  refine z_if_eqZ (tgt := 12) C dX9_documentLength_5 (by decide) (by omega) (fun h5 => ?_) (fun h5 => ?_)
  · have t1 := Decidable.not_not.mp (z1.f h5)
    obtain ⟨c1, -⟩ := mqD_0 t1
    refine z_aload_n C dX9_documentLength_12 rfl ?_
    refine z_get C dX9_documentLength_13 fl_X9_7 (by first | assumption | ((repeat (first | assumption | exact va_up_self _ _ _ | refine (va_up_ne _ _ (by first | assumption | exact hA.ne (by decide) | exact hA.ne (by omega))).trans ?_)); done)) rfl ?_
    refine z_iload_n C dX9_documentLength_16 rfl ?_
    refine z_callS C dX9_documentLength_17 lk_X9_114 mw_X9_lengthOf mst_X9_lengthOf (k_X9_lengthOf hM1 hg (by omega)) rfl (by first | decide | exact Nat.le_of_ble_eq_true rfl) ⟨by decide, by decide, by decide, by decide⟩ (fun _ _ h => False.elim h) (fun v M' hp => ?_)
    obtain ⟨rfl, rfl⟩ := hp
    refine z_iret C hQ dX9_documentLength_20 rfl (by decide) (by decide) ?_
    exact mAns.ok hA (hF.q0 hA f1 ob1 p1 rfl) (f1.mo rfl) (e1.trans t1) (by rw [q_documentLength, mqD_t c1]) (by rw [(hS.d c1).1.1])
  · refine z_iconst C dX9_documentLength_8 ?_
    refine z_goto (tgt := 20) C dX9_documentLength_9 (by decide) ?_
    refine z_iret C hQ dX9_documentLength_20 rfl (by decide) (by decide) ?_
    exact mAns.no hA hF f1 ob1 p1 e1 (z1.t h5) (mqD_1 rfl)
set_option maxHeartbeats 4000000 in
set_option maxRecDepth 100000 in
theorem m_documentYear {l : Launch} {γ : zG} {M : zM} {A : Nat → Nat} {Y : zSys} {t0 : Int} {dd : Int} (hMo0 : hMo γ M A Y t0) (hY : zOk (yS Y)) (r_dd : zR dd) :
    zCon l γ yX9_documentYear cX9_documentYear 2 (some .int) [.ref (A 0), .int (zi dd)] M 10 330 0 0 (mAns γ A M Y (q_documentYear (yS Y) dd)) (fun _ _ => False) := by
  obtain ⟨hA, F, h8, hF⟩ := hMo0
  obtain ⟨hsc, hec, hun, hsl, hinp, hou, ⟨g, hM, hS⟩, hrs⟩ := id hF
  have hO := hsc.1
  have hg := hS.1
  have o1 := hY.1
  have z_dd := r_dd
  unfold zR at z_dd
  refine zEnter [some (.ref (A 0)), some (.int (zi dd))] (by decide +kernel) rfl rfl (Nat.le_of_ble_eq_true rfl) ?_
  intro p e s m args below meth c Q C hin hQ
  refine z_aload_n C dX9_documentYear_0 rfl ?_
  refine z_iload_n C dX9_documentYear_1 rfl ?_
  refine z_callV C dX9_documentYear_2 lk_X9_298 mw_X9_noDocument mi_X9_noDocument ms_X9_noDocument rfl hO (k_X9_noDocument hA hO hM hS hY r_dd) rfl (by first | decide | exact Nat.le_of_ble_eq_true rfl) ⟨by decide, by decide, by decide, by decide⟩ (fun _ _ h => False.elim h) (fun v M' hp => ?_)
  obtain ⟨r1, F1, rfl, f1, ob1, p1, e1, z1⟩ := hp
  have s1 := z1.rng
  have hM1 := f1.at hA (.of rfl) hM
  refine z_if_eqZ (tgt := 12) C dX9_documentYear_5 (by decide) (by omega) (fun h5 => ?_) (fun h5 => ?_)
  · have t1 := Decidable.not_not.mp (z1.f h5)
    obtain ⟨c1, -⟩ := mqD_0 t1
    refine z_aload_n C dX9_documentYear_12 rfl ?_
    refine z_get C dX9_documentYear_13 fl_X9_7 (by first | assumption | ((repeat (first | assumption | exact va_up_self _ _ _ | refine (va_up_ne _ _ (by first | assumption | exact hA.ne (by decide) | exact hA.ne (by omega))).trans ?_)); done)) rfl ?_
    refine z_iload_n C dX9_documentYear_16 rfl ?_
    refine z_callS C dX9_documentYear_17 lk_X9_88 mw_X9_atDocument mst_X9_atDocument k_X9_atDocument rfl (by first | decide | exact Nat.le_of_ble_eq_true rfl) ⟨by decide, by decide, by decide, by decide⟩ (fun _ _ h => False.elim h) (fun v M' hp => ?_)
    obtain ⟨rfl, rfl⟩ := hp
    refine z_iconst C dX9_documentYear_20 ?_
    refine z_iaddZ C dX9_documentYear_21 ?_
    refine z_aldN C dX9_documentYear_22 (by first | assumption | ((repeat (first | assumption | exact va_up_self _ _ _ | refine (va_up_ne _ _ (by first | assumption | exact hA.ne (by decide) | exact hA.ne (by omega))).trans ?_)); done)) (by omega) (by omega) (by assumption) (fun hr22 => ?_)
    refine z_iret C hQ dX9_documentYear_23 rfl (by decide) (by decide) ?_
    exact mAns.ok hA (hF.q0 hA f1 ob1 p1 rfl) (f1.mo rfl) (e1.trans t1) (by rw [q_documentYear, mqD_t c1]) ((hS.d c1).2)
  · refine z_iconst C dX9_documentYear_8 ?_
    refine z_goto (tgt := 23) C dX9_documentYear_9 (by decide) ?_
    refine z_iret C hQ dX9_documentYear_23 rfl (by decide) (by decide) ?_
    exact mAns.no hA hF f1 ob1 p1 e1 (z1.t h5) (mqD_1 rfl)
set_option maxHeartbeats 4000000 in
set_option maxRecDepth 100000 in
theorem m_timesTrained {l : Launch} {γ : zG} {M : zM} {A : Nat → Nat} {Y : zSys} {t0 : Int} {rr dd : Int} (hMo0 : hMo γ M A Y t0) (hY : zOk (yS Y)) (r_rr : zR rr) (r_dd : zR dd) :
    zCon l γ yX9_timesTrained cX9_timesTrained 3 (some .int) [.ref (A 0), .int (zi rr), .int (zi dd)] M 10 330 0 0 (mAns γ A M Y (q_timesTrained (yS Y) rr dd)) (fun _ _ => False) := by
  obtain ⟨hA, F, h8, hF⟩ := hMo0
  obtain ⟨hsc, hec, hun, hsl, hinp, hou, ⟨g, hM, hS⟩, hrs⟩ := id hF
  have hO := hsc.1
  have hg := hS.1
  have o1 := hY.1
  have z_rr := r_rr
  unfold zR at z_rr
  have z_dd := r_dd
  unfold zR at z_dd
  refine zEnter [some (.ref (A 0)), some (.int (zi rr)), some (.int (zi dd))] (by decide +kernel) rfl rfl (Nat.le_of_ble_eq_true rfl) ?_
  intro p e s m args below meth c Q C hin hQ
  refine z_aload_n C dX9_timesTrained_0 rfl ?_
  refine z_iload_n C dX9_timesTrained_1 rfl ?_
  refine z_iload_n C dX9_timesTrained_2 rfl ?_
  refine z_callV C dX9_timesTrained_3 lk_X9_328 mw_X9_noBoth mi_X9_noBoth ms_X9_noBoth rfl hO (k_X9_noBoth hA hO hM hS hY r_rr r_dd) rfl (by first | decide | exact Nat.le_of_ble_eq_true rfl) ⟨by decide, by decide, by decide, by decide⟩ (fun _ _ h => False.elim h) (fun v M' hp => ?_)
  obtain ⟨r1, F1, rfl, f1, ob1, p1, e1, z1⟩ := hp
  have s1 := z1.rng
  have hM1 := f1.at hA (.of rfl) hM
  refine z_if_eqZ (tgt := 13) C dX9_timesTrained_6 (by decide) (by omega) (fun h6 => ?_) (fun h6 => ?_)
  · have t1 := Decidable.not_not.mp (z1.f h6)
    obtain ⟨c1, c0⟩ := mqR_0 t1
    obtain ⟨c2, -⟩ := mqD_0 c0
    refine z_aload_n C dX9_timesTrained_13 rfl ?_
    refine z_get C dX9_timesTrained_14 fl_X9_7 (by first | assumption | ((repeat (first | assumption | exact va_up_self _ _ _ | refine (va_up_ne _ _ (by first | assumption | exact hA.ne (by decide) | exact hA.ne (by omega))).trans ?_)); done)) rfl ?_
    refine z_iload_n C dX9_timesTrained_17 rfl ?_
    refine z_callS C dX9_timesTrained_18 lk_X9_92 mw_X9_atReader mst_X9_atReader k_X9_atReader rfl (by first | decide | exact Nat.le_of_ble_eq_true rfl) ⟨by decide, by decide, by decide, by decide⟩ (fun _ _ h => False.elim h) (fun v M' hp => ?_)
    obtain ⟨rfl, rfl⟩ := hp
    refine z_iconst C dX9_timesTrained_21 ?_
    refine z_iaddZ C dX9_timesTrained_22 ?_
    refine z_iload_n C dX9_timesTrained_23 rfl ?_
    refine z_iaddZ C dX9_timesTrained_24 ?_
    refine z_aldN C dX9_timesTrained_25 (by first | assumption | ((repeat (first | assumption | exact va_up_self _ _ _ | refine (va_up_ne _ _ (by first | assumption | exact hA.ne (by decide) | exact hA.ne (by omega))).trans ?_)); done)) (by omega) (by omega) (by assumption) (fun hr25 => ?_)
    refine z_iret C hQ dX9_timesTrained_26 rfl (by decide) (by decide) ?_
    exact mAns.ok hA (hF.q0 hA f1 ob1 p1 rfl) (f1.mo rfl) (e1.trans t1) (by rw [q_timesTrained, mqR_t c1, mqD_t c2]) ((hS.r c1).2.2.2.1 dd (by omega) (by omega))
  · refine z_iconst C dX9_timesTrained_9 ?_
    refine z_goto (tgt := 26) C dX9_timesTrained_10 (by decide) ?_
    refine z_iret C hQ dX9_timesTrained_26 rfl (by decide) (by decide) ?_
    exact mAns.no hA hF f1 ob1 p1 e1 (z1.t h6) (mqR_1 (mqD_1 rfl))
set_option maxHeartbeats 4000000 in
set_option maxRecDepth 100000 in
theorem m_trainedSymbols {l : Launch} {γ : zG} {M : zM} {A : Nat → Nat} {Y : zSys} {t0 : Int} {rr : Int} (hMo0 : hMo γ M A Y t0) (hY : zOk (yS Y)) (r_rr : zR rr) :
    zCon l γ yX9_trainedSymbols cX9_trainedSymbols 2 (some .int) [.ref (A 0), .int (zi rr)] M 10 330 0 0 (mAns γ A M Y (q_trainedSymbols (yS Y) rr)) (fun _ _ => False) := by
  obtain ⟨hA, F, h8, hF⟩ := hMo0
  obtain ⟨hsc, hec, hun, hsl, hinp, hou, ⟨g, hM, hS⟩, hrs⟩ := id hF
  have hO := hsc.1
  have hg := hS.1
  have o1 := hY.1
  have z_rr := r_rr
  unfold zR at z_rr
  refine zEnter [some (.ref (A 0)), some (.int (zi rr))] (by decide +kernel) rfl rfl (Nat.le_of_ble_eq_true rfl) ?_
  intro p e s m args below meth c Q C hin hQ
  refine z_aload_n C dX9_trainedSymbols_0 rfl ?_
  refine z_iload_n C dX9_trainedSymbols_1 rfl ?_
  refine z_callV C dX9_trainedSymbols_2 lk_X9_295 mw_X9_noReader mi_X9_noReader ms_X9_noReader rfl hO (k_X9_noReader hA hO hM hS hY r_rr) rfl (by first | decide | exact Nat.le_of_ble_eq_true rfl) ⟨by decide, by decide, by decide, by decide⟩ (fun _ _ h => False.elim h) (fun v M' hp => ?_)
  obtain ⟨r1, F1, rfl, f1, ob1, p1, e1, z1⟩ := hp
  have s1 := z1.rng
  have hM1 := f1.at hA (.of rfl) hM
  refine z_if_eqZ (tgt := 12) C dX9_trainedSymbols_5 (by decide) (by omega) (fun h5 => ?_) (fun h5 => ?_)
  · have t1 := Decidable.not_not.mp (z1.f h5)
    obtain ⟨c1, -⟩ := mqR_0 t1
    refine z_aload_n C dX9_trainedSymbols_12 rfl ?_
    refine z_get C dX9_trainedSymbols_13 fl_X9_7 (by first | assumption | ((repeat (first | assumption | exact va_up_self _ _ _ | refine (va_up_ne _ _ (by first | assumption | exact hA.ne (by decide) | exact hA.ne (by omega))).trans ?_)); done)) rfl ?_
    refine z_iload_n C dX9_trainedSymbols_16 rfl ?_
    refine z_callS C dX9_trainedSymbols_17 lk_X9_92 mw_X9_atReader mst_X9_atReader k_X9_atReader rfl (by first | decide | exact Nat.le_of_ble_eq_true rfl) ⟨by decide, by decide, by decide, by decide⟩ (fun _ _ h => False.elim h) (fun v M' hp => ?_)
    obtain ⟨rfl, rfl⟩ := hp
    refine z_iconst C dX9_trainedSymbols_20 ?_
    refine z_iaddZ C dX9_trainedSymbols_21 ?_
    refine z_aldN C dX9_trainedSymbols_22 (by first | assumption | ((repeat (first | assumption | exact va_up_self _ _ _ | refine (va_up_ne _ _ (by first | assumption | exact hA.ne (by decide) | exact hA.ne (by omega))).trans ?_)); done)) (by omega) (by omega) (by assumption) (fun hr22 => ?_)
    refine z_iret C hQ dX9_trainedSymbols_23 rfl (by decide) (by decide) ?_
    exact mAns.ok hA (hF.q0 hA f1 ob1 p1 rfl) (f1.mo rfl) (e1.trans t1) (by rw [q_trainedSymbols, mqR_t c1]) ((hS.r c1).2.2.1)
  · refine z_iconst C dX9_trainedSymbols_8 ?_
    refine z_goto (tgt := 23) C dX9_trainedSymbols_9 (by decide) ?_
    refine z_iret C hQ dX9_trainedSymbols_23 rfl (by decide) (by decide) ?_
    exact mAns.no hA hF f1 ob1 p1 e1 (z1.t h5) (mqR_1 rfl)
set_option maxHeartbeats 4000000 in
set_option maxRecDepth 100000 in
theorem m_positiveCounts {l : Launch} {γ : zG} {M : zM} {A : Nat → Nat} {Y : zSys} {t0 : Int} {rr : Int} (hMo0 : hMo γ M A Y t0) (hY : zOk (yS Y)) (r_rr : zR rr) :
    zCon l γ yX9_positiveCounts cX9_positiveCounts 2 (some .int) [.ref (A 0), .int (zi rr)] M 10 330 0 0 (mAns γ A M Y (q_positiveCounts (yS Y) rr)) (fun _ _ => False) := by
  obtain ⟨hA, F, h8, hF⟩ := hMo0
  obtain ⟨hsc, hec, hun, hsl, hinp, hou, ⟨g, hM, hS⟩, hrs⟩ := id hF
  have hO := hsc.1
  have hg := hS.1
  have o1 := hY.1
  have z_rr := r_rr
  unfold zR at z_rr
  refine zEnter [some (.ref (A 0)), some (.int (zi rr))] (by decide +kernel) rfl rfl (Nat.le_of_ble_eq_true rfl) ?_
  intro p e s m args below meth c Q C hin hQ
  refine z_aload_n C dX9_positiveCounts_0 rfl ?_
  refine z_iload_n C dX9_positiveCounts_1 rfl ?_
  refine z_callV C dX9_positiveCounts_2 lk_X9_295 mw_X9_noReader mi_X9_noReader ms_X9_noReader rfl hO (k_X9_noReader hA hO hM hS hY r_rr) rfl (by first | decide | exact Nat.le_of_ble_eq_true rfl) ⟨by decide, by decide, by decide, by decide⟩ (fun _ _ h => False.elim h) (fun v M' hp => ?_)
  obtain ⟨r1, F1, rfl, f1, ob1, p1, e1, z1⟩ := hp
  have s1 := z1.rng
  have hM1 := f1.at hA (.of rfl) hM
  refine z_if_eqZ (tgt := 12) C dX9_positiveCounts_5 (by decide) (by omega) (fun h5 => ?_) (fun h5 => ?_)
  · have t1 := Decidable.not_not.mp (z1.f h5)
    obtain ⟨c1, -⟩ := mqR_0 t1
    have ll := (hS.r c1).2.2.2.2.1
    refine z_aload_n C dX9_positiveCounts_12 rfl ?_
    refine z_get C dX9_positiveCounts_13 fl_X9_7 (by first | assumption | ((repeat (first | assumption | exact va_up_self _ _ _ | refine (va_up_ne _ _ (by first | assumption | exact hA.ne (by decide) | exact hA.ne (by omega))).trans ?_)); done)) rfl ?_
    refine z_iload_n C dX9_positiveCounts_16 rfl ?_
    refine z_callS C dX9_positiveCounts_17 lk_X9_325 mw_X9_positiveOf mst_X9_positiveOf (k_X9_positiveOf hM1 hg (by omega) ll) rfl (by first | decide | exact Nat.le_of_ble_eq_true rfl) ⟨by decide, by decide, by decide, by decide⟩ (fun _ _ h => False.elim h) (fun v M' hp => ?_)
    obtain ⟨rfl, rfl⟩ := hp
    refine z_iret C hQ dX9_positiveCounts_20 rfl (by decide) (by decide) ?_
    exact mAns.ok hA (hF.q0 hA f1 ob1 p1 rfl) (f1.mo rfl) (e1.trans t1) (by rw [q_positiveCounts, mqR_t c1]) (by rw [mPo_sum (hS.r c1).2.2.2.2 (fun x hx => sG_rng hx)])
  · refine z_iconst C dX9_positiveCounts_8 ?_
    refine z_goto (tgt := 20) C dX9_positiveCounts_9 (by decide) ?_
    refine z_iret C hQ dX9_positiveCounts_20 rfl (by decide) (by decide) ?_
    exact mAns.no hA hF f1 ob1 p1 e1 (z1.t h5) (mqR_1 rfl)

