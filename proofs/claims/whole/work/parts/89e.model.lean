/-! the model's questions: documents read -/
theorem zrk_rng {c : Int → Int} {b p s : Int} (hs : 0 ≤ s ∧ s < 27) : 1 ≤ zrk c b p s ∧ zrk c b p s ≤ 27 := by
  have f01 : ∀ y, 0 ≤ zbfi c b p y s ∧ zbfi c b p y s ≤ 1 := fun y => by
    unfold zbfi
    split <;> decide
  have h0 : 0 ≤ zsum (fun y => zbfi c b p y s) 0 27 := zsum_nn fun i _ => (f01 _).1
  have hs0 : zbfi c b p s s = 0 := by
    unfold zbfi
    rw [if_neg]
    intro w
    unfold zbf at w
    omega
  have add : ∀ t : Nat, zsum (fun y => zbfi c b p y s) 0 t + zsum (fun y => 1 - zbfi c b p y s) 0 t = t := by
    intro t
    induction t with
    | zero => rfl
    | succ t ih =>
      show (zsum (fun y => zbfi c b p y s) 0 t + zbfi c b p (0 + t) s) + (zsum (fun y => 1 - zbfi c b p y s) 0 t + (1 - zbfi c b p (0 + t) s)) = _
      omega
  have hp : 0 < zsum (fun y => 1 - zbfi c b p y s) 0 27 := zsum_pos (fun i _ => by have := f01 (0 + i); show 0 ≤ 1 - zbfi c b p (0 + i) s; omega) hs.1 (by omega) (by show 1 - zbfi c b p s s ≠ 0; omega)
  have := add 27
  unfold zrk
  omega
theorem zgf_rng {c : Int → Int} {X : zDoc} (h : zDok X) : 1 ≤ zgf c X ∧ zgf c X ≤ 1080 := by
  have aux : ∀ t : Nat, (t : Int) ≤ dLe X → (t : Int) ≤ zgfn c (dSy X) (dLe X) t ∧ zgfn c (dSy X) (dLe X) t ≤ 27 * t := by
    intro t
    induction t with
    | zero => intro _; exact ⟨Int.le_refl _, (show (0 : Int) ≤ 27 * ((0 : Nat) : Int) by decide)⟩
    | succ t ih =>
      intro ht
      have := ih (by omega)
      have := zrk_rng (c := c) (b := hAt (dSy X) (dLe X) ((t : Int) - 2)) (p := hAt (dSy X) (dLe X) ((t : Int) - 1)) (hAt_sy h (i := t) (by omega))
      show _ ≤ zgfn c (dSy X) (dLe X) t + zrp c (dSy X) (dLe X) t ∧ zgfn c (dSy X) (dLe X) t + zrp c (dSy X) (dLe X) t ≤ _
      unfold zrp
      omega
  have := aux (dLe X).toNat (by have := h.1; omega)
  have := h.1
  unfold zgf
  omega
set_option maxHeartbeats 4000000 in
set_option maxRecDepth 100000 in
theorem k_X9_hits {l : Launch} {γ : zG} {M : zM} {A : Nat → Nat} {F : Nat → Int} {g : Nat → Int} {r d : Int} {c0 : Int → Int} {G : List Int} {X : zDoc} (hA : mIA A) (hO : mSc γ M A F) (hM : M (A 1) = some (zar γ 5987 g)) (hR : mRD g r d c0 G X) :
    zCon l γ yX9_hits cX9_hits 5 (some .int) [.ref (A 0), .int (zi r), .int (zi d)] M 5 124 0 0 (fun v' M' => v' = some (.int (zi (zhf c0 X))) ∧ mF A M M' [0, 7, 8, 9] ∧ ∃ F', mKp [10, 13] F F' ∧ mSc γ M' A F') (fun _ _ => False) := by
  obtain ⟨hg, hr, hd, hL, hG, hc, hX, hD⟩ := id hR
  have hl := hX.1
  refine zEnter [some (.ref (A 0)), some (.int (zi r)), some (.int (zi d)), none, none] (by decide +kernel) rfl rfl (Nat.le_of_ble_eq_true rfl) ?_
  intro p e s m args below meth c Q C hin hQ
  have loop : ∀ (t : Nat) (M1 : zM) (F1 : Nat → Int) (i : Int), dLe X - i = t → 0 ≤ i ∧ i ≤ dLe X → mF A M M1 [0, 7, 8, 9] → mKp [10, 13] F F1 → mSc γ M1 A F1 → zAW p l e { frames := 5, cells := 0, slots := 0, locals := 124 } s m args below meth c γ 5 Q M1 0 0 5 [some (.ref (A 0)), some (.int (zi r)), some (.int (zi d)), some (.int (zi (zhfn c0 (dSy X) (dLe X) i.toNat))), some (.int (zi i))] [] := by
    intro t
    induction t with
    | zero =>
      intro M1 F1 i ht hi hf hp1 hs
      obtain rfl : i = dLe X := by omega
      have hM1 := hf.at hA (.of rfl) hM
      have hO1 := hs.1
      refine z_iload C dX9_hits_5 rfl ?_
      refine z_aload_n C dX9_hits_7 rfl ?_
      refine z_get C dX9_hits_8 fl_X9_7 (by first | assumption | ((repeat (first | assumption | exact va_up_self _ _ _ | refine (va_up_ne _ _ (by first | assumption | exact hA.ne (by decide) | exact hA.ne (by omega))).trans ?_)); done)) rfl ?_
      refine z_iload_n C dX9_hits_11 rfl ?_
      refine z_callS C dX9_hits_12 lk_X9_114 mw_X9_lengthOf mst_X9_lengthOf (k_X9_lengthOf hM1 hg hd) rfl (by first | decide | exact Nat.le_of_ble_eq_true rfl) ⟨by decide, by decide, by decide, by decide⟩ (fun _ _ h => False.elim h) (fun v M' hp => ?_)
      obtain ⟨rfl, rfl⟩ := hp
      rw [hD.1]
      refine z_icmp_geZ (tgt := 48) C dX9_hits_15 (by decide) (by omega) (by omega) (fun h15 => ?_) (fun h15 => ?_)
      · refine z_iload_n C dX9_hits_48 rfl ?_
        refine z_iret C hQ dX9_hits_49 rfl (by decide) (by decide) ?_
        exact ⟨rfl, hf, F1, hp1, hs⟩
      · exact absurd h15 (by omega)
    | succ t ih =>
      intro M1 F1 i ht hi hf hp1 hs
      have hM1 := hf.at hA (.of rfl) hM
      have hO1 := hs.1
      have qq := fun M2 F2 => ih M2 F2 (i + 1) (by omega) (by omega)
      rw [show (i + 1).toNat = i.toNat + 1 by omega, zhfn, show ((i.toNat : Nat) : Int) = i by omega] at qq
      have zr := zrk_rng (c := c0) (b := hAt (dSy X) (dLe X) (i - 2)) (p := hAt (dSy X) (dLe X) (i - 1)) (hAt_sy hX (i := i) (by omega))
      have zr2 : 1 ≤ zrp c0 (dSy X) (dLe X) i ∧ zrp c0 (dSy X) (dLe X) i ≤ 27 := zr
      refine z_iload C dX9_hits_5 rfl ?_
      refine z_aload_n C dX9_hits_7 rfl ?_
      refine z_get C dX9_hits_8 fl_X9_7 (by first | assumption | ((repeat (first | assumption | exact va_up_self _ _ _ | refine (va_up_ne _ _ (by first | assumption | exact hA.ne (by decide) | exact hA.ne (by omega))).trans ?_)); done)) rfl ?_
      refine z_iload_n C dX9_hits_11 rfl ?_
      refine z_callS C dX9_hits_12 lk_X9_114 mw_X9_lengthOf mst_X9_lengthOf (k_X9_lengthOf hM1 hg hd) rfl (by first | decide | exact Nat.le_of_ble_eq_true rfl) ⟨by decide, by decide, by decide, by decide⟩ (fun _ _ h => False.elim h) (fun v M' hp => ?_)
      obtain ⟨rfl, rfl⟩ := hp
      rw [hD.1]
      refine z_icmp_geZ (tgt := 48) C dX9_hits_15 (by decide) (by omega) (by omega) (fun h15 => ?_) (fun h15 => ?_)
      · exact absurd h15 (by omega)
      · refine z_iload_n C dX9_hits_18 rfl ?_
        refine z_aload_n C dX9_hits_19 rfl ?_
        refine z_aload_n C dX9_hits_20 rfl ?_
        refine z_get C dX9_hits_21 fl_X9_7 (by first | assumption | ((repeat (first | assumption | exact va_up_self _ _ _ | refine (va_up_ne _ _ (by first | assumption | exact hA.ne (by decide) | exact hA.ne (by omega))).trans ?_)); done)) rfl ?_
        refine z_iload_n C dX9_hits_24 rfl ?_
        refine z_iload_n C dX9_hits_25 rfl ?_
        refine z_iload C dX9_hits_26 rfl ?_
        refine z_callV C dX9_hits_28 lk_X9_148 mw_X9_rankIn mi_X9_rankIn ms_X9_rankIn rfl hs.1 (k_X9_rankIn hA hs (kq := 1) (.inl rfl) hM1 hR (i := i) (by omega)) rfl (by first | decide | exact Nat.le_of_ble_eq_true rfl) ⟨by decide, by decide, by decide, by decide⟩ (fun _ _ h => False.elim h) (fun v M' hp => ?_)
        obtain ⟨rfl, f28, F2, p28, s28⟩ := hp
        refine z_iconst C dX9_hits_31 ?_
        refine z_icmp_neZ (tgt := 39) C dX9_hits_32 (by decide) (by omega) (by omega) (fun h32 => ?_) (fun h32 => ?_)
        · refine z_iconst C dX9_hits_39 ?_
          refine z_iaddZ C dX9_hits_40 ?_
          refine z_istore_n C dX9_hits_41 (by decide) ?_
          refine z_iincZ C dX9_hits_42 rfl (by decide) ?_
          refine z_goto (tgt := 5) C dX9_hits_45 (by decide) ?_
          rw [if_neg (by omega)] at qq
          exact qq _ F2 (hf.tr f28 ⟨rfl, rfl⟩) (hp1.tr p28 ⟨rfl, rfl⟩) s28
        · refine z_iconst C dX9_hits_35 ?_
          refine z_goto (tgt := 40) C dX9_hits_36 (by decide) ?_
          refine z_iaddZ C dX9_hits_40 ?_
          refine z_istore_n C dX9_hits_41 (by decide) ?_
          refine z_iincZ C dX9_hits_42 rfl (by decide) ?_
          refine z_goto (tgt := 5) C dX9_hits_45 (by decide) ?_
          rw [if_pos (by omega)] at qq
          exact qq _ F2 (hf.tr f28 ⟨rfl, rfl⟩) (hp1.tr p28 ⟨rfl, rfl⟩) s28
  refine z_iconst C dX9_hits_0 ?_
  refine z_istore_n C dX9_hits_1 (by decide) ?_
  refine z_iconst C dX9_hits_2 ?_
  refine z_istore C dX9_hits_3 (by decide) ?_
  exact loop (dLe X).toNat M F 0 (by omega) (by omega) mF.rf mKp.rf hO
theorem mB_2 {S : zSt} {r d v : Int} {P : Prop} (z : (zqR S r (zqD S d (0, 0))).1 ≠ 0) : (zqR S r (zqD S d (zq2 P (0, v)))).1 = (zqR S r (zqD S d (0, 0))).1 := by
  by_cases w : 0 ≤ r ∧ r < sRn S
  · rw [mqR_t w] at z
    rw [mqR_t w, mqR_t w]
    by_cases w2 : 0 ≤ d ∧ d < sDn S
    · exact absurd (by rw [mqD_t w2]) z
    · rw [mqD_f w2, mqD_f w2]
  · rw [mqR_f w, mqR_f w]
theorem mOk1 {γ : zG} {A : Nat → Nat} {M M1 M' : zM} {F1 F' : Nat → Int} {Y : zSys} {q : Int × Int} {v : Int} (hA : mIA A) (hF : hMf γ M1 A F1 Y) (c : mF A M M1 [0]) (e : F1 8 = 0) (f : mF A M1 M' [0, 7, 8, 9]) (kp : mKp [10, 13] F1 F') (sc : mSc γ M' A F') (hq : q = (0, v)) : mAll A M M' ∧ hMo γ M' A Y q.1 := ⟨(c.tr (K := [0, 7, 8, 9]) f ⟨rfl, rfl⟩).mo rfl, hA, F', by rw [hq]; exact (kp 8 (by decide)).trans e, hF.q1 hA f rfl kp rfl sc⟩
theorem zhf_rng {c : Int → Int} {X : zDoc} (h : zDok X) : 0 ≤ zhf c X ∧ zhf c X ≤ dLe X := by
  have aux : ∀ t : Nat, 0 ≤ zhfn c (dSy X) (dLe X) t ∧ zhfn c (dSy X) (dLe X) t ≤ t := by
    intro t
    induction t with
    | zero => exact ⟨Int.le_refl _, Int.le_refl _⟩
    | succ t ih =>
      show 0 ≤ zhfn c (dSy X) (dLe X) t + (if zrp c (dSy X) (dLe X) t = 1 then 1 else 0) ∧ zhfn c (dSy X) (dLe X) t + (if zrp c (dSy X) (dLe X) t = 1 then 1 else 0) ≤ _
      split <;> omega
  have := aux (dLe X).toNat
  have := h.1
  unfold zhf
  omega
set_option maxHeartbeats 4000000 in
set_option maxRecDepth 100000 in
theorem m_rankAt {l : Launch} {γ : zG} {M : zM} {A : Nat → Nat} {Y : zSys} {t0 : Int} {rr dd ii : Int} (hMo0 : hMo γ M A Y t0) (hY : zOk (yS Y)) (r_rr : zR rr) (r_dd : zR dd) (r_ii : zR ii) :
    zCon l γ yX9_rankAt cX9_rankAt 4 (some .int) [.ref (A 0), .int (zi rr), .int (zi dd), .int (zi ii)] M 10 330 0 0 (mAns γ A M Y (q_rankAt (yS Y) rr dd ii)) (fun _ _ => False) := by
  obtain ⟨hA, F, h8, hF⟩ := hMo0
  obtain ⟨hsc, hec, hun, hsl, hinp, hou, ⟨g, hM, hS⟩, hrs⟩ := id hF
  have hO := hsc.1
  have hg := hS.1
  have o1 := hY.1
  have z_rr := r_rr
  unfold zR at z_rr
  have z_dd := r_dd
  unfold zR at z_dd
  have z_ii := r_ii
  unfold zR at z_ii
  refine zEnter [some (.ref (A 0)), some (.int (zi rr)), some (.int (zi dd)), some (.int (zi ii))] (by decide +kernel) rfl rfl (Nat.le_of_ble_eq_true rfl) ?_
  intro p e s m args below meth c Q C hin hQ
  refine z_aload_n C dX9_rankAt_0 rfl ?_
  refine z_iload_n C dX9_rankAt_1 rfl ?_
  refine z_iload_n C dX9_rankAt_2 rfl ?_
  refine z_callV C dX9_rankAt_3 lk_X9_328 mw_X9_noBoth mi_X9_noBoth ms_X9_noBoth rfl (by first | assumption | ((repeat (first | assumption | exact va_up_self _ _ _ | refine (va_up_ne _ _ (by first | assumption | exact hA.ne (by decide) | exact hA.ne (by omega))).trans ?_)); done)) (k_X9_noBoth hA hO hM hS hY r_rr r_dd) rfl (by first | decide | exact Nat.le_of_ble_eq_true rfl) ⟨by decide, by decide, by decide, by decide⟩ (fun _ _ h => False.elim h) (fun v M' hp => ?_)
  obtain ⟨r1, F1, rfl, f1, ob1, p1, e1, z1⟩ := hp
  have s1 := z1.rng
  have cf1 := f1
  have cp1 := p1
  have hM1 := cf1.at hA (.of rfl) hM
  refine z_if_neZ (tgt := 28) C dX9_rankAt_6 (by decide) (by omega) (fun h6 => ?_) (fun h6 => ?_)
  · refine z_iconst C dX9_rankAt_28 ?_
    refine z_goto (tgt := 43) C dX9_rankAt_29 (by decide) ?_
    refine z_iret C hQ dX9_rankAt_43 rfl (by decide) (by decide) ?_
    exact mAns.no hA hF cf1 ob1 cp1 e1 (z1.t h6) (mB_2 (z1.t h6))
  · have t1 := Decidable.not_not.mp (z1.f h6)
    rw [t1] at e1
    obtain ⟨c1, c0⟩ := mqR_0 t1
    obtain ⟨c2, -⟩ := mqD_0 c0
    have hR := hS.rd hY c1 c2
    have hSr := hS.r c1
    have hSd := hS.d c2
    have hX := hY.2.1 dd.toNat (by omega)
    have hXl := hX.1
    refine z_aload_n C dX9_rankAt_9 rfl ?_
    refine z_iload_n C dX9_rankAt_10 rfl ?_
    refine z_iconst C dX9_rankAt_11 ?_
    refine z_aload_n C dX9_rankAt_12 rfl ?_
    refine z_get C dX9_rankAt_13 fl_X9_7 (by first | assumption | ((repeat (first | assumption | exact va_up_self _ _ _ | refine (va_up_ne _ _ (by first | assumption | exact hA.ne (by decide) | exact hA.ne (by omega))).trans ?_)); done)) rfl ?_
    refine z_iload_n C dX9_rankAt_16 rfl ?_
    refine z_callS C dX9_rankAt_17 lk_X9_114 mw_X9_lengthOf mst_X9_lengthOf (k_X9_lengthOf hM1 hg (by omega)) rfl (by first | decide | exact Nat.le_of_ble_eq_true rfl) ⟨by decide, by decide, by decide, by decide⟩ (fun _ _ h => False.elim h) (fun v M' hp => ?_)
    obtain ⟨rfl, rfl⟩ := hp
    rw [hSd.1.1]
    refine z_iconst C dX9_rankAt_20 ?_
    refine z_isubZ C dX9_rankAt_21 ?_
    refine z_callV C dX9_rankAt_22 lk_X9_301 mw_X9_out mi_X9_out ms_X9_out rfl (by first | assumption | ((repeat (first | assumption | exact va_up_self _ _ _ | refine (va_up_ne _ _ (by first | assumption | exact hA.ne (by decide) | exact hA.ne (by omega))).trans ?_)); done)) (k_X9_out hA ob1 e1 (x := ii) (a := 0) (b := dLe (sDc (yS Y) dd.toNat) - 1) r_ii (by unfold zR; omega) (by unfold zR; omega)) rfl (by first | decide | exact Nat.le_of_ble_eq_true rfl) ⟨by decide, by decide, by decide, by decide⟩ (fun _ _ h => False.elim h) (fun v M' hp => ?_)
    obtain ⟨r2, F2, rfl, f2, ob2, p2, e2, z2⟩ := hp
    have s2 := z2.rng
    have cf2 := cf1.tr (K := [0]) f2 ⟨rfl, rfl⟩
    have cp2 := cp1.tr (K := [8]) p2 ⟨rfl, rfl⟩
    have hM2 := cf2.at hA (.of rfl) hM
    refine z_if_eqZ (tgt := 32) C dX9_rankAt_25 (by decide) (by omega) (fun h25 => ?_) (fun h25 => ?_)
    · have t2 := Decidable.not_not.mp (z2.f h25)
      rw [t2] at e2
      have t3 := mOut t2
      have hF1 := hF.q0 hA cf2 ob2 cp2 rfl
      have hs1 := hF1.1
      refine z_aload_n C dX9_rankAt_32 rfl ?_
      refine z_aload_n C dX9_rankAt_33 rfl ?_
      refine z_get C dX9_rankAt_34 fl_X9_7 (by first | assumption | ((repeat (first | assumption | exact va_up_self _ _ _ | refine (va_up_ne _ _ (by first | assumption | exact hA.ne (by decide) | exact hA.ne (by omega))).trans ?_)); done)) rfl ?_
      refine z_iload_n C dX9_rankAt_37 rfl ?_
      refine z_iload_n C dX9_rankAt_38 rfl ?_
      refine z_iload_n C dX9_rankAt_39 rfl ?_
      refine z_callV C dX9_rankAt_40 lk_X9_148 mw_X9_rankIn mi_X9_rankIn ms_X9_rankIn rfl hs1.1 (k_X9_rankIn hA hs1 (kq := 1) (.inl rfl) hM2 hR (i := ii) (by omega)) rfl (by first | decide | exact Nat.le_of_ble_eq_true rfl) ⟨by decide, by decide, by decide, by decide⟩ (fun _ _ h => False.elim h) (fun v M' hp => ?_)
      obtain ⟨rfl, fa, Fa, pa, sa⟩ := hp
      refine z_iret C hQ dX9_rankAt_43 rfl (by decide) (by decide) ?_
      exact mAns.q hA hF1 cf2 e2 fa rfl pa sa (by rw [q_rankAt, mqR_t c1, mqD_t c2, mq2_t (by omega)]) rfl
    · refine z_iconst C dX9_rankAt_28 ?_
      refine z_goto (tgt := 43) C dX9_rankAt_29 (by decide) ?_
      refine z_iret C hQ dX9_rankAt_43 rfl (by decide) (by decide) ?_
      exact mAns.no hA hF cf2 ob2 cp2 e2 (z2.t h25) (by rw [q_rankAt, mqR_t c1, mqD_t c2]; exact mOut_q (by omega))
set_option maxHeartbeats 4000000 in
set_option maxRecDepth 100000 in
theorem m_totalGuesses {l : Launch} {γ : zG} {M : zM} {A : Nat → Nat} {Y : zSys} {t0 : Int} {rr dd : Int} (hMo0 : hMo γ M A Y t0) (hY : zOk (yS Y)) (r_rr : zR rr) (r_dd : zR dd) :
    zCon l γ yX9_totalGuesses cX9_totalGuesses 3 (some .int) [.ref (A 0), .int (zi rr), .int (zi dd)] M 10 330 0 0 (mAns γ A M Y (q_totalGuesses (yS Y) rr dd)) (fun _ _ => False) := by
  obtain ⟨hA, F, h8, hF⟩ := hMo0
  obtain ⟨hsc, hec, hun, hsl, hinp, hou, ⟨g, hM, hS⟩, hrs⟩ := id hF
  have hO := hsc.1
  have hg := hS.1
  have o1 := hY.1
  have z_rr := r_rr
  unfold zR at z_rr
  have z_dd := r_dd
  unfold zR at z_dd
  refine zEnter [some (.ref (A 0)), some (.int (zi rr)), some (.int (zi dd))] (by decide +kernel) rfl rfl (Nat.le_of_ble_eq_true rfl) ?_
  intro p e s m args below meth c Q C hin hQ
  refine z_aload_n C dX9_totalGuesses_0 rfl ?_
  refine z_iload_n C dX9_totalGuesses_1 rfl ?_
  refine z_iload_n C dX9_totalGuesses_2 rfl ?_
  refine z_callV C dX9_totalGuesses_3 lk_X9_328 mw_X9_noBoth mi_X9_noBoth ms_X9_noBoth rfl (by first | assumption | ((repeat (first | assumption | exact va_up_self _ _ _ | refine (va_up_ne _ _ (by first | assumption | exact hA.ne (by decide) | exact hA.ne (by omega))).trans ?_)); done)) (k_X9_noBoth hA hO hM hS hY r_rr r_dd) rfl (by first | decide | exact Nat.le_of_ble_eq_true rfl) ⟨by decide, by decide, by decide, by decide⟩ (fun _ _ h => False.elim h) (fun v M' hp => ?_)
  obtain ⟨r1, F1, rfl, f1, ob1, p1, e1, z1⟩ := hp
  have s1 := z1.rng
  have cf1 := f1
  have cp1 := p1
  have hM1 := cf1.at hA (.of rfl) hM
  refine z_if_eqZ (tgt := 13) C dX9_totalGuesses_6 (by decide) (by omega) (fun h6 => ?_) (fun h6 => ?_)
  · have t1 := Decidable.not_not.mp (z1.f h6)
    rw [t1] at e1
    obtain ⟨c1, c0⟩ := mqR_0 t1
    obtain ⟨c2, -⟩ := mqD_0 c0
    have hF1 := hF.q0 hA cf1 ob1 cp1 rfl
    have hs1 := hF1.1
    have hR := hS.rd hY c1 c2
    have hSr := hS.r c1
    have hSd := hS.d c2
    have hX := hY.2.1 dd.toNat (by omega)
    have hXl := hX.1
    refine z_aload_n C dX9_totalGuesses_13 rfl ?_
    refine z_aload_n C dX9_totalGuesses_14 rfl ?_
    refine z_get C dX9_totalGuesses_15 fl_X9_7 (by first | assumption | ((repeat (first | assumption | exact va_up_self _ _ _ | refine (va_up_ne _ _ (by first | assumption | exact hA.ne (by decide) | exact hA.ne (by omega))).trans ?_)); done)) rfl ?_
    refine z_iload_n C dX9_totalGuesses_18 rfl ?_
    refine z_iload_n C dX9_totalGuesses_19 rfl ?_
    refine z_callV C dX9_totalGuesses_20 lk_X9_345 mw_X9_guesses mi_X9_guesses ms_X9_guesses rfl hs1.1 (k_X9_guesses hA hs1 (kq := 1) (.inl rfl) hM1 hR) rfl (by first | decide | exact Nat.le_of_ble_eq_true rfl) ⟨by decide, by decide, by decide, by decide⟩ (fun _ _ h => False.elim h) (fun v M' hp => ?_)
    obtain ⟨rfl, fa, Fa, pa, sa⟩ := hp
    refine z_iret C hQ dX9_totalGuesses_23 rfl (by decide) (by decide) ?_
    exact mAns.q hA hF1 cf1 e1 fa rfl pa sa (by rw [q_totalGuesses, mqR_t c1, mqD_t c2]) rfl
  · refine z_iconst C dX9_totalGuesses_9 ?_
    refine z_goto (tgt := 23) C dX9_totalGuesses_10 (by decide) ?_
    refine z_iret C hQ dX9_totalGuesses_23 rfl (by decide) (by decide) ?_
    exact mAns.no hA hF cf1 ob1 cp1 e1 (z1.t h6) (mqR_1 (mqD_1 rfl))
set_option maxHeartbeats 4000000 in
set_option maxRecDepth 100000 in
theorem m_firstGuessHits {l : Launch} {γ : zG} {M : zM} {A : Nat → Nat} {Y : zSys} {t0 : Int} {rr dd : Int} (hMo0 : hMo γ M A Y t0) (hY : zOk (yS Y)) (r_rr : zR rr) (r_dd : zR dd) :
    zCon l γ yX9_firstGuessHits cX9_firstGuessHits 3 (some .int) [.ref (A 0), .int (zi rr), .int (zi dd)] M 10 330 0 0 (mAns γ A M Y (q_firstGuessHits (yS Y) rr dd)) (fun _ _ => False) := by
  obtain ⟨hA, F, h8, hF⟩ := hMo0
  obtain ⟨hsc, hec, hun, hsl, hinp, hou, ⟨g, hM, hS⟩, hrs⟩ := id hF
  have hO := hsc.1
  have hg := hS.1
  have o1 := hY.1
  have z_rr := r_rr
  unfold zR at z_rr
  have z_dd := r_dd
  unfold zR at z_dd
  refine zEnter [some (.ref (A 0)), some (.int (zi rr)), some (.int (zi dd))] (by decide +kernel) rfl rfl (Nat.le_of_ble_eq_true rfl) ?_
  intro p e s m args below meth c Q C hin hQ
  refine z_aload_n C dX9_firstGuessHits_0 rfl ?_
  refine z_iload_n C dX9_firstGuessHits_1 rfl ?_
  refine z_iload_n C dX9_firstGuessHits_2 rfl ?_
  refine z_callV C dX9_firstGuessHits_3 lk_X9_328 mw_X9_noBoth mi_X9_noBoth ms_X9_noBoth rfl (by first | assumption | ((repeat (first | assumption | exact va_up_self _ _ _ | refine (va_up_ne _ _ (by first | assumption | exact hA.ne (by decide) | exact hA.ne (by omega))).trans ?_)); done)) (k_X9_noBoth hA hO hM hS hY r_rr r_dd) rfl (by first | decide | exact Nat.le_of_ble_eq_true rfl) ⟨by decide, by decide, by decide, by decide⟩ (fun _ _ h => False.elim h) (fun v M' hp => ?_)
  obtain ⟨r1, F1, rfl, f1, ob1, p1, e1, z1⟩ := hp
  have s1 := z1.rng
  have cf1 := f1
  have cp1 := p1
  have hM1 := cf1.at hA (.of rfl) hM
  refine z_if_eqZ (tgt := 13) C dX9_firstGuessHits_6 (by decide) (by omega) (fun h6 => ?_) (fun h6 => ?_)
  · have t1 := Decidable.not_not.mp (z1.f h6)
    rw [t1] at e1
    obtain ⟨c1, c0⟩ := mqR_0 t1
    obtain ⟨c2, -⟩ := mqD_0 c0
    have hF1 := hF.q0 hA cf1 ob1 cp1 rfl
    have hs1 := hF1.1
    have hR := hS.rd hY c1 c2
    have hSr := hS.r c1
    have hSd := hS.d c2
    have hX := hY.2.1 dd.toNat (by omega)
    have hXl := hX.1
    refine z_aload_n C dX9_firstGuessHits_13 rfl ?_
    refine z_iload_n C dX9_firstGuessHits_14 rfl ?_
    refine z_iload_n C dX9_firstGuessHits_15 rfl ?_
    refine z_callV C dX9_firstGuessHits_16 lk_X9_354 mw_X9_hits mi_X9_hits ms_X9_hits rfl hs1.1 (k_X9_hits hA hs1 hM1 hR) rfl (by first | decide | exact Nat.le_of_ble_eq_true rfl) ⟨by decide, by decide, by decide, by decide⟩ (fun _ _ h => False.elim h) (fun v M' hp => ?_)
    obtain ⟨rfl, fa, Fa, pa, sa⟩ := hp
    refine z_iret C hQ dX9_firstGuessHits_19 rfl (by decide) (by decide) ?_
    exact mAns.q hA hF1 cf1 e1 fa rfl pa sa (by rw [q_firstGuessHits, mqR_t c1, mqD_t c2]) rfl
  · refine z_iconst C dX9_firstGuessHits_9 ?_
    refine z_goto (tgt := 19) C dX9_firstGuessHits_10 (by decide) ?_
    refine z_iret C hQ dX9_firstGuessHits_19 rfl (by decide) (by decide) ?_
    exact mAns.no hA hF cf1 ob1 cp1 e1 (z1.t h6) (mqR_1 (mqD_1 rfl))
set_option maxHeartbeats 4000000 in
set_option maxRecDepth 100000 in
theorem m_meanGuesses {l : Launch} {γ : zG} {M : zM} {A : Nat → Nat} {Y : zSys} {t0 : Int} {rr dd : Int} (hMo0 : hMo γ M A Y t0) (hY : zOk (yS Y)) (r_rr : zR rr) (r_dd : zR dd) :
    zCon l γ yX9_meanGuesses cX9_meanGuesses 3 (some .double) [.ref (A 0), .int (zi rr), .int (zi dd)] M 10 330 0 0 (mAnsD γ A M Y (q_meanGuesses (yS Y) rr dd) (x_meanGuesses (yS Y) rr dd)) (fun _ _ => False) := by
  obtain ⟨hA, F, h8, hF⟩ := hMo0
  obtain ⟨hsc, hec, hun, hsl, hinp, hou, ⟨g, hM, hS⟩, hrs⟩ := id hF
  have hO := hsc.1
  have hg := hS.1
  have o1 := hY.1
  have z_rr := r_rr
  unfold zR at z_rr
  have z_dd := r_dd
  unfold zR at z_dd
  refine zEnter [some (.ref (A 0)), some (.int (zi rr)), some (.int (zi dd))] (by decide +kernel) rfl rfl (Nat.le_of_ble_eq_true rfl) ?_
  intro p e s m args below meth c Q C hin hQ
  refine z_aload_n C dX9_meanGuesses_0 rfl ?_
  refine z_iload_n C dX9_meanGuesses_1 rfl ?_
  refine z_iload_n C dX9_meanGuesses_2 rfl ?_
  refine z_callV C dX9_meanGuesses_3 lk_X9_328 mw_X9_noBoth mi_X9_noBoth ms_X9_noBoth rfl (by first | assumption | ((repeat (first | assumption | exact va_up_self _ _ _ | refine (va_up_ne _ _ (by first | assumption | exact hA.ne (by decide) | exact hA.ne (by omega))).trans ?_)); done)) (k_X9_noBoth hA hO hM hS hY r_rr r_dd) rfl (by first | decide | exact Nat.le_of_ble_eq_true rfl) ⟨by decide, by decide, by decide, by decide⟩ (fun _ _ h => False.elim h) (fun v M' hp => ?_)
  obtain ⟨r1, F1, rfl, f1, ob1, p1, e1, z1⟩ := hp
  have s1 := z1.rng
  have cf1 := f1
  have cp1 := p1
  have hM1 := cf1.at hA (.of rfl) hM
  refine z_if_eqZ (tgt := 13) C dX9_meanGuesses_6 (by decide) (by omega) (fun h6 => ?_) (fun h6 => ?_)
  · have t1 := Decidable.not_not.mp (z1.f h6)
    rw [t1] at e1
    obtain ⟨c1, c0⟩ := mqR_0 t1
    obtain ⟨c2, -⟩ := mqD_0 c0
    have hF1 := hF.q0 hA cf1 ob1 cp1 rfl
    have hs1 := hF1.1
    have hR := hS.rd hY c1 c2
    have hSr := hS.r c1
    have hSd := hS.d c2
    have hX := hY.2.1 dd.toNat (by omega)
    have hXl := hX.1
    have gr := zgf_rng (c := rC (sRd (yS Y) rr.toNat)) hX
    refine z_aload_n C dX9_meanGuesses_13 rfl ?_
    refine z_aload_n C dX9_meanGuesses_14 rfl ?_
    refine z_get C dX9_meanGuesses_15 fl_X9_7 (by first | assumption | ((repeat (first | assumption | exact va_up_self _ _ _ | refine (va_up_ne _ _ (by first | assumption | exact hA.ne (by decide) | exact hA.ne (by omega))).trans ?_)); done)) rfl ?_
    refine z_iload_n C dX9_meanGuesses_18 rfl ?_
    refine z_iload_n C dX9_meanGuesses_19 rfl ?_
    refine z_callV C dX9_meanGuesses_20 lk_X9_345 mw_X9_guesses mi_X9_guesses ms_X9_guesses rfl hs1.1 (k_X9_guesses hA hs1 (kq := 1) (.inl rfl) hM1 hR) rfl (by first | decide | exact Nat.le_of_ble_eq_true rfl) ⟨by decide, by decide, by decide, by decide⟩ (fun _ _ h => False.elim h) (fun v M' hp => ?_)
    obtain ⟨rfl, fa, Fa, pa, sa⟩ := hp
    have oa := sa.1
    have hMa := fa.at hA (.of rfl) hM1
    refine z_i2d C dX9_meanGuesses_23 ?_
    refine z_aload_n C dX9_meanGuesses_24 rfl ?_
    refine z_get C dX9_meanGuesses_25 fl_X9_7 (by first | assumption | ((repeat (first | assumption | exact va_up_self _ _ _ | refine (va_up_ne _ _ (by first | assumption | exact hA.ne (by decide) | exact hA.ne (by omega))).trans ?_)); done)) rfl ?_
    refine z_iload_n C dX9_meanGuesses_28 rfl ?_
    refine z_callS C dX9_meanGuesses_29 lk_X9_114 mw_X9_lengthOf mst_X9_lengthOf (k_X9_lengthOf hMa hg (by omega)) rfl (by first | decide | exact Nat.le_of_ble_eq_true rfl) ⟨by decide, by decide, by decide, by decide⟩ (fun _ _ h => False.elim h) (fun v M' hp => ?_)
    obtain ⟨rfl, rfl⟩ := hp
    rw [hSd.1.1]
    refine z_i2d C dX9_meanGuesses_32 ?_
    refine z_ddiv C dX9_meanGuesses_33 (zddiv_i (by omega) (by omega)) ?_
    refine z_dret C hQ dX9_meanGuesses_34 (by decide) (by decide) ?_
    obtain ⟨g1, g2⟩ := mOk1 hA hF1 cf1 e1 fa pa sa (show q_meanGuesses (yS Y) rr dd = (0, _) by rw [q_meanGuesses, mqR_t c1, mqD_t c2])
    exact ⟨_, rfl, g1, g2, fun _ => rfl⟩
  · refine z_dconst C dX9_meanGuesses_9 ?_
    refine z_goto (tgt := 34) C dX9_meanGuesses_10 (by decide) ?_
    refine z_dret C hQ dX9_meanGuesses_34 (by decide) (by decide) ?_
    obtain ⟨g1, g2, g3⟩ := mNo0 (q := q_meanGuesses (yS Y) rr dd) hA hF cf1 ob1 cp1 e1 (z1.t h6) (mqR_1 (mqD_1 rfl))
    exact ⟨_, rfl, g1, g2, fun w => absurd w g3⟩
set_option maxHeartbeats 4000000 in
set_option maxRecDepth 100000 in
theorem m_hitShare {l : Launch} {γ : zG} {M : zM} {A : Nat → Nat} {Y : zSys} {t0 : Int} {rr dd : Int} (hMo0 : hMo γ M A Y t0) (hY : zOk (yS Y)) (r_rr : zR rr) (r_dd : zR dd) :
    zCon l γ yX9_hitShare cX9_hitShare 3 (some .float) [.ref (A 0), .int (zi rr), .int (zi dd)] M 10 330 0 0 (mAnsF γ A M Y (q_hitShare (yS Y) rr dd) (x_hitShare (yS Y) rr dd)) (fun _ _ => False) := by
  obtain ⟨hA, F, h8, hF⟩ := hMo0
  obtain ⟨hsc, hec, hun, hsl, hinp, hou, ⟨g, hM, hS⟩, hrs⟩ := id hF
  have hO := hsc.1
  have hg := hS.1
  have o1 := hY.1
  have z_rr := r_rr
  unfold zR at z_rr
  have z_dd := r_dd
  unfold zR at z_dd
  refine zEnter [some (.ref (A 0)), some (.int (zi rr)), some (.int (zi dd))] (by decide +kernel) rfl rfl (Nat.le_of_ble_eq_true rfl) ?_
  intro p e s m args below meth c Q C hin hQ
  refine z_aload_n C dX9_hitShare_0 rfl ?_
  refine z_iload_n C dX9_hitShare_1 rfl ?_
  refine z_iload_n C dX9_hitShare_2 rfl ?_
  refine z_callV C dX9_hitShare_3 lk_X9_328 mw_X9_noBoth mi_X9_noBoth ms_X9_noBoth rfl (by first | assumption | ((repeat (first | assumption | exact va_up_self _ _ _ | refine (va_up_ne _ _ (by first | assumption | exact hA.ne (by decide) | exact hA.ne (by omega))).trans ?_)); done)) (k_X9_noBoth hA hO hM hS hY r_rr r_dd) rfl (by first | decide | exact Nat.le_of_ble_eq_true rfl) ⟨by decide, by decide, by decide, by decide⟩ (fun _ _ h => False.elim h) (fun v M' hp => ?_)
  obtain ⟨r1, F1, rfl, f1, ob1, p1, e1, z1⟩ := hp
  have s1 := z1.rng
  have cf1 := f1
  have cp1 := p1
  have hM1 := cf1.at hA (.of rfl) hM
  refine z_if_eqZ (tgt := 13) C dX9_hitShare_6 (by decide) (by omega) (fun h6 => ?_) (fun h6 => ?_)
  · have t1 := Decidable.not_not.mp (z1.f h6)
    rw [t1] at e1
    obtain ⟨c1, c0⟩ := mqR_0 t1
    obtain ⟨c2, -⟩ := mqD_0 c0
    have hF1 := hF.q0 hA cf1 ob1 cp1 rfl
    have hs1 := hF1.1
    have hR := hS.rd hY c1 c2
    have hSr := hS.r c1
    have hSd := hS.d c2
    have hX := hY.2.1 dd.toNat (by omega)
    have hXl := hX.1
    have gr := zhf_rng (c := rC (sRd (yS Y) rr.toNat)) hX
    refine z_aload_n C dX9_hitShare_13 rfl ?_
    refine z_iload_n C dX9_hitShare_14 rfl ?_
    refine z_iload_n C dX9_hitShare_15 rfl ?_
    refine z_callV C dX9_hitShare_16 lk_X9_354 mw_X9_hits mi_X9_hits ms_X9_hits rfl hs1.1 (k_X9_hits hA hs1 hM1 hR) rfl (by first | decide | exact Nat.le_of_ble_eq_true rfl) ⟨by decide, by decide, by decide, by decide⟩ (fun _ _ h => False.elim h) (fun v M' hp => ?_)
    obtain ⟨rfl, fa, Fa, pa, sa⟩ := hp
    have oa := sa.1
    have hMa := fa.at hA (.of rfl) hM1
    refine z_i2f C dX9_hitShare_19 ?_
    refine z_aload_n C dX9_hitShare_20 rfl ?_
    refine z_get C dX9_hitShare_21 fl_X9_7 (by first | assumption | ((repeat (first | assumption | exact va_up_self _ _ _ | refine (va_up_ne _ _ (by first | assumption | exact hA.ne (by decide) | exact hA.ne (by omega))).trans ?_)); done)) rfl ?_
    refine z_iload_n C dX9_hitShare_24 rfl ?_
    refine z_callS C dX9_hitShare_25 lk_X9_114 mw_X9_lengthOf mst_X9_lengthOf (k_X9_lengthOf hMa hg (by omega)) rfl (by first | decide | exact Nat.le_of_ble_eq_true rfl) ⟨by decide, by decide, by decide, by decide⟩ (fun _ _ h => False.elim h) (fun v M' hp => ?_)
    obtain ⟨rfl, rfl⟩ := hp
    rw [hSd.1.1]
    refine z_i2f C dX9_hitShare_28 ?_
    refine z_fdiv C dX9_hitShare_29 (zfdiv_i (by omega) (by omega)) ?_
    refine z_fret C hQ dX9_hitShare_30 (by decide) (by decide) ?_
    obtain ⟨g1, g2⟩ := mOk1 hA hF1 cf1 e1 fa pa sa (show q_hitShare (yS Y) rr dd = (0, _) by rw [q_hitShare, mqR_t c1, mqD_t c2])
    exact ⟨_, rfl, g1, g2, fun _ => rfl⟩
  · refine z_fconst C dX9_hitShare_9 ?_
    refine z_goto (tgt := 30) C dX9_hitShare_10 (by decide) ?_
    refine z_fret C hQ dX9_hitShare_30 (by decide) (by decide) ?_
    obtain ⟨g1, g2, g3⟩ := mNo0 (q := q_hitShare (yS Y) rr dd) hA hF cf1 ob1 cp1 e1 (z1.t h6) (mqR_1 (mqD_1 rfl))
    exact ⟨_, rfl, g1, g2, fun w => absurd w g3⟩
set_option maxHeartbeats 4000000 in
set_option maxRecDepth 100000 in
theorem m_trainingGap {l : Launch} {γ : zG} {M : zM} {A : Nat → Nat} {Y : zSys} {t0 : Int} {rr : Int} (hMo0 : hMo γ M A Y t0) (hY : zOk (yS Y)) (r_rr : zR rr) :
    zCon l γ yX9_trainingGap cX9_trainingGap 4 (some .int) [.ref (A 0), .int (zi rr)] M 10 330 0 0 (mAns γ A M Y (q_trainingGap (yS Y) rr)) (fun _ _ => False) := by
  obtain ⟨hA, F, h8, hF⟩ := hMo0
  obtain ⟨hsc, hec, hun, hsl, hinp, hou, ⟨g, hM, hS⟩, hrs⟩ := id hF
  have hO := hsc.1
  have hg := hS.1
  have o1 := hY.1
  have z_rr := r_rr
  unfold zR at z_rr
  refine zEnter [some (.ref (A 0)), some (.int (zi rr)), none, none] (by decide +kernel) rfl rfl (Nat.le_of_ble_eq_true rfl) ?_
  intro p e s m args below meth c Q C hin hQ
  have loop : ∀ (c1 : 0 ≤ rr ∧ rr < sRn (yS Y)) (t : Nat) (M1 : zM) (F1 : Nat → Int) (i : Int) (x : Int), sDn (yS Y) - i = t → 0 ≤ i ∧ i ≤ sDn (yS Y) → M1 (A 0) = some (mOb A F1) → M1 (A 1) = some (zar γ 5987 g) → zi x = zi (ztgn (yS Y) (sRd (yS Y) rr.toNat) i.toNat) → (∀ b : Int, zi b = zi (ztgn (yS Y) (sRd (yS Y) rr.toNat) (sDn (yS Y)).toNat) → mAns γ A M Y (q_trainingGap (yS Y) rr) (some (.int (zi b))) M1) → zAW p l e { frames := 10, cells := 0, slots := 0, locals := 330 } s m args below meth c γ 4 Q M1 0 0 24 [some (.ref (A 0)), some (.int (zi rr)), some (.int (zi x)), some (.int (zi i))] [] := by
    intro c1 t
    induction t with
    | zero =>
      intro M1 F1 i x ht hi hO1 hM1 hx hfin
      obtain rfl : i = sDn (yS Y) := by omega
      refine z_iload_n C dX9_trainingGap_24 rfl ?_
      refine z_aload_n C dX9_trainingGap_25 rfl ?_
      refine z_get C dX9_trainingGap_26 fl_X9_7 (by first | assumption | ((repeat (first | assumption | exact va_up_self _ _ _ | refine (va_up_ne _ _ (by first | assumption | exact hA.ne (by decide) | exact hA.ne (by omega))).trans ?_)); done)) rfl ?_
      refine z_iconst C dX9_trainingGap_29 ?_
      refine z_aldN C dX9_trainingGap_30 (by first | assumption | ((repeat (first | assumption | exact va_up_self _ _ _ | refine (va_up_ne _ _ (by first | assumption | exact hA.ne (by decide) | exact hA.ne (by omega))).trans ?_)); done)) (by omega) (by omega) (by assumption) (fun hr30 => ?_)
      rw [show g (1 : Int).toNat = sDn (yS Y) from hS.2.2.1]
      refine z_icmp_geZ (tgt := 65) C dX9_trainingGap_31 (by decide) (by omega) (by omega) (fun h31 => ?_) (fun h31 => ?_)
      · refine z_iload_n C dX9_trainingGap_65 rfl ?_
        refine z_iret C hQ dX9_trainingGap_66 rfl (by decide) (by decide) ?_
        exact hfin x hx
      · exact absurd h31 (by omega)
    | succ t ih =>
      intro M1 F1 i x ht hi hO1 hM1 hx hfin
      have hSr := hS.r c1
      have hSd := hS.d (d := i) (by omega)
      have hX := (hY.2.1 i.toNat (by omega)).1
      refine z_iload_n C dX9_trainingGap_24 rfl ?_
      refine z_aload_n C dX9_trainingGap_25 rfl ?_
      refine z_get C dX9_trainingGap_26 fl_X9_7 (by first | assumption | ((repeat (first | assumption | exact va_up_self _ _ _ | refine (va_up_ne _ _ (by first | assumption | exact hA.ne (by decide) | exact hA.ne (by omega))).trans ?_)); done)) rfl ?_
      refine z_iconst C dX9_trainingGap_29 ?_
      refine z_aldN C dX9_trainingGap_30 (by first | assumption | ((repeat (first | assumption | exact va_up_self _ _ _ | refine (va_up_ne _ _ (by first | assumption | exact hA.ne (by decide) | exact hA.ne (by omega))).trans ?_)); done)) (by omega) (by omega) (by assumption) (fun hr30 => ?_)
      rw [show g (1 : Int).toNat = sDn (yS Y) from hS.2.2.1]
      refine z_icmp_geZ (tgt := 65) C dX9_trainingGap_31 (by decide) (by omega) (by omega) (fun h31 => ?_) (fun h31 => ?_)
      · exact absurd h31 (by omega)
      · refine z_iload_n C dX9_trainingGap_34 rfl ?_
        refine z_aload_n C dX9_trainingGap_35 rfl ?_
        refine z_get C dX9_trainingGap_36 fl_X9_7 (by first | assumption | ((repeat (first | assumption | exact va_up_self _ _ _ | refine (va_up_ne _ _ (by first | assumption | exact hA.ne (by decide) | exact hA.ne (by omega))).trans ?_)); done)) rfl ?_
        refine z_iload_n C dX9_trainingGap_39 rfl ?_
        refine z_callS C dX9_trainingGap_40 lk_X9_92 mw_X9_atReader mst_X9_atReader k_X9_atReader rfl (by first | decide | exact Nat.le_of_ble_eq_true rfl) ⟨by decide, by decide, by decide, by decide⟩ (fun _ _ h => False.elim h) (fun v M' hp => ?_)
        obtain ⟨rfl, rfl⟩ := hp
        refine z_iconst C dX9_trainingGap_43 ?_
        refine z_iaddZ C dX9_trainingGap_44 ?_
        refine z_iload_n C dX9_trainingGap_45 rfl ?_
        refine z_iaddZ C dX9_trainingGap_46 ?_
        refine z_aldN C dX9_trainingGap_47 (by first | assumption | ((repeat (first | assumption | exact va_up_self _ _ _ | refine (va_up_ne _ _ (by first | assumption | exact hA.ne (by decide) | exact hA.ne (by omega))).trans ?_)); done)) (by omega) (by omega) (by assumption) (fun hr47 => ?_)
        refine z_aload_n C dX9_trainingGap_48 rfl ?_
        refine z_get C dX9_trainingGap_49 fl_X9_7 (by first | assumption | ((repeat (first | assumption | exact va_up_self _ _ _ | refine (va_up_ne _ _ (by first | assumption | exact hA.ne (by decide) | exact hA.ne (by omega))).trans ?_)); done)) rfl ?_
        refine z_iload_n C dX9_trainingGap_52 rfl ?_
        refine z_callS C dX9_trainingGap_53 lk_X9_114 mw_X9_lengthOf mst_X9_lengthOf (k_X9_lengthOf hM1 hg (by omega)) rfl (by first | decide | exact Nat.le_of_ble_eq_true rfl) ⟨by decide, by decide, by decide, by decide⟩ (fun _ _ h => False.elim h) (fun v M' hp => ?_)
        obtain ⟨rfl, rfl⟩ := hp
        rw [hSd.1.1]
        refine z_imulZ C dX9_trainingGap_56 ?_
        refine z_isubZ C dX9_trainingGap_57 ?_
        refine z_istore_n C dX9_trainingGap_58 (by decide) ?_
        refine z_iincZ C dX9_trainingGap_59 rfl (by decide) ?_
        refine z_goto (tgt := 24) C dX9_trainingGap_62 (by decide) ?_
        refine ih _ F1 (i + 1) _ (by omega) (by omega) hO1 hM1 ?_ hfin
        rw [show (i + 1).toNat = i.toNat + 1 by omega]
        show _ = zi (ztgn (yS Y) (sRd (yS Y) rr.toNat) i.toNat - rTm (sRd (yS Y) rr.toNat) i.toNat * dLe (sDc (yS Y) i.toNat))
        exact zi_subc hx (zi_mulc (hSr.2.2.2.1 i (by omega) (by omega)) rfl)
  refine z_aload_n C dX9_trainingGap_0 rfl ?_
  refine z_iload_n C dX9_trainingGap_1 rfl ?_
  refine z_callV C dX9_trainingGap_2 lk_X9_295 mw_X9_noReader mi_X9_noReader ms_X9_noReader rfl (by first | assumption | ((repeat (first | assumption | exact va_up_self _ _ _ | refine (va_up_ne _ _ (by first | assumption | exact hA.ne (by decide) | exact hA.ne (by omega))).trans ?_)); done)) (k_X9_noReader hA hO hM hS hY r_rr) rfl (by first | decide | exact Nat.le_of_ble_eq_true rfl) ⟨by decide, by decide, by decide, by decide⟩ (fun _ _ h => False.elim h) (fun v M' hp => ?_)
  obtain ⟨r1, F1, rfl, f1, ob1, p1, e1, z1⟩ := hp
  have s1 := z1.rng
  have cf1 := f1
  have cp1 := p1
  have hM1 := cf1.at hA (.of rfl) hM
  refine z_if_eqZ (tgt := 10) C dX9_trainingGap_5 (by decide) (by omega) (fun h5 => ?_) (fun h5 => ?_)
  · have t1 := Decidable.not_not.mp (z1.f h5)
    rw [t1] at e1
    obtain ⟨c1, -⟩ := mqR_0 t1
    have hSr := hS.r c1
    refine z_aload_n C dX9_trainingGap_10 rfl ?_
    refine z_get C dX9_trainingGap_11 fl_X9_7 (by first | assumption | ((repeat (first | assumption | exact va_up_self _ _ _ | refine (va_up_ne _ _ (by first | assumption | exact hA.ne (by decide) | exact hA.ne (by omega))).trans ?_)); done)) rfl ?_
    refine z_iload_n C dX9_trainingGap_14 rfl ?_
    refine z_callS C dX9_trainingGap_15 lk_X9_92 mw_X9_atReader mst_X9_atReader k_X9_atReader rfl (by first | decide | exact Nat.le_of_ble_eq_true rfl) ⟨by decide, by decide, by decide, by decide⟩ (fun _ _ h => False.elim h) (fun v M' hp => ?_)
    obtain ⟨rfl, rfl⟩ := hp
    refine z_iconst C dX9_trainingGap_18 ?_
    refine z_iaddZ C dX9_trainingGap_19 ?_
    refine z_aldN C dX9_trainingGap_20 (by first | assumption | ((repeat (first | assumption | exact va_up_self _ _ _ | refine (va_up_ne _ _ (by first | assumption | exact hA.ne (by decide) | exact hA.ne (by omega))).trans ?_)); done)) (by omega) (by omega) (by assumption) (fun hr20 => ?_)
    refine z_istore_n C dX9_trainingGap_21 (by decide) ?_
    refine z_iconst C dX9_trainingGap_22 ?_
    refine z_istore_n C dX9_trainingGap_23 (by decide) ?_
    exact loop c1 (sDn (yS Y)).toNat _ F1 0 _ (by omega) (by omega) ob1 hM1 hSr.2.2.1 (fun b hb => mAns.ok hA (hF.q0 hA cf1 ob1 cp1 rfl) (cf1.mo rfl) e1 (by rw [q_trainingGap, mqR_t c1]) hb)
  · refine z_iconst C dX9_trainingGap_8 ?_
    refine z_iret C hQ dX9_trainingGap_9 rfl (by decide) (by decide) ?_
    exact mAns.no hA hF cf1 ob1 cp1 e1 (z1.t h5) (mqR_1 rfl)
set_option maxHeartbeats 4000000 in
set_option maxRecDepth 100000 in
theorem m_unseenSymbols {l : Launch} {γ : zG} {M : zM} {A : Nat → Nat} {Y : zSys} {t0 : Int} {rr dd : Int} (hMo0 : hMo γ M A Y t0) (hY : zOk (yS Y)) (r_rr : zR rr) (r_dd : zR dd) :
    zCon l γ yX9_unseenSymbols cX9_unseenSymbols 5 (some .int) [.ref (A 0), .int (zi rr), .int (zi dd)] M 10 330 0 0 (mAns γ A M Y (q_unseenSymbols (yS Y) rr dd)) (fun _ _ => False) := by
  obtain ⟨hA, F, h8, hF⟩ := hMo0
  obtain ⟨hsc, hec, hun, hsl, hinp, hou, ⟨g, hM, hS⟩, hrs⟩ := id hF
  have hO := hsc.1
  have hg := hS.1
  have o1 := hY.1
  have z_rr := r_rr
  unfold zR at z_rr
  have z_dd := r_dd
  unfold zR at z_dd
  refine zEnter [some (.ref (A 0)), some (.int (zi rr)), some (.int (zi dd)), none, none] (by decide +kernel) rfl rfl (Nat.le_of_ble_eq_true rfl) ?_
  intro p e s m args below meth c Q C hin hQ
  have loop : ∀ (c1 : 0 ≤ rr ∧ rr < sRn (yS Y)) (c2 : 0 ≤ dd ∧ dd < sDn (yS Y)) (t : Nat) (M1 : zM) (F1 : Nat → Int) (i : Int), dLe (sDc (yS Y) dd.toNat) - i = t → 0 ≤ i ∧ i ≤ dLe (sDc (yS Y) dd.toNat) → M1 (A 1) = some (zar γ 5987 g) → hMf γ M1 A F1 Y → F1 8 = 0 → mAll A M M1 → zAW p l e { frames := 10, cells := 0, slots := 0, locals := 330 } s m args below meth c γ 5 Q M1 0 0 16 [some (.ref (A 0)), some (.int (zi rr)), some (.int (zi dd)), some (.int (zi (zunn (rC (sRd (yS Y) rr.toNat)) (dSy (sDc (yS Y) dd.toNat)) (dLe (sDc (yS Y) dd.toNat)) i.toNat))), some (.int (zi i))] [] := by
    intro c1 c2 t
    have hX := hY.2.1 dd.toNat (by omega)
    have hSd := hS.d c2
    have hSr := hS.r c1
    have hXl := hX.1
    have hR := hS.rd hY c1 c2
    have hc := (hY.2.2 rr.toNat (by omega)).1.2.2.1
    induction t with
    | zero =>
      intro M1 F1 i ht hi hM1 hF1 e8 hal
      obtain rfl : i = dLe (sDc (yS Y) dd.toNat) := by omega
      have hO1 := hF1.1.1
      refine z_iload C dX9_unseenSymbols_16 rfl ?_
      refine z_aload_n C dX9_unseenSymbols_18 rfl ?_
      refine z_get C dX9_unseenSymbols_19 fl_X9_7 (by first | assumption | ((repeat (first | assumption | exact va_up_self _ _ _ | refine (va_up_ne _ _ (by first | assumption | exact hA.ne (by decide) | exact hA.ne (by omega))).trans ?_)); done)) rfl ?_
      refine z_iload_n C dX9_unseenSymbols_22 rfl ?_
      refine z_callS C dX9_unseenSymbols_23 lk_X9_114 mw_X9_lengthOf mst_X9_lengthOf (k_X9_lengthOf hM1 hg (by omega)) rfl (by first | decide | exact Nat.le_of_ble_eq_true rfl) ⟨by decide, by decide, by decide, by decide⟩ (fun _ _ h => False.elim h) (fun v M' hp => ?_)
      obtain ⟨rfl, rfl⟩ := hp
      rw [hSd.1.1]
      refine z_icmp_geZ (tgt := 90) C dX9_unseenSymbols_26 (by decide) (by omega) (by omega) (fun h26 => ?_) (fun h26 => ?_)
      · refine z_iload_n C dX9_unseenSymbols_90 rfl ?_
        refine z_iret C hQ dX9_unseenSymbols_91 rfl (by decide) (by decide) ?_
        exact mAns.ok hA hF1 hal e8 (by rw [q_unseenSymbols, mqR_t c1, mqD_t c2]) rfl
      · exact absurd h26 (by omega)
    | succ t ih =>
      intro M1 F1 i ht hi hM1 hF1 e8 hal
      have hO1 := hF1.1.1
      have y0 := hSd.1.sy (i := i) (by omega)
      have y1 := hSd.1.sy (i := i - 1) (by omega)
      have y2 := hSd.1.sy (i := i - 2) (by omega)
      have x4 := hAt_sy hX (i := i) (by omega)
      have qq := fun M2 F2 => ih M2 F2 (i + 1) (by omega) (by omega)
      rw [show (i + 1).toNat = i.toNat + 1 by omega, zunn, show ((i.toNat : Nat) : Int) = i by omega] at qq
      have zr := zlv_rng (rC (sRd (yS Y) rr.toNat)) (hAt (dSy (sDc (yS Y) dd.toNat)) (dLe (sDc (yS Y) dd.toNat)) (i - 2)) (hAt (dSy (sDc (yS Y) dd.toNat)) (dLe (sDc (yS Y) dd.toNat)) (i - 1)) (hAt (dSy (sDc (yS Y) dd.toNat)) (dLe (sDc (yS Y) dd.toNat)) i)
      have zf := zFo_rng (hAt (dSy (sDc (yS Y) dd.toNat)) (dLe (sDc (yS Y) dd.toNat)) (i - 2)) (hAt (dSy (sDc (yS Y) dd.toNat)) (dLe (sDc (yS Y) dd.toNat)) (i - 1))
      refine z_iload C dX9_unseenSymbols_16 rfl ?_
      refine z_aload_n C dX9_unseenSymbols_18 rfl ?_
      refine z_get C dX9_unseenSymbols_19 fl_X9_7 (by first | assumption | ((repeat (first | assumption | exact va_up_self _ _ _ | refine (va_up_ne _ _ (by first | assumption | exact hA.ne (by decide) | exact hA.ne (by omega))).trans ?_)); done)) rfl ?_
      refine z_iload_n C dX9_unseenSymbols_22 rfl ?_
      refine z_callS C dX9_unseenSymbols_23 lk_X9_114 mw_X9_lengthOf mst_X9_lengthOf (k_X9_lengthOf hM1 hg (by omega)) rfl (by first | decide | exact Nat.le_of_ble_eq_true rfl) ⟨by decide, by decide, by decide, by decide⟩ (fun _ _ h => False.elim h) (fun v M' hp => ?_)
      obtain ⟨rfl, rfl⟩ := hp
      rw [hSd.1.1]
      refine z_icmp_geZ (tgt := 90) C dX9_unseenSymbols_26 (by decide) (by omega) (by omega) (fun h26 => ?_) (fun h26 => ?_)
      · exact absurd h26 (by omega)
      · refine z_iload_n C dX9_unseenSymbols_29 rfl ?_
        refine z_aload_n C dX9_unseenSymbols_30 rfl ?_
        refine z_aload_n C dX9_unseenSymbols_31 rfl ?_
        refine z_get C dX9_unseenSymbols_32 fl_X9_7 (by first | assumption | ((repeat (first | assumption | exact va_up_self _ _ _ | refine (va_up_ne _ _ (by first | assumption | exact hA.ne (by decide) | exact hA.ne (by omega))).trans ?_)); done)) rfl ?_
        refine z_iload_n C dX9_unseenSymbols_35 rfl ?_
        refine z_aload_n C dX9_unseenSymbols_36 rfl ?_
        refine z_get C dX9_unseenSymbols_37 fl_X9_7 (by first | assumption | ((repeat (first | assumption | exact va_up_self _ _ _ | refine (va_up_ne _ _ (by first | assumption | exact hA.ne (by decide) | exact hA.ne (by omega))).trans ?_)); done)) rfl ?_
        refine z_iload_n C dX9_unseenSymbols_40 rfl ?_
        refine z_iload C dX9_unseenSymbols_41 rfl ?_
        refine z_iconst C dX9_unseenSymbols_43 ?_
        refine z_isubZ C dX9_unseenSymbols_44 ?_
        refine z_callS C dX9_unseenSymbols_45 lk_X9_103 mw_X9_symbolOf mst_X9_symbolOf (k_X9_symbolOf hM1 hg (d := dd) (i := i - 2) (by omega) (by omega)) rfl (by first | decide | exact Nat.le_of_ble_eq_true rfl) ⟨by decide, by decide, by decide, by decide⟩ (fun _ _ h => False.elim h) (fun v M' hp => ?_)
        obtain ⟨rfl, rfl⟩ := hp
        rw [y2]
        refine z_aload_n C dX9_unseenSymbols_48 rfl ?_
        refine z_get C dX9_unseenSymbols_49 fl_X9_7 (by first | assumption | ((repeat (first | assumption | exact va_up_self _ _ _ | refine (va_up_ne _ _ (by first | assumption | exact hA.ne (by decide) | exact hA.ne (by omega))).trans ?_)); done)) rfl ?_
        refine z_iload_n C dX9_unseenSymbols_52 rfl ?_
        refine z_iload C dX9_unseenSymbols_53 rfl ?_
        refine z_iconst C dX9_unseenSymbols_55 ?_
        refine z_isubZ C dX9_unseenSymbols_56 ?_
        refine z_callS C dX9_unseenSymbols_57 lk_X9_103 mw_X9_symbolOf mst_X9_symbolOf (k_X9_symbolOf hM1 hg (d := dd) (i := i - 1) (by omega) (by omega)) rfl (by first | decide | exact Nat.le_of_ble_eq_true rfl) ⟨by decide, by decide, by decide, by decide⟩ (fun _ _ h => False.elim h) (fun v M' hp => ?_)
        obtain ⟨rfl, rfl⟩ := hp
        rw [y1]
        refine z_aload_n C dX9_unseenSymbols_60 rfl ?_
        refine z_get C dX9_unseenSymbols_61 fl_X9_7 (by first | assumption | ((repeat (first | assumption | exact va_up_self _ _ _ | refine (va_up_ne _ _ (by first | assumption | exact hA.ne (by decide) | exact hA.ne (by omega))).trans ?_)); done)) rfl ?_
        refine z_iload_n C dX9_unseenSymbols_64 rfl ?_
        refine z_iload C dX9_unseenSymbols_65 rfl ?_
        refine z_callS C dX9_unseenSymbols_67 lk_X9_103 mw_X9_symbolOf mst_X9_symbolOf (k_X9_symbolOf hM1 hg (d := dd) (i := i) (by omega) (by omega)) rfl (by first | decide | exact Nat.le_of_ble_eq_true rfl) ⟨by decide, by decide, by decide, by decide⟩ (fun _ _ h => False.elim h) (fun v M' hp => ?_)
        obtain ⟨rfl, rfl⟩ := hp
        rw [y0]
        refine z_callV C dX9_unseenSymbols_70 lk_X9_335 mw_X9_found mi_X9_found ms_X9_found rfl hF1.1.1 (k_X9_found hA hF1.1 (kq := 1) (.inl rfl) hM1 hg (r := rr) (by omega) (hAt_dr hX _) (hAt_dr hX _) (hAt_bp hX i (by omega)) hSr.2.2.2.2 (fun x hx => sG_rng hx) hc x4) rfl (by first | decide | exact Nat.le_of_ble_eq_true rfl) ⟨by decide, by decide, by decide, by decide⟩ (fun _ _ h => False.elim h) (fun v M' hp => ?_)
        obtain ⟨rfl, fa, Fa, pa, sa⟩ := hp
        refine z_iconst C dX9_unseenSymbols_73 ?_
        refine z_icmp_neZ (tgt := 81) C dX9_unseenSymbols_74 (by decide) (by omega) (by omega) (fun h74 => ?_) (fun h74 => ?_)
        · refine z_iconst C dX9_unseenSymbols_81 ?_
          refine z_iaddZ C dX9_unseenSymbols_82 ?_
          refine z_istore_n C dX9_unseenSymbols_83 (by decide) ?_
          refine z_iincZ C dX9_unseenSymbols_84 rfl (by decide) ?_
          refine z_goto (tgt := 16) C dX9_unseenSymbols_87 (by decide) ?_
          rw [if_neg (by omega)] at qq
          exact qq _ Fa (fa.at hA (.of rfl) hM1) (hF1.q1 hA fa rfl pa rfl sa) ((pa 8 (by decide)).trans e8) (hal.tr fa ⟨rfl, rfl⟩)
        · refine z_iconst C dX9_unseenSymbols_77 ?_
          refine z_goto (tgt := 82) C dX9_unseenSymbols_78 (by decide) ?_
          refine z_iaddZ C dX9_unseenSymbols_82 ?_
          refine z_istore_n C dX9_unseenSymbols_83 (by decide) ?_
          refine z_iincZ C dX9_unseenSymbols_84 rfl (by decide) ?_
          refine z_goto (tgt := 16) C dX9_unseenSymbols_87 (by decide) ?_
          rw [if_pos (by omega)] at qq
          exact qq _ Fa (fa.at hA (.of rfl) hM1) (hF1.q1 hA fa rfl pa rfl sa) ((pa 8 (by decide)).trans e8) (hal.tr fa ⟨rfl, rfl⟩)
  refine z_aload_n C dX9_unseenSymbols_0 rfl ?_
  refine z_iload_n C dX9_unseenSymbols_1 rfl ?_
  refine z_iload_n C dX9_unseenSymbols_2 rfl ?_
  refine z_callV C dX9_unseenSymbols_3 lk_X9_328 mw_X9_noBoth mi_X9_noBoth ms_X9_noBoth rfl (by first | assumption | ((repeat (first | assumption | exact va_up_self _ _ _ | refine (va_up_ne _ _ (by first | assumption | exact hA.ne (by decide) | exact hA.ne (by omega))).trans ?_)); done)) (k_X9_noBoth hA hO hM hS hY r_rr r_dd) rfl (by first | decide | exact Nat.le_of_ble_eq_true rfl) ⟨by decide, by decide, by decide, by decide⟩ (fun _ _ h => False.elim h) (fun v M' hp => ?_)
  obtain ⟨r1, F1, rfl, f1, ob1, p1, e1, z1⟩ := hp
  have s1 := z1.rng
  have cf1 := f1
  have cp1 := p1
  have hM1 := cf1.at hA (.of rfl) hM
  refine z_if_eqZ (tgt := 11) C dX9_unseenSymbols_6 (by decide) (by omega) (fun h6 => ?_) (fun h6 => ?_)
  · have t1 := Decidable.not_not.mp (z1.f h6)
    rw [t1] at e1
    obtain ⟨c1, c0⟩ := mqR_0 t1
    obtain ⟨c2, -⟩ := mqD_0 c0
    have hF1 := hF.q0 hA cf1 ob1 cp1 rfl
    have hs1 := hF1.1
    have hR := hS.rd hY c1 c2
    have hSr := hS.r c1
    have hSd := hS.d c2
    have hX := hY.2.1 dd.toNat (by omega)
    have hXl := hX.1
    refine z_iconst C dX9_unseenSymbols_11 ?_
    refine z_istore_n C dX9_unseenSymbols_12 (by decide) ?_
    refine z_iconst C dX9_unseenSymbols_13 ?_
    refine z_istore C dX9_unseenSymbols_14 (by decide) ?_
    exact loop c1 c2 (dLe (sDc (yS Y) dd.toNat)).toNat _ F1 0 (by omega) (by omega) hM1 hF1 e1 (cf1.mo rfl)
  · refine z_iconst C dX9_unseenSymbols_9 ?_
    refine z_iret C hQ dX9_unseenSymbols_10 rfl (by decide) (by decide) ?_
    exact mAns.no hA hF cf1 ob1 cp1 e1 (z1.t h6) (mqR_1 (mqD_1 rfl))
set_option maxHeartbeats 4000000 in
set_option maxRecDepth 100000 in
theorem m_totalBits {l : Launch} {γ : zG} {M : zM} {A : Nat → Nat} {Y : zSys} {t0 : Int} {rr dd : Int} (hMo0 : hMo γ M A Y t0) (hY : zOk (yS Y)) (r_rr : zR rr) (r_dd : zR dd) :
    zCon l γ yX9_totalBits cX9_totalBits 5 (some .int) [.ref (A 0), .int (zi rr), .int (zi dd)] M 10 330 0 0 (mAns γ A M Y (q_totalBits (yS Y) rr dd)) (fun _ _ => False) := by
  obtain ⟨hA, F, h8, hF⟩ := hMo0
  obtain ⟨hsc, hec, hun, hsl, hinp, hou, ⟨g, hM, hS⟩, hrs⟩ := id hF
  have hO := hsc.1
  have hg := hS.1
  have o1 := hY.1
  have z_rr := r_rr
  unfold zR at z_rr
  have z_dd := r_dd
  unfold zR at z_dd
  refine zEnter [some (.ref (A 0)), some (.int (zi rr)), some (.int (zi dd)), none, none] (by decide +kernel) rfl rfl (Nat.le_of_ble_eq_true rfl) ?_
  intro p e s m args below meth c Q C hin hQ
  have loop : ∀ (c1 : 0 ≤ rr ∧ rr < sRn (yS Y)) (c2 : 0 ≤ dd ∧ dd < sDn (yS Y)) (t : Nat) (M1 : zM) (F1 : Nat → Int) (i : Int), dLe (sDc (yS Y) dd.toNat) - i = t → 0 ≤ i ∧ i ≤ dLe (sDc (yS Y) dd.toNat) → M1 (A 1) = some (zar γ 5987 g) → hMf γ M1 A F1 Y → F1 8 = 0 → mAll A M M1 → zAW p l e { frames := 10, cells := 0, slots := 0, locals := 330 } s m args below meth c γ 5 Q M1 0 0 16 [some (.ref (A 0)), some (.int (zi rr)), some (.int (zi dd)), some (.int (zi (zbtn (rC (sRd (yS Y) rr.toNat)) (rMe (sRd (yS Y) rr.toNat)) (dSy (sDc (yS Y) dd.toNat)) (dLe (sDc (yS Y) dd.toNat)) i.toNat))), some (.int (zi i))] [] := by
    intro c1 c2 t
    have hX := hY.2.1 dd.toNat (by omega)
    have hSd := hS.d c2
    have hSr := hS.r c1
    have hXl := hX.1
    have hR := hS.rd hY c1 c2
    have hc := (hY.2.2 rr.toNat (by omega)).1.2.2.1
    induction t with
    | zero =>
      intro M1 F1 i ht hi hM1 hF1 e8 hal
      obtain rfl : i = dLe (sDc (yS Y) dd.toNat) := by omega
      have hO1 := hF1.1.1
      refine z_iload C dX9_totalBits_16 rfl ?_
      refine z_aload_n C dX9_totalBits_18 rfl ?_
      refine z_get C dX9_totalBits_19 fl_X9_7 (by first | assumption | ((repeat (first | assumption | exact va_up_self _ _ _ | refine (va_up_ne _ _ (by first | assumption | exact hA.ne (by decide) | exact hA.ne (by omega))).trans ?_)); done)) rfl ?_
      refine z_iload_n C dX9_totalBits_22 rfl ?_
      refine z_callS C dX9_totalBits_23 lk_X9_114 mw_X9_lengthOf mst_X9_lengthOf (k_X9_lengthOf hM1 hg (by omega)) rfl (by first | decide | exact Nat.le_of_ble_eq_true rfl) ⟨by decide, by decide, by decide, by decide⟩ (fun _ _ h => False.elim h) (fun v M' hp => ?_)
      obtain ⟨rfl, rfl⟩ := hp
      rw [hSd.1.1]
      refine z_icmp_geZ (tgt := 81) C dX9_totalBits_26 (by decide) (by omega) (by omega) (fun h26 => ?_) (fun h26 => ?_)
      · refine z_iload_n C dX9_totalBits_81 rfl ?_
        refine z_iret C hQ dX9_totalBits_82 rfl (by decide) (by decide) ?_
        exact mAns.ok hA hF1 hal e8 (by rw [q_totalBits, mqR_t c1, mqD_t c2]) rfl
      · exact absurd h26 (by omega)
    | succ t ih =>
      intro M1 F1 i ht hi hM1 hF1 e8 hal
      have hO1 := hF1.1.1
      have y0 := hSd.1.sy (i := i) (by omega)
      have y1 := hSd.1.sy (i := i - 1) (by omega)
      have y2 := hSd.1.sy (i := i - 2) (by omega)
      have x4 := hAt_sy hX (i := i) (by omega)
      have qq := fun M2 F2 => ih M2 F2 (i + 1) (by omega) (by omega)
      rw [show (i + 1).toNat = i.toNat + 1 by omega, zbtn, show ((i.toNat : Nat) : Int) = i by omega] at qq
      obtain ⟨e10, h10b⟩ := hF1.2.2.2.2.2.2.2.2.2.1
      have hTB := zcT_rng hc (b := hAt (dSy (sDc (yS Y) dd.toNat)) (dLe (sDc (yS Y) dd.toNat)) (i - 2)) (p := hAt (dSy (sDc (yS Y) dd.toNat)) (dLe (sDc (yS Y) dd.toNat)) (i - 1)) (me := rMe (sRd (yS Y) rr.toNat)) x4
      refine z_iload C dX9_totalBits_16 rfl ?_
      refine z_aload_n C dX9_totalBits_18 rfl ?_
      refine z_get C dX9_totalBits_19 fl_X9_7 (by first | assumption | ((repeat (first | assumption | exact va_up_self _ _ _ | refine (va_up_ne _ _ (by first | assumption | exact hA.ne (by decide) | exact hA.ne (by omega))).trans ?_)); done)) rfl ?_
      refine z_iload_n C dX9_totalBits_22 rfl ?_
      refine z_callS C dX9_totalBits_23 lk_X9_114 mw_X9_lengthOf mst_X9_lengthOf (k_X9_lengthOf hM1 hg (by omega)) rfl (by first | decide | exact Nat.le_of_ble_eq_true rfl) ⟨by decide, by decide, by decide, by decide⟩ (fun _ _ h => False.elim h) (fun v M' hp => ?_)
      obtain ⟨rfl, rfl⟩ := hp
      rw [hSd.1.1]
      refine z_icmp_geZ (tgt := 81) C dX9_totalBits_26 (by decide) (by omega) (by omega) (fun h26 => ?_) (fun h26 => ?_)
      · exact absurd h26 (by omega)
      · refine z_aload_n C dX9_totalBits_29 rfl ?_
        refine z_iload_n C dX9_totalBits_30 rfl ?_
        refine z_aload_n C dX9_totalBits_31 rfl ?_
        refine z_get C dX9_totalBits_32 fl_X9_7 (by first | assumption | ((repeat (first | assumption | exact va_up_self _ _ _ | refine (va_up_ne _ _ (by first | assumption | exact hA.ne (by decide) | exact hA.ne (by omega))).trans ?_)); done)) rfl ?_
        refine z_iload_n C dX9_totalBits_35 rfl ?_
        refine z_iload C dX9_totalBits_36 rfl ?_
        refine z_iconst C dX9_totalBits_38 ?_
        refine z_isubZ C dX9_totalBits_39 ?_
        refine z_callS C dX9_totalBits_40 lk_X9_103 mw_X9_symbolOf mst_X9_symbolOf (k_X9_symbolOf hM1 hg (d := dd) (i := i - 2) (by omega) (by omega)) rfl (by first | decide | exact Nat.le_of_ble_eq_true rfl) ⟨by decide, by decide, by decide, by decide⟩ (fun _ _ h => False.elim h) (fun v M' hp => ?_)
        obtain ⟨rfl, rfl⟩ := hp
        rw [y2]
        refine z_aload_n C dX9_totalBits_43 rfl ?_
        refine z_get C dX9_totalBits_44 fl_X9_7 (by first | assumption | ((repeat (first | assumption | exact va_up_self _ _ _ | refine (va_up_ne _ _ (by first | assumption | exact hA.ne (by decide) | exact hA.ne (by omega))).trans ?_)); done)) rfl ?_
        refine z_iload_n C dX9_totalBits_47 rfl ?_
        refine z_iload C dX9_totalBits_48 rfl ?_
        refine z_iconst C dX9_totalBits_50 ?_
        refine z_isubZ C dX9_totalBits_51 ?_
        refine z_callS C dX9_totalBits_52 lk_X9_103 mw_X9_symbolOf mst_X9_symbolOf (k_X9_symbolOf hM1 hg (d := dd) (i := i - 1) (by omega) (by omega)) rfl (by first | decide | exact Nat.le_of_ble_eq_true rfl) ⟨by decide, by decide, by decide, by decide⟩ (fun _ _ h => False.elim h) (fun v M' hp => ?_)
        obtain ⟨rfl, rfl⟩ := hp
        rw [y1]
        refine z_aload_n C dX9_totalBits_55 rfl ?_
        refine z_get C dX9_totalBits_56 fl_X9_7 (by first | assumption | ((repeat (first | assumption | exact va_up_self _ _ _ | refine (va_up_ne _ _ (by first | assumption | exact hA.ne (by decide) | exact hA.ne (by omega))).trans ?_)); done)) rfl ?_
        refine z_iload_n C dX9_totalBits_59 rfl ?_
        refine z_iload C dX9_totalBits_60 rfl ?_
        refine z_callS C dX9_totalBits_62 lk_X9_103 mw_X9_symbolOf mst_X9_symbolOf (k_X9_symbolOf hM1 hg (d := dd) (i := i) (by omega) (by omega)) rfl (by first | decide | exact Nat.le_of_ble_eq_true rfl) ⟨by decide, by decide, by decide, by decide⟩ (fun _ _ h => False.elim h) (fun v M' hp => ?_)
        obtain ⟨rfl, rfl⟩ := hp
        rw [y0]
        refine z_callV C dX9_totalBits_65 lk_X9_339 mw_X9_reckon mi_X9_reckon ms_X9_reckon rfl hF1.1.1 (k_X9_reckon hA hF1.1 h10b hM1 hg (r := rr) (by omega) (hAt_dr hX _) (hAt_dr hX _) (hAt_bp hX i (by omega)) hSr.2.2.2.2 (fun x hx => sG_rng hx) hc x4 hSr.2.1 (hY.2.2 rr.toNat (by omega)).1.1) rfl (by first | decide | exact Nat.le_of_ble_eq_true rfl) ⟨by decide, by decide, by decide, by decide⟩ (fun _ _ h => False.elim h) (fun v M' hp => ?_)
        obtain ⟨rfl, fa, Fa, pa, sa, oa, ea, aT, aB, aE⟩ := hp
        refine z_iload_n C dX9_totalBits_68 rfl ?_
        refine z_aload_n C dX9_totalBits_69 rfl ?_
        refine z_callV C dX9_totalBits_70 lk_X9_342 mw_X9_codeBits mi_X9_codeBits ms_X9_codeBits rfl oa (k_X9_codeBits oa aT aB hTB.1 hTB.2) rfl (by first | decide | exact Nat.le_of_ble_eq_true rfl) ⟨by decide, by decide, by decide, by decide⟩ (fun _ _ h => False.elim h) (fun v M' hp => ?_)
        obtain ⟨rfl, rfl⟩ := hp
        refine z_iaddZ C dX9_totalBits_73 ?_
        refine z_istore_n C dX9_totalBits_74 (by decide) ?_
        refine z_iincZ C dX9_totalBits_75 rfl (by decide) ?_
        refine z_goto (tgt := 16) C dX9_totalBits_78 (by decide) ?_
        exact qq _ Fa (fa.at hA (.of rfl) hM1) (hF1.k hA fa pa sa ea) ((pa 8 (by decide)).trans e8) (hal.tr fa ⟨rfl, rfl⟩)
  refine z_aload_n C dX9_totalBits_0 rfl ?_
  refine z_iload_n C dX9_totalBits_1 rfl ?_
  refine z_iload_n C dX9_totalBits_2 rfl ?_
  refine z_callV C dX9_totalBits_3 lk_X9_328 mw_X9_noBoth mi_X9_noBoth ms_X9_noBoth rfl (by first | assumption | ((repeat (first | assumption | exact va_up_self _ _ _ | refine (va_up_ne _ _ (by first | assumption | exact hA.ne (by decide) | exact hA.ne (by omega))).trans ?_)); done)) (k_X9_noBoth hA hO hM hS hY r_rr r_dd) rfl (by first | decide | exact Nat.le_of_ble_eq_true rfl) ⟨by decide, by decide, by decide, by decide⟩ (fun _ _ h => False.elim h) (fun v M' hp => ?_)
  obtain ⟨r1, F1, rfl, f1, ob1, p1, e1, z1⟩ := hp
  have s1 := z1.rng
  have cf1 := f1
  have cp1 := p1
  have hM1 := cf1.at hA (.of rfl) hM
  refine z_if_eqZ (tgt := 11) C dX9_totalBits_6 (by decide) (by omega) (fun h6 => ?_) (fun h6 => ?_)
  · have t1 := Decidable.not_not.mp (z1.f h6)
    rw [t1] at e1
    obtain ⟨c1, c0⟩ := mqR_0 t1
    obtain ⟨c2, -⟩ := mqD_0 c0
    have hF1 := hF.q0 hA cf1 ob1 cp1 rfl
    have hs1 := hF1.1
    have hR := hS.rd hY c1 c2
    have hSr := hS.r c1
    have hSd := hS.d c2
    have hX := hY.2.1 dd.toNat (by omega)
    have hXl := hX.1
    refine z_iconst C dX9_totalBits_11 ?_
    refine z_istore_n C dX9_totalBits_12 (by decide) ?_
    refine z_iconst C dX9_totalBits_13 ?_
    refine z_istore C dX9_totalBits_14 (by decide) ?_
    exact loop c1 c2 (dLe (sDc (yS Y) dd.toNat)).toNat _ F1 0 (by omega) (by omega) hM1 hF1 e1 (cf1.mo rfl)
  · refine z_iconst C dX9_totalBits_9 ?_
    refine z_iret C hQ dX9_totalBits_10 rfl (by decide) (by decide) ?_
    exact mAns.no hA hF cf1 ob1 cp1 e1 (z1.t h6) (mqR_1 (mqD_1 rfl))
set_option maxHeartbeats 4000000 in
set_option maxRecDepth 100000 in
theorem m_hardestPosition {l : Launch} {γ : zG} {M : zM} {A : Nat → Nat} {Y : zSys} {t0 : Int} {rr dd : Int} (hMo0 : hMo γ M A Y t0) (hY : zOk (yS Y)) (r_rr : zR rr) (r_dd : zR dd) :
    zCon l γ yX9_hardestPosition cX9_hardestPosition 7 (some .int) [.ref (A 0), .int (zi rr), .int (zi dd)] M 10 330 0 0 (mAns γ A M Y (q_hardestPosition (yS Y) rr dd)) (fun _ _ => False) := by
  obtain ⟨hA, F, h8, hF⟩ := hMo0
  obtain ⟨hsc, hec, hun, hsl, hinp, hou, ⟨g, hM, hS⟩, hrs⟩ := id hF
  have hO := hsc.1
  have hg := hS.1
  have o1 := hY.1
  have z_rr := r_rr
  unfold zR at z_rr
  have z_dd := r_dd
  unfold zR at z_dd
  refine zEnter [some (.ref (A 0)), some (.int (zi rr)), some (.int (zi dd)), none, none, none, none] (by decide +kernel) rfl rfl (Nat.le_of_ble_eq_true rfl) ?_
  intro p e s m args below meth c Q C hin hQ
  have loop : ∀ (c1 : 0 ≤ rr ∧ rr < sRn (yS Y)) (c2 : 0 ≤ dd ∧ dd < sDn (yS Y)) (t : Nat) (M1 : zM) (F1 : Nat → Int) (i : Int) (x6 : Option Value), dLe (sDc (yS Y) dd.toNat) - i = t → 0 ≤ i ∧ i ≤ dLe (sDc (yS Y) dd.toNat) → M1 (A 1) = some (zar γ 5987 g) → hMf γ M1 A F1 Y → F1 8 = 0 → mAll A M M1 → zAW p l e { frames := 10, cells := 0, slots := 0, locals := 330 } s m args below meth c γ 7 Q M1 0 0 19 [some (.ref (A 0)), some (.int (zi rr)), some (.int (zi dd)), some (.int (zi (zhpn (rC (sRd (yS Y) rr.toNat)) (dSy (sDc (yS Y) dd.toNat)) (dLe (sDc (yS Y) dd.toNat)) i.toNat).1)), some (.int (zi (zhpn (rC (sRd (yS Y) rr.toNat)) (dSy (sDc (yS Y) dd.toNat)) (dLe (sDc (yS Y) dd.toNat)) i.toNat).2)), some (.int (zi i)), x6] [] := by
    intro c1 c2 t
    have hX := hY.2.1 dd.toNat (by omega)
    have hSd := hS.d c2
    have hSr := hS.r c1
    have hXl := hX.1
    have hR := hS.rd hY c1 c2
    have hc := (hY.2.2 rr.toNat (by omega)).1.2.2.1
    have zh : ∀ t : Nat, (t : Int) ≤ dLe (sDc (yS Y) dd.toNat) → 0 ≤ (zhpn (rC (sRd (yS Y) rr.toNat)) (dSy (sDc (yS Y) dd.toNat)) (dLe (sDc (yS Y) dd.toNat)) t).2 ∧ (zhpn (rC (sRd (yS Y) rr.toNat)) (dSy (sDc (yS Y) dd.toNat)) (dLe (sDc (yS Y) dd.toNat)) t).2 ≤ 27 := by
      intro t
      induction t with
      | zero => intro _; exact ⟨(show (0 : Int) ≤ 0 by decide), (show (0 : Int) ≤ 27 by decide)⟩
      | succ t ih =>
        intro ht
        have := ih (by omega)
        have zr : 1 ≤ zrp (rC (sRd (yS Y) rr.toNat)) (dSy (sDc (yS Y) dd.toNat)) (dLe (sDc (yS Y) dd.toNat)) t ∧ zrp (rC (sRd (yS Y) rr.toNat)) (dSy (sDc (yS Y) dd.toNat)) (dLe (sDc (yS Y) dd.toNat)) t ≤ 27 := zrk_rng (hAt_sy hX (i := t) (by omega))
        unfold zhpn
        split
        · show 0 ≤ zrp _ _ _ _ ∧ zrp _ _ _ _ ≤ 27
          omega
        · exact this
    induction t with
    | zero =>
      intro M1 F1 i x6 ht hi hM1 hF1 e8 hal
      obtain rfl : i = dLe (sDc (yS Y) dd.toNat) := by omega
      have hO1 := hF1.1.1
      refine z_iload C dX9_hardestPosition_19 rfl ?_
      refine z_aload_n C dX9_hardestPosition_21 rfl ?_
      refine z_get C dX9_hardestPosition_22 fl_X9_7 (by first | assumption | ((repeat (first | assumption | exact va_up_self _ _ _ | refine (va_up_ne _ _ (by first | assumption | exact hA.ne (by decide) | exact hA.ne (by omega))).trans ?_)); done)) rfl ?_
      refine z_iload_n C dX9_hardestPosition_25 rfl ?_
      refine z_callS C dX9_hardestPosition_26 lk_X9_114 mw_X9_lengthOf mst_X9_lengthOf (k_X9_lengthOf hM1 hg (by omega)) rfl (by first | decide | exact Nat.le_of_ble_eq_true rfl) ⟨by decide, by decide, by decide, by decide⟩ (fun _ _ h => False.elim h) (fun v M' hp => ?_)
      obtain ⟨rfl, rfl⟩ := hp
      rw [hSd.1.1]
      refine z_icmp_geZ (tgt := 82) C dX9_hardestPosition_29 (by decide) (by omega) (by omega) (fun h29 => ?_) (fun h29 => ?_)
      · refine z_iload_n C dX9_hardestPosition_82 rfl ?_
        refine z_iret C hQ dX9_hardestPosition_83 rfl (by decide) (by decide) ?_
        exact mAns.ok hA hF1 hal e8 (by rw [q_hardestPosition, mqR_t c1, mqD_t c2]) rfl
      · exact absurd h29 (by omega)
    | succ t ih =>
      intro M1 F1 i x6 ht hi hM1 hF1 e8 hal
      have hO1 := hF1.1.1
      have qq := fun M2 F2 x6 => ih M2 F2 (i + 1) x6 (by omega) (by omega)
      rw [show (i + 1).toNat = i.toNat + 1 by omega, zhpn, show ((i.toNat : Nat) : Int) = i by omega] at qq
      have zr : 1 ≤ zrp (rC (sRd (yS Y) rr.toNat)) (dSy (sDc (yS Y) dd.toNat)) (dLe (sDc (yS Y) dd.toNat)) i ∧ zrp (rC (sRd (yS Y) rr.toNat)) (dSy (sDc (yS Y) dd.toNat)) (dLe (sDc (yS Y) dd.toNat)) i ≤ 27 := zrk_rng (hAt_sy hX (i := i) (by omega))
      have zi1 := zh i.toNat (by omega)
      refine z_iload C dX9_hardestPosition_19 rfl ?_
      refine z_aload_n C dX9_hardestPosition_21 rfl ?_
      refine z_get C dX9_hardestPosition_22 fl_X9_7 (by first | assumption | ((repeat (first | assumption | exact va_up_self _ _ _ | refine (va_up_ne _ _ (by first | assumption | exact hA.ne (by decide) | exact hA.ne (by omega))).trans ?_)); done)) rfl ?_
      refine z_iload_n C dX9_hardestPosition_25 rfl ?_
      refine z_callS C dX9_hardestPosition_26 lk_X9_114 mw_X9_lengthOf mst_X9_lengthOf (k_X9_lengthOf hM1 hg (by omega)) rfl (by first | decide | exact Nat.le_of_ble_eq_true rfl) ⟨by decide, by decide, by decide, by decide⟩ (fun _ _ h => False.elim h) (fun v M' hp => ?_)
      obtain ⟨rfl, rfl⟩ := hp
      rw [hSd.1.1]
      refine z_icmp_geZ (tgt := 82) C dX9_hardestPosition_29 (by decide) (by omega) (by omega) (fun h29 => ?_) (fun h29 => ?_)
      · exact absurd h29 (by omega)
      · refine z_aload_n C dX9_hardestPosition_32 rfl ?_
        refine z_aload_n C dX9_hardestPosition_33 rfl ?_
        refine z_get C dX9_hardestPosition_34 fl_X9_7 (by first | assumption | ((repeat (first | assumption | exact va_up_self _ _ _ | refine (va_up_ne _ _ (by first | assumption | exact hA.ne (by decide) | exact hA.ne (by omega))).trans ?_)); done)) rfl ?_
        refine z_iload_n C dX9_hardestPosition_37 rfl ?_
        refine z_iload_n C dX9_hardestPosition_38 rfl ?_
        refine z_iload C dX9_hardestPosition_39 rfl ?_
        refine z_callV C dX9_hardestPosition_41 lk_X9_148 mw_X9_rankIn mi_X9_rankIn ms_X9_rankIn rfl hF1.1.1 (k_X9_rankIn hA hF1.1 (kq := 1) (.inl rfl) hM1 hR (i := i) (by omega)) rfl (by first | decide | exact Nat.le_of_ble_eq_true rfl) ⟨by decide, by decide, by decide, by decide⟩ (fun _ _ h => False.elim h) (fun v M' hp => ?_)
        obtain ⟨rfl, fa, Fa, pa, sa⟩ := hp
        refine z_istore C dX9_hardestPosition_44 (by decide) ?_
        refine z_iload C dX9_hardestPosition_46 rfl ?_
        refine z_iload C dX9_hardestPosition_48 rfl ?_
        refine z_icmp_leZ (tgt := 58) C dX9_hardestPosition_50 (by decide) (by omega) (by omega) (fun h50 => ?_) (fun h50 => ?_)
        · refine z_iload_n C dX9_hardestPosition_58 rfl ?_
          refine z_istore_n C dX9_hardestPosition_59 (by decide) ?_
          refine z_iload C dX9_hardestPosition_60 rfl ?_
          refine z_iload C dX9_hardestPosition_62 rfl ?_
          refine z_icmp_leZ (tgt := 72) C dX9_hardestPosition_64 (by decide) (by omega) (by omega) (fun h64 => ?_) (fun h64 => ?_)
          · refine z_iload C dX9_hardestPosition_72 rfl ?_
            refine z_istore C dX9_hardestPosition_74 (by decide) ?_
            refine z_iincZ C dX9_hardestPosition_76 rfl (by decide) ?_
            refine z_goto (tgt := 19) C dX9_hardestPosition_79 (by decide) ?_
            rw [if_neg (by omega)] at qq
            exact qq _ Fa _ (fa.at hA (.of rfl) hM1) (hF1.q1 hA fa rfl pa rfl sa) ((pa 8 (by decide)).trans e8) (hal.tr fa ⟨rfl, rfl⟩)
          · exact absurd h64 (by omega)
        · refine z_iload C dX9_hardestPosition_53 rfl ?_
          refine z_goto (tgt := 59) C dX9_hardestPosition_55 (by decide) ?_
          refine z_istore_n C dX9_hardestPosition_59 (by decide) ?_
          refine z_iload C dX9_hardestPosition_60 rfl ?_
          refine z_iload C dX9_hardestPosition_62 rfl ?_
          refine z_icmp_leZ (tgt := 72) C dX9_hardestPosition_64 (by decide) (by omega) (by omega) (fun h64 => ?_) (fun h64 => ?_)
          · exact absurd h64 (by omega)
          · refine z_iload C dX9_hardestPosition_67 rfl ?_
            refine z_goto (tgt := 74) C dX9_hardestPosition_69 (by decide) ?_
            refine z_istore C dX9_hardestPosition_74 (by decide) ?_
            refine z_iincZ C dX9_hardestPosition_76 rfl (by decide) ?_
            refine z_goto (tgt := 19) C dX9_hardestPosition_79 (by decide) ?_
            rw [if_pos (by omega)] at qq
            exact qq _ Fa _ (fa.at hA (.of rfl) hM1) (hF1.q1 hA fa rfl pa rfl sa) ((pa 8 (by decide)).trans e8) (hal.tr fa ⟨rfl, rfl⟩)
  refine z_aload_n C dX9_hardestPosition_0 rfl ?_
  refine z_iload_n C dX9_hardestPosition_1 rfl ?_
  refine z_iload_n C dX9_hardestPosition_2 rfl ?_
  refine z_callV C dX9_hardestPosition_3 lk_X9_328 mw_X9_noBoth mi_X9_noBoth ms_X9_noBoth rfl (by first | assumption | ((repeat (first | assumption | exact va_up_self _ _ _ | refine (va_up_ne _ _ (by first | assumption | exact hA.ne (by decide) | exact hA.ne (by omega))).trans ?_)); done)) (k_X9_noBoth hA hO hM hS hY r_rr r_dd) rfl (by first | decide | exact Nat.le_of_ble_eq_true rfl) ⟨by decide, by decide, by decide, by decide⟩ (fun _ _ h => False.elim h) (fun v M' hp => ?_)
  obtain ⟨r1, F1, rfl, f1, ob1, p1, e1, z1⟩ := hp
  have s1 := z1.rng
  have cf1 := f1
  have cp1 := p1
  have hM1 := cf1.at hA (.of rfl) hM
  refine z_if_eqZ (tgt := 11) C dX9_hardestPosition_6 (by decide) (by omega) (fun h6 => ?_) (fun h6 => ?_)
  · have t1 := Decidable.not_not.mp (z1.f h6)
    rw [t1] at e1
    obtain ⟨c1, c0⟩ := mqR_0 t1
    obtain ⟨c2, -⟩ := mqD_0 c0
    have hF1 := hF.q0 hA cf1 ob1 cp1 rfl
    have hs1 := hF1.1
    have hR := hS.rd hY c1 c2
    have hSr := hS.r c1
    have hSd := hS.d c2
    have hX := hY.2.1 dd.toNat (by omega)
    have hXl := hX.1
    refine z_iconst C dX9_hardestPosition_11 ?_
    refine z_istore_n C dX9_hardestPosition_12 (by decide) ?_
    refine z_iconst C dX9_hardestPosition_13 ?_
    refine z_istore C dX9_hardestPosition_14 (by decide) ?_
    refine z_iconst C dX9_hardestPosition_16 ?_
    refine z_istore C dX9_hardestPosition_17 (by decide) ?_
    exact loop c1 c2 (dLe (sDc (yS Y) dd.toNat)).toNat _ F1 0 none (by omega) (by omega) hM1 hF1 e1 (cf1.mo rfl)
  · refine z_iconst C dX9_hardestPosition_9 ?_
    refine z_iret C hQ dX9_hardestPosition_10 rfl (by decide) (by decide) ?_
    exact mAns.no hA hF cf1 ob1 cp1 e1 (z1.t h6) (mqR_1 (mqD_1 rfl))

