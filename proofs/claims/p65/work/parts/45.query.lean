/-! the face's answers: loops over documents and readers -/
theorem fOk.rt {γ : zG} {M M' : zM} {U : Nat → Nat} {Y : zSys} {pn : Int} {Z : Nat → zSt} {iF oF : Nat → Int} {c : Int → Int} (hI : zIU U) (hZ : zZk Y pn Z) (hF : hFo γ M U pn (yPc Y) (yEc Y) (yEp Y)) (hX : hFx γ M U (yUs Y) iF (yIn Y) oF (yOn Y) Z) (hi1 : ∀ j : Nat, j < yIn Y → iF j = yIf Y j) (ho1 : ∀ j : Nat, j < yOn Y → oF j = yOf Y j) (f : zFr M M' [U 11, U 12, U 13, U 8, U 9, U 10]) (q : hRq γ M' (U 11) (U 12) (U 13)) (q2 : hCn γ M' (U 8) (U 9) (U 10) c) : fOk γ M M' U Y :=
  ⟨zFr.us (L := [11, 12, 13, 8, 9, 10]) f (by decide), hI, pn, Z, iF, oF, hZ, hF.fr f (zUn hI (L := [11, 12, 13, 8, 9, 10]) (by decide) (by decide) (by decide)), hX.rt hI f q q2, hi1, ho1⟩
/-- the best reader so far, its guesses -/
def zbrn (S : zSt) (X : zDoc) : Nat → Int × Int
  | 0 => (-1, 1081)
  | i + 1 => if zgf (rC (sRd S i)) X < (zbrn S X i).2 then (i, zgf (rC (sRd S i)) X) else zbrn S X i
/-- the hardest document so far, its guesses -/
def zhdn (S : zSt) (c : Int → Int) : Nat → Int × Int
  | 0 => (-1, 0)
  | i + 1 => if (zhdn S c i).2 < zgf c (sDc S i) then (i, zgf c (sDc S i)) else zhdn S c i
/-- trainings needed, t tries left -/
def ztn (X : zDoc) (lim : Int) : Nat → (Int → Int) → Int
  | 0, _ => -1
  | t + 1, c => if zgf c X ≤ lim then 20 - t else ztn X lim t (zdoc c X)
/-- the training gap: what is left behind i documents -/
def ztgn (S : zSt) (R : zRdr) : Nat → Int
  | 0 => rTr R
  | i + 1 => ztgn S R i - rTm R i * dLe (sDc S i)
/-- pairs at which two readers agree -/
def zagn (c d : Int → Int) : Nat → Int
  | 0 => 0
  | i + 1 => zagn c d i + (if (0 < zsum (zind c) (756 + (i : Int) * 27) 27 ∨ 0 < zsum (zind d) (756 + (i : Int) * 27) 27) ∧ zgs c ((i : Int) / 27) ((i : Int) % 27) 1 = zgs d ((i : Int) / 27) ((i : Int) % 27) 1 then 1 else 0)
theorem zagn_rng (c d : Int → Int) : ∀ i : Nat, 0 ≤ zagn c d i ∧ zagn c d i ≤ i
  | 0 => by simp [zagn]
  | i + 1 => by
    have := zagn_rng c d i
    unfold zagn
    split <;> omega
theorem zgf_eq {c : Int → Int} {X : zDoc} {sy : Nat → Int} (h : ∀ j : Nat, j < dLe X → sy j = dSy X j) : zgfn c sy (dLe X) (dLe X).toNat = zgf c X := zgfn_cg h _
theorem zdoc_eq {c : Int → Int} {X : zDoc} {sy : Nat → Int} (h : ∀ j : Nat, j < dLe X → sy j = dSy X j) : zldn sy (dLe X) c (dLe X).toNat = zdoc c X := zldn_cg h _
theorem zGr_eq {c : Int → Int} (h : ∀ k, c k ≠ 0 → 0 ≤ k ∧ k < 20439) {r : Int} (hr : zGr c r) : r = zmx c := by
  have h1 := zmxf_ge (c := c) 20439
  have h2 := zmxf_at (c := c) 20439
  unfold zmx
  refine hr.uq ⟨h1.1, fun k => ?_, ?_⟩
  · by_cases e : c k = 0
    · omega
    · have := h k e
      have q := h1.2 k.toNat (by omega)
      rw [show ((k.toNat : Nat) : Int) = k by omega] at q
      exact q
  · rcases h2 with h2 | ⟨j, -, h2⟩
    · exact .inl h2
    · exact .inr ⟨j, h2⟩
noncomputable def q_trainingGap (S : zSt) (rr : Int) : Int × Int := zqR S rr (0, ztgn S (sRd S rr.toNat) (sDn S).toNat)
set_option maxHeartbeats 4000000 in
set_option maxRecDepth 100000 in
theorem k_X8_trainingGap {l : Launch} {γ : zG} {M : zM} {U : Nat → Nat} {Y : zSys} {rr : Int} (hc : hFc γ M U Y) (hk : yOk Y) (hrr : zR rr) :
    zCon l γ yX8_trainingGap cX8_trainingGap 5 (some .int) [.ref (U 0), .int (zi rr)] M 7 104 1 6 (fI γ M U Y (q_trainingGap (yS Y) rr)) (fX γ M U Y (q_trainingGap (yS Y) rr) xIOB xIAE) := by
  have hc0 := hc
  obtain ⟨hI, pn, Z, iF, oF, hZ, hF, hX, hi1, ho1⟩ := hc
  have hob := id hF
  unfold hFo at hob
  have hD : hSt γ M (zUb U 0) (yS Y) := hZ.2.1 ▸ hX.st0
  have hst := hD.ob
  have hkn := hk.1.1
  have hkk := hk.1.nk
  have hRQ := hX.2.2.2.2.2.2.1
  have hok := fun M' => @fOk.rk γ M M' U Y pn Z iF oF hI hZ hF hX hi1 ho1
  refine zEnter [some (.ref (U 0)), some (.int (zi rr)), none, none, none] (by decide +kernel) rfl rfl (Nat.le_of_ble_eq_true rfl) ?_
  intro p e s m args below meth c Q C hin hQ
  have loop : ∀ (g1 : 0 ≤ rr ∧ rr < sRn (yS Y)) (t : Nat) (i : Int), sDn (yS Y) - i = t → 0 ≤ i ∧ i ≤ sDn (yS Y) → zAW p l e { frames := 7, cells := 1, slots := 6, locals := 104 } s m args below meth c γ 5 Q M 1 6 14 [some (.ref (U 0)), some (.int (zi rr)), some (.ref (zUb U 0 (3 + 6 * rr.toNat))), some (.int (zi (ztgn (yS Y) (sRd (yS Y) rr.toNat) i.toNat))), some (.int (zi i))] [] := by
    intro g1
    have hro := hD.rdo (i := rr.toNat) (by omega) (by omega)
    have hR := hD.rd (i := rr.toNat) (by omega) (by omega)
    have hrk := (hk.1.2.2 rr.toNat (by omega)).1
    intro t
    induction t with
    | zero =>
      intro i ht hi
      obtain rfl : i = sDn (yS Y) := by omega
      refine z_iload C dX8_trainingGap_14 rfl ?_
      refine z_aload_n C dX8_trainingGap_16 rfl ?_
      refine z_get C dX8_trainingGap_17 fl_X8_13 (by first | assumption | ((repeat (first | assumption | exact va_up_self _ _ _ | refine (va_up_ne _ _ (by assumption)).trans ?_)); done) | (simp [va_up, *] <;> rfl)) rfl ?_
      refine z_get C dX8_trainingGap_20 fl_X8_167 (by first | assumption | ((repeat (first | assumption | exact va_up_self _ _ _ | refine (va_up_ne _ _ (by assumption)).trans ?_)); done) | (simp [va_up, *] <;> rfl)) rfl ?_
      refine z_icmp_geZ (tgt := 51) C dX8_trainingGap_23 (by decide) (by omega) (by omega) (fun h23 => ?_) (fun h23 => ?_)
      · refine z_iload_n C dX8_trainingGap_51 rfl ?_
        refine z_iret C hQ dX8_trainingGap_52 rfl (by decide) (by decide) ?_
        exact fI.of (.rf hc0) (zqR_t g1)
      · exact absurd h23 (by omega)
    | succ t ih =>
      intro i ht hi
      obtain ⟨sy, hX8, hXk8, hXv8⟩ := hD.dk (d := i.toNat) (by omega) (by omega)
      have obd8 := hX8.1
      have e1 : ztgn (yS Y) (sRd (yS Y) rr.toNat) (i + 1).toNat = ztgn (yS Y) (sRd (yS Y) rr.toNat) i.toNat - rTm (sRd (yS Y) rr.toNat) i.toNat * dLe (sDc (yS Y) i.toNat) := by
        rw [show (i + 1).toNat = i.toNat + 1 by omega]
        rfl
      refine z_iload C dX8_trainingGap_14 rfl ?_
      refine z_aload_n C dX8_trainingGap_16 rfl ?_
      refine z_get C dX8_trainingGap_17 fl_X8_13 (by first | assumption | ((repeat (first | assumption | exact va_up_self _ _ _ | refine (va_up_ne _ _ (by assumption)).trans ?_)); done) | (simp [va_up, *] <;> rfl)) rfl ?_
      refine z_get C dX8_trainingGap_20 fl_X8_167 (by first | assumption | ((repeat (first | assumption | exact va_up_self _ _ _ | refine (va_up_ne _ _ (by assumption)).trans ?_)); done) | (simp [va_up, *] <;> rfl)) rfl ?_
      refine z_icmp_geZ (tgt := 51) C dX8_trainingGap_23 (by decide) (by omega) (by omega) (fun h23 => ?_) (fun h23 => ?_)
      · exact absurd h23 (by omega)
      · refine z_iload_n C dX8_trainingGap_26 rfl ?_
        refine z_aload_n C dX8_trainingGap_27 rfl ?_
        refine z_iload C dX8_trainingGap_28 rfl ?_
        refine z_callV C dX8_trainingGap_30 lk_X8_218 mw_X6_trainingsOn mi_X6_trainingsOn ms_X6_trainingsOn rfl hro (k_X6_trainingsOn hR (i := i) (by unfold zR; omega)) rfl (by first | decide | exact Nat.le_of_ble_eq_true rfl) ⟨by decide, by decide, by decide, by decide⟩ (fun _ _ h => False.elim h) (fun v M' hp => ?_)
        obtain ⟨r30, rfl, rfl, hr30⟩ := hp
        rw [zTo, if_pos (by omega)] at hr30
        refine z_aload_n C dX8_trainingGap_33 rfl ?_
        refine z_iload C dX8_trainingGap_34 rfl ?_
        refine z_callV C dX8_trainingGap_36 lk_X8_170 mw_X8_existingDocument mi_X8_existingDocument ms_X8_existingDocument rfl (by first | assumption | ((repeat (first | assumption | exact va_up_self _ _ _ | refine (va_up_ne _ _ (by assumption)).trans ?_)); done) | (simp [va_up, *] <;> rfl)) (k_X8_existingDocument_in hF hD hkk (i := i) (by omega)) rfl (by first | decide | exact Nat.le_of_ble_eq_true rfl) ⟨by decide, by decide, by decide, by decide⟩ (fun _ _ h => False.elim h) (fun v M' hp => ?_)
        obtain ⟨rfl, rfl⟩ := hp
        refine z_get C dX8_trainingGap_39 fl_X8_174 (by first | assumption | ((repeat (first | assumption | exact va_up_self _ _ _ | refine (va_up_ne _ _ (by assumption)).trans ?_)); done) | (simp [va_up, *] <;> rfl)) rfl ?_
        refine z_imulZ C dX8_trainingGap_42 ?_
        refine z_isubZ C dX8_trainingGap_43 ?_
        refine z_istore_n C dX8_trainingGap_44 (by decide) ?_
        refine z_iincZ C dX8_trainingGap_45 rfl (by decide) ?_
        refine z_goto (tgt := 14) C dX8_trainingGap_48 (by decide) ?_
        have q := ih (i + 1) (by omega) (by omega)
        rw [e1, ← hr30] at q
        exact q
  refine z_aload_n C dX8_trainingGap_0 rfl ?_
  refine z_iload_n C dX8_trainingGap_1 rfl ?_
  refine z_callV C dX8_trainingGap_2 lk_X8_149 mw_X8_existingReader mi_X8_existingReader ms_X8_existingReader rfl (by first | assumption | ((repeat (first | assumption | exact va_up_self _ _ _ | refine (va_up_ne _ _ (by assumption)).trans ?_)); done) | (simp [va_up, *] <;> rfl)) (k_X8_existingReader hF hD hkk hrr) rfl (by first | decide | exact Nat.le_of_ble_eq_true rfl) ⟨by decide, by decide, by decide, by decide⟩ (fun X M' h => by obtain ⟨rfl, rfl, h⟩ := h; exact z_out C hQ (by decide) (by decide) (fX.o1 (.rf hc0) (zqR_f h))) (fun v M' hp => ?_)
  obtain ⟨rfl, g2, rfl⟩ := hp
  have hro := hD.rdo (i := rr.toNat) (by omega) (by omega)
  have hR := hD.rd (i := rr.toNat) (by omega) (by omega)
  obtain ⟨cn, hco, hcz, hcr⟩ := hD.rdc (i := rr.toNat) (by omega) (by omega)
  have hrk := (hk.1.2.2 rr.toNat (by omega)).1
  refine z_astore_n C dX8_trainingGap_5 (by decide) ?_
  refine z_aload_n C dX8_trainingGap_6 rfl ?_
  refine z_get C dX8_trainingGap_7 fl_X8_221 (by first | assumption | ((repeat (first | assumption | exact va_up_self _ _ _ | refine (va_up_ne _ _ (by assumption)).trans ?_)); done) | (simp [va_up, *] <;> rfl)) rfl ?_
  refine z_istore_n C dX8_trainingGap_10 (by decide) ?_
  refine z_iconst C dX8_trainingGap_11 ?_
  refine z_istore C dX8_trainingGap_12 (by decide) ?_
  exact loop g2 (sDn (yS Y)).toNat 0 (by omega) (by omega)
noncomputable def q_yearsToForget (S : zSt) (rr : Int) : Int × Int := zqR S rr (0, zyh 10 (zmx (rC (sRd S rr.toNat))))
noncomputable def q_unseenSymbols (S : zSt) (rr dd : Int) : Int × Int := zqR S rr (zqD S dd (0, zunn (rC (sRd S rr.toNat)) (dSy (sDc S dd.toNat)) (dLe (sDc S dd.toNat)) (dLe (sDc S dd.toNat)).toNat))
noncomputable def q_hardestPosition (S : zSt) (rr dd : Int) : Int × Int := zqR S rr (zqD S dd (0, (zhpn (rC (sRd S rr.toNat)) (dSy (sDc S dd.toNat)) (dLe (sDc S dd.toNat)) (dLe (sDc S dd.toNat)).toNat).1))
noncomputable def q_totalBits (S : zSt) (rr dd : Int) : Int × Int := zqR S rr (zqD S dd (0, zbtn (rC (sRd S rr.toNat)) (rMe (sRd S rr.toNat)) (dSy (sDc S dd.toNat)) (dLe (sDc S dd.toNat)) (dLe (sDc S dd.toNat)).toNat))
