/-! the face's answers: loops over documents and readers -/
theorem fOk.rt {γ : zG} {M M' : zM} {U : Nat → Nat} {Y : zSys} {pn : Int} {Z : Nat → zSt} {iF oF : Nat → Int} {c : Int → Int} (hI : zIU U) (hZ : zZk Y pn Z) (hF : hFo γ M U pn (yPc Y) (yEc Y) (yEp Y)) (hX : hFx γ M U (yUs Y) iF (yIn Y) oF (yOn Y) Z) (hi1 : ∀ j : Nat, j < yIn Y → iF j = yIf Y j) (ho1 : ∀ j : Nat, j < yOn Y → oF j = yOf Y j) (f : zFr M M' [U 11, U 12, U 13, U 8, U 9, U 10]) (q : hRq γ M' (U 11) (U 12) (U 13)) (q2 : hCn γ M' (U 8) (U 9) (U 10) c) : fOk γ M M' U Y :=
  ⟨zFr.us (L := [11, 12, 13, 8, 9, 10]) f (by decide), hI, pn, Z, iF, oF, hZ, hF.fr f (zUn hI (L := [11, 12, 13, 8, 9, 10]) (by decide) (by decide) (by decide)), hX.rt hI f q q2, hi1, ho1⟩
/-- the best reader so far, its guesses -/
def zbrn (S : zSt) (X : zDoc) : Nat → Int × Int
  | 0 => (-1, 1081)
  | i + 1 => if zgf (rC (sRd S i)) X < (zbrn S X i).2 then (i, zgf (rC (sRd S i)) X) else zbrn S X i
/-- the hardest document so far, its guesses -/
def zhdn (S : zSt) (c : Int → Int) : Nat → Int × Int
  | 0 => (-1, 0)
  | i + 1 => if (zhdn S c i).2 < zgf c (sDc S i) then (i, zgf c (sDc S i)) else zhdn S c i
/-- trainings needed, t tries left -/
def ztn (X : zDoc) (lim : Int) : Nat → (Int → Int) → Int
  | 0, _ => -1
  | t + 1, c => if zgf c X ≤ lim then 20 - t else ztn X lim t (zdoc c X)
/-- the training gap: what is left behind i documents -/
def ztgn (S : zSt) (R : zRdr) : Nat → Int
  | 0 => rTr R
  | i + 1 => ztgn S R i - rTm R i * dLe (sDc S i)
/-- pairs at which two readers agree -/
def zagn (c d : Int → Int) : Nat → Int
  | 0 => 0
  | i + 1 => zagn c d i + (if (0 < zsum (zind c) (756 + (i : Int) * 27) 27 ∨ 0 < zsum (zind d) (756 + (i : Int) * 27) 27) ∧ zgs c ((i : Int) / 27) ((i : Int) % 27) 1 = zgs d ((i : Int) / 27) ((i : Int) % 27) 1 then 1 else 0)
theorem zagn_rng (c d : Int → Int) : ∀ i : Nat, 0 ≤ zagn c d i ∧ zagn c d i ≤ i
  | 0 => by simp [zagn]
  | i + 1 => by
    have := zagn_rng c d i
    unfold zagn
    split <;> omega
theorem zgf_eq {c : Int → Int} {X : zDoc} {sy : Nat → Int} (h : ∀ j : Nat, j < dLe X → sy j = dSy X j) : zgfn c sy (dLe X) (dLe X).toNat = zgf c X := zgfn_cg h _
theorem zdoc_eq {c : Int → Int} {X : zDoc} {sy : Nat → Int} (h : ∀ j : Nat, j < dLe X → sy j = dSy X j) : zldn sy (dLe X) c (dLe X).toNat = zdoc c X := zldn_cg h _
theorem zGr_eq {c : Int → Int} (h : ∀ k, c k ≠ 0 → 0 ≤ k ∧ k < 20439) {r : Int} (hr : zGr c r) : r = zmx c := by
  have h1 := zmxf_ge (c := c) 20439
  have h2 := zmxf_at (c := c) 20439
  unfold zmx
  refine hr.uq ⟨h1.1, fun k => ?_, ?_⟩
  · by_cases e : c k = 0
    · omega
    · have := h k e
      have q := h1.2 k.toNat (by omega)
      rw [show ((k.toNat : Nat) : Int) = k by omega] at q
      exact q
  · rcases h2 with h2 | ⟨j, -, h2⟩
    · exact .inl h2
    · exact .inr ⟨j, h2⟩
noncomputable def q_trainingGap (S : zSt) (rr : Int) : Int × Int := zqR S rr (0, ztgn S (sRd S rr.toNat) (sDn S).toNat)
set_option maxHeartbeats 4000000 in
set_option maxRecDepth 100000 in
theorem k_X8_trainingGap {l : Launch} {γ : zG} {M : zM} {U : Nat → Nat} {Y : zSys} {rr : Int} (hc : hFc γ M U Y) (hk : yOk Y) (hrr : zR rr) :
    zCon l γ yX8_trainingGap cX8_trainingGap 5 (some .int) [.ref (U 0), .int (zi rr)] M 7 104 1 6 (fI γ M U Y (q_trainingGap (yS Y) rr)) (fX γ M U Y (q_trainingGap (yS Y) rr) xIOB xIAE) := by
  have hc0 := hc
  obtain ⟨hI, pn, Z, iF, oF, hZ, hF, hX, hi1, ho1⟩ := hc
  have hob := id hF
  unfold hFo at hob
  have hD : hSt γ M (zUb U 0) (yS Y) := hZ.2.1 ▸ hX.st0
  have hst := hD.ob
  have hkn := hk.1.1
  have hkk := hk.1.nk
  have hRQ := hX.2.2.2.2.2.2.1
  have hok := fun M' => @fOk.rk γ M M' U Y pn Z iF oF hI hZ hF hX hi1 ho1
  refine zEnter [some (.ref (U 0)), some (.int (zi rr)), none, none, none] (by decide +kernel) rfl rfl (Nat.le_of_ble_eq_true rfl) ?_
  intro p e s m args below meth c Q C hin hQ
  have loop : ∀ (g1 : 0 ≤ rr ∧ rr < sRn (yS Y)) (t : Nat) (i : Int), sDn (yS Y) - i = t → 0 ≤ i ∧ i ≤ sDn (yS Y) → zAW p l e { frames := 7, cells := 1, slots := 6, locals := 104 } s m args below meth c γ 5 Q M 1 6 14 [some (.ref (U 0)), some (.int (zi rr)), some (.ref (zUb U 0 (3 + 6 * rr.toNat))), some (.int (zi (ztgn (yS Y) (sRd (yS Y) rr.toNat) i.toNat))), some (.int (zi i))] [] := by
    intro g1
    have hro := hD.rdo (i := rr.toNat) (by omega) (by omega)
    have hR := hD.rd (i := rr.toNat) (by omega) (by omega)
    have hrk := (hk.1.2.2 rr.toNat (by omega)).1
    intro t
    induction t with
    | zero =>
      intro i ht hi
      obtain rfl : i = sDn (yS Y) := by omega
      refine z_iload C dX8_trainingGap_14 rfl ?_
      refine z_aload_n C dX8_trainingGap_16 rfl ?_
      refine z_get C dX8_trainingGap_17 fl_X8_13 (by first | assumption | ((repeat (first | assumption | exact va_up_self _ _ _ | refine (va_up_ne _ _ (by assumption)).trans ?_)); done) | (simp [va_up, *] <;> rfl)) rfl ?_
      refine z_get C dX8_trainingGap_20 fl_X8_167 (by first | assumption | ((repeat (first | assumption | exact va_up_self _ _ _ | refine (va_up_ne _ _ (by assumption)).trans ?_)); done) | (simp [va_up, *] <;> rfl)) rfl ?_
      refine z_icmp_geZ (tgt := 51) C dX8_trainingGap_23 (by decide) (by omega) (by omega) (fun h23 => ?_) (fun h23 => ?_)
      · refine z_iload_n C dX8_trainingGap_51 rfl ?_
        refine z_iret C hQ dX8_trainingGap_52 rfl (by decide) (by decide) ?_
        exact fI.of (.rf hc0) (zqR_t g1)
      · exact absurd h23 (by omega)
    | succ t ih =>
      intro i ht hi
      obtain ⟨sy, hX8, hXk8, hXv8⟩ := hD.dk (d := i.toNat) (by omega) (by omega)
      have obd8 := hX8.1
      have e1 : ztgn (yS Y) (sRd (yS Y) rr.toNat) (i + 1).toNat = ztgn (yS Y) (sRd (yS Y) rr.toNat) i.toNat - rTm (sRd (yS Y) rr.toNat) i.toNat * dLe (sDc (yS Y) i.toNat) := by
        rw [show (i + 1).toNat = i.toNat + 1 by omega]
        rfl
      refine z_iload C dX8_trainingGap_14 rfl ?_
      refine z_aload_n C dX8_trainingGap_16 rfl ?_
      refine z_get C dX8_trainingGap_17 fl_X8_13 (by first | assumption | ((repeat (first | assumption | exact va_up_self _ _ _ | refine (va_up_ne _ _ (by assumption)).trans ?_)); done) | (simp [va_up, *] <;> rfl)) rfl ?_
      refine z_get C dX8_trainingGap_20 fl_X8_167 (by first | assumption | ((repeat (first | assumption | exact va_up_self _ _ _ | refine (va_up_ne _ _ (by assumption)).trans ?_)); done) | (simp [va_up, *] <;> rfl)) rfl ?_
      refine z_icmp_geZ (tgt := 51) C dX8_trainingGap_23 (by decide) (by omega) (by omega) (fun h23 => ?_) (fun h23 => ?_)
      · exact absurd h23 (by omega)
      · refine z_iload_n C dX8_trainingGap_26 rfl ?_
        refine z_aload_n C dX8_trainingGap_27 rfl ?_
        refine z_iload C dX8_trainingGap_28 rfl ?_
        refine z_callV C dX8_trainingGap_30 lk_X8_218 mw_X6_trainingsOn mi_X6_trainingsOn ms_X6_trainingsOn rfl hro (k_X6_trainingsOn hR (i := i) (by unfold zR; omega)) rfl (by first | decide | exact Nat.le_of_ble_eq_true rfl) ⟨by decide, by decide, by decide, by decide⟩ (fun _ _ h => False.elim h) (fun v M' hp => ?_)
        obtain ⟨r30, rfl, rfl, hr30⟩ := hp
        rw [zTo, if_pos (by omega)] at hr30
        refine z_aload_n C dX8_trainingGap_33 rfl ?_
        refine z_iload C dX8_trainingGap_34 rfl ?_
        refine z_callV C dX8_trainingGap_36 lk_X8_170 mw_X8_existingDocument mi_X8_existingDocument ms_X8_existingDocument rfl (by first | assumption | ((repeat (first | assumption | exact va_up_self _ _ _ | refine (va_up_ne _ _ (by assumption)).trans ?_)); done) | (simp [va_up, *] <;> rfl)) (k_X8_existingDocument_in hF hD hkk (i := i) (by omega)) rfl (by first | decide | exact Nat.le_of_ble_eq_true rfl) ⟨by decide, by decide, by decide, by decide⟩ (fun _ _ h => False.elim h) (fun v M' hp => ?_)
        obtain ⟨rfl, rfl⟩ := hp
        refine z_get C dX8_trainingGap_39 fl_X8_174 (by first | assumption | ((repeat (first | assumption | exact va_up_self _ _ _ | refine (va_up_ne _ _ (by assumption)).trans ?_)); done) | (simp [va_up, *] <;> rfl)) rfl ?_
        refine z_imulZ C dX8_trainingGap_42 ?_
        refine z_isubZ C dX8_trainingGap_43 ?_
        refine z_istore_n C dX8_trainingGap_44 (by decide) ?_
        refine z_iincZ C dX8_trainingGap_45 rfl (by decide) ?_
        refine z_goto (tgt := 14) C dX8_trainingGap_48 (by decide) ?_
        have q := ih (i + 1) (by omega) (by omega)
        rw [e1, ← hr30] at q
        exact q
  refine z_aload_n C dX8_trainingGap_0 rfl ?_
  refine z_iload_n C dX8_trainingGap_1 rfl ?_
  refine z_callV C dX8_trainingGap_2 lk_X8_149 mw_X8_existingReader mi_X8_existingReader ms_X8_existingReader rfl (by first | assumption | ((repeat (first | assumption | exact va_up_self _ _ _ | refine (va_up_ne _ _ (by assumption)).trans ?_)); done) | (simp [va_up, *] <;> rfl)) (k_X8_existingReader hF hD hkk hrr) rfl (by first | decide | exact Nat.le_of_ble_eq_true rfl) ⟨by decide, by decide, by decide, by decide⟩ (fun X M' h => by obtain ⟨rfl, rfl, h⟩ := h; exact z_out C hQ (by decide) (by decide) (fX.o1 (.rf hc0) (zqR_f h))) (fun v M' hp => ?_)
  obtain ⟨rfl, g2, rfl⟩ := hp
  have hro := hD.rdo (i := rr.toNat) (by omega) (by omega)
  have hR := hD.rd (i := rr.toNat) (by omega) (by omega)
  obtain ⟨cn, hco, hcz, hcr⟩ := hD.rdc (i := rr.toNat) (by omega) (by omega)
  have hrk := (hk.1.2.2 rr.toNat (by omega)).1
  refine z_astore_n C dX8_trainingGap_5 (by decide) ?_
  refine z_aload_n C dX8_trainingGap_6 rfl ?_
  refine z_get C dX8_trainingGap_7 fl_X8_221 (by first | assumption | ((repeat (first | assumption | exact va_up_self _ _ _ | refine (va_up_ne _ _ (by assumption)).trans ?_)); done) | (simp [va_up, *] <;> rfl)) rfl ?_
  refine z_istore_n C dX8_trainingGap_10 (by decide) ?_
  refine z_iconst C dX8_trainingGap_11 ?_
  refine z_istore C dX8_trainingGap_12 (by decide) ?_
  exact loop g2 (sDn (yS Y)).toNat 0 (by omega) (by omega)
noncomputable def q_yearsToForget (S : zSt) (rr : Int) : Int × Int := zqR S rr (0, zyh 10 (zmx (rC (sRd S rr.toNat))))
set_option maxHeartbeats 4000000 in
set_option maxRecDepth 100000 in
theorem k_X8_yearsToForget {l : Launch} {γ : zG} {M : zM} {U : Nat → Nat} {Y : zSys} {rr : Int} (hc : hFc γ M U Y) (hk : yOk Y) (hrr : zR rr) :
    zCon l γ yX8_yearsToForget cX8_yearsToForget 4 (some .int) [.ref (U 0), .int (zi rr)] M 7 104 1 6 (fI γ M U Y (q_yearsToForget (yS Y) rr)) (fX γ M U Y (q_yearsToForget (yS Y) rr) xIOB xIAE) := by
  have hc0 := hc
  obtain ⟨hI, pn, Z, iF, oF, hZ, hF, hX, hi1, ho1⟩ := hc
  have hob := id hF
  unfold hFo at hob
  have hD : hSt γ M (zUb U 0) (yS Y) := hZ.2.1 ▸ hX.st0
  have hst := hD.ob
  have hkn := hk.1.1
  have hkk := hk.1.nk
  have hRQ := hX.2.2.2.2.2.2.1
  have hok := fun M' => @fOk.rk γ M M' U Y pn Z iF oF hI hZ hF hX hi1 ho1
  refine zEnter [some (.ref (U 0)), some (.int (zi rr)), none, none] (by decide +kernel) rfl rfl (Nat.le_of_ble_eq_true rfl) ?_
  intro p e s m args below meth c Q C hin hQ
  have loop : ∀ (g1 : 0 ≤ rr ∧ rr < sRn (yS Y)) (t : Nat) (y m1 : Int), 0 ≤ y ∧ y ≤ 10 → (0 ≤ m1 ∧ m1 ≤ 999) ∧ m1 < 2 ^ t → y + zyh t m1 = zyh 10 (zmx (rC (sRd (yS Y) rr.toNat))) → y + t ≤ 10 → zAW p l e { frames := 7, cells := 1, slots := 6, locals := 104 } s m args below meth c γ 4 Q M 1 6 14 [some (.ref (U 0)), some (.int (zi rr)), some (.int (zi y)), some (.int (zi m1))] [] := by
    intro g1 t
    induction t with
    | zero =>
      intro y m1 hy hm he hyt
      have hm0 : m1 = 0 := by simp at hm; omega
      have he : y + 0 = zyh 10 (zmx (rC (sRd (yS Y) rr.toNat))) := he
      refine z_iload_n C dX8_yearsToForget_14 rfl ?_
      refine z_if_leZ (tgt := 28) C dX8_yearsToForget_15 (by decide) (by omega) (fun h15 => ?_) (fun h15 => ?_)
      · refine z_iload_n C dX8_yearsToForget_28 rfl ?_
        refine z_iret C hQ dX8_yearsToForget_29 rfl (by decide) (by decide) ?_
        exact fI.of (.rf hc0) ((zqR_t g1).trans (by rw [← he, Int.add_zero]))
      · exact absurd h15 (by omega)
    | succ t ih =>
      intro y m1 hy hm he hyt
      have hp2 : (2 : Int) ^ (t + 1) = 2 ^ t * 2 := Int.pow_succ 2 t
      have he : y + (if 0 < m1 then zyh t (m1 / 2) + 1 else 0) = zyh 10 (zmx (rC (sRd (yS Y) rr.toNat))) := he
      refine z_iload_n C dX8_yearsToForget_14 rfl ?_
      refine z_if_leZ (tgt := 28) C dX8_yearsToForget_15 (by decide) (by omega) (fun h15 => ?_) (fun h15 => ?_)
      · refine z_iload_n C dX8_yearsToForget_28 rfl ?_
        refine z_iret C hQ dX8_yearsToForget_29 rfl (by decide) (by decide) ?_
        rw [if_neg (by omega)] at he
        exact fI.of (.rf hc0) ((zqR_t g1).trans (by rw [← he, Int.add_zero]))
      · refine z_iincZ C dX8_yearsToForget_18 rfl (by decide) ?_
        refine z_iload_n C dX8_yearsToForget_21 rfl ?_
        refine z_iconst C dX8_yearsToForget_22 ?_
        refine z_idivZ C dX8_yearsToForget_23 (by omega) (by omega) ?_
        refine z_istore_n C dX8_yearsToForget_24 (by decide) ?_
        refine z_goto (tgt := 14) C dX8_yearsToForget_25 (by decide) ?_
        rw [if_pos (by omega)] at he
        exact ih (y + 1) (m1 / 2) (by omega) (by omega) (by omega) (by omega)
  refine z_iconst C dX8_yearsToForget_0 ?_
  refine z_istore_n C dX8_yearsToForget_1 (by decide) ?_
  refine z_aload_n C dX8_yearsToForget_2 rfl ?_
  refine z_iload_n C dX8_yearsToForget_3 rfl ?_
  refine z_callV C dX8_yearsToForget_4 lk_X8_149 mw_X8_existingReader mi_X8_existingReader ms_X8_existingReader rfl (by first | assumption | ((repeat (first | assumption | exact va_up_self _ _ _ | refine (va_up_ne _ _ (by assumption)).trans ?_)); done) | (simp [va_up, *] <;> rfl)) (k_X8_existingReader hF hD hkk hrr) rfl (by first | decide | exact Nat.le_of_ble_eq_true rfl) ⟨by decide, by decide, by decide, by decide⟩ (fun X M' h => by obtain ⟨rfl, rfl, h⟩ := h; exact z_out C hQ (by decide) (by decide) (fX.o1 (.rf hc0) (zqR_f h))) (fun v M' hp => ?_)
  obtain ⟨rfl, g4, rfl⟩ := hp
  have hro := hD.rdo (i := rr.toNat) (by omega) (by omega)
  have hR := hD.rd (i := rr.toNat) (by omega) (by omega)
  obtain ⟨cn, hco, hcz, hcr⟩ := hD.rdc (i := rr.toNat) (by omega) (by omega)
  have hrk := (hk.1.2.2 rr.toNat (by omega)).1
  refine z_get C dX8_yearsToForget_7 fl_X8_188 (by first | assumption | ((repeat (first | assumption | exact va_up_self _ _ _ | refine (va_up_ne _ _ (by assumption)).trans ?_)); done) | (simp [va_up, *] <;> rfl)) rfl ?_
  refine z_callV C dX8_yearsToForget_10 lk_X8_280 mw_X2_greatest mi_X2_greatest ms_X2_greatest rfl hco (k_X2_greatest hR.2.2.1) rfl (by first | decide | exact Nat.le_of_ble_eq_true rfl) ⟨by decide, by decide, by decide, by decide⟩ (fun _ _ h => False.elim h) (fun v M' hp => ?_)
  obtain ⟨r10, rfl, rfl, hr10, hz10⟩ := hp
  have hzz := hr10.1
  have hmx := zGr_eq (fun k hk => by
    obtain ⟨-, n, ks, vs, -, -, hRp⟩ := hR.2.2.1
    exact hRp.key hk) hr10
  have h10 : (2 : Int) ^ 10 = 1024 := by decide
  refine z_istore_n C dX8_yearsToForget_13 (by decide) ?_
  exact loop g4 10 0 r10 (by omega) ⟨by omega, by omega⟩ (by rw [hmx]; omega) (by omega)
noncomputable def q_unseenSymbols (S : zSt) (rr dd : Int) : Int × Int := zqR S rr (zqD S dd (0, zunn (rC (sRd S rr.toNat)) (dSy (sDc S dd.toNat)) (dLe (sDc S dd.toNat)) (dLe (sDc S dd.toNat)).toNat))
set_option maxHeartbeats 4000000 in
set_option maxRecDepth 100000 in
theorem k_X8_unseenSymbols {l : Launch} {γ : zG} {M : zM} {U : Nat → Nat} {Y : zSys} {rr dd : Int} (hc : hFc γ M U Y) (hk : yOk Y) (hrr : zR rr) (hdd : zR dd) :
    zCon l γ yX8_unseenSymbols cX8_unseenSymbols 7 (some .int) [.ref (U 0), .int (zi rr), .int (zi dd)] M 7 104 2 12 (fI γ M U Y (q_unseenSymbols (yS Y) rr dd)) (fX γ M U Y (q_unseenSymbols (yS Y) rr dd) xIOB xIAE) := by
  have hc0 := hc
  obtain ⟨hI, pn, Z, iF, oF, hZ, hF, hX, hi1, ho1⟩ := hc
  have hob := id hF
  unfold hFo at hob
  have hD : hSt γ M (zUb U 0) (yS Y) := hZ.2.1 ▸ hX.st0
  have hst := hD.ob
  have hkn := hk.1.1
  have hkk := hk.1.nk
  have hRQ := hX.2.2.2.2.2.2.1
  have hok := fun M' => @fOk.rk γ M M' U Y pn Z iF oF hI hZ hF hX hi1 ho1
  refine zEnter [some (.ref (U 0)), some (.int (zi rr)), some (.int (zi dd)), none, none, none, none] (by decide +kernel) rfl rfl (Nat.le_of_ble_eq_true rfl) ?_
  intro p e s m args below meth c Q C hin hQ
  have loop : ∀ (g1 : 0 ≤ rr ∧ rr < sRn (yS Y)) (g8 : 0 ≤ dd ∧ dd < sDn (yS Y)) (t : Nat) (i : Int), dLe (sDc (yS Y) dd.toNat) - i = t → 0 ≤ i ∧ i ≤ dLe (sDc (yS Y) dd.toNat) → zAW p l e { frames := 7, cells := 2, slots := 12, locals := 104 } s m args below meth c γ 7 Q M 2 12 19 [some (.ref (U 0)), some (.int (zi rr)), some (.int (zi dd)), some (.ref (zUb U 0 (3 + 6 * rr.toNat))), some (.ref (zUb U 0 (27 + 2 * dd.toNat))), some (.int (zi (zunn (rC (sRd (yS Y) rr.toNat)) (dSy (sDc (yS Y) dd.toNat)) (dLe (sDc (yS Y) dd.toNat)) i.toNat))), some (.int (zi i))] [] := by
    intro g1 g8
    have hro := hD.rdo (i := rr.toNat) (by omega) (by omega)
    have hR := hD.rd (i := rr.toNat) (by omega) (by omega)
    have hrk := (hk.1.2.2 rr.toNat (by omega)).1
    obtain ⟨sy, hX8, hXk8, hXv8⟩ := hD.dk (d := dd.toNat) (by omega) (by omega)
    have hdl := hXk8.1
    have obd8 := hX8.1
    have hcg := fun i => @zunn_cg (rC (sRd (yS Y) rr.toNat)) sy (dSy (sDc (yS Y) dd.toNat)) (dLe (sDc (yS Y) dd.toNat)) hXv8 i
    intro t
    generalize hL : dLe (sDc (yS Y) dd.toNat) = len at *
    induction t with
    | zero =>
      intro i ht hi
      obtain rfl : i = len := by omega
      refine z_iload C dX8_unseenSymbols_19 rfl ?_
      refine z_aload C dX8_unseenSymbols_21 rfl ?_
      refine z_get C dX8_unseenSymbols_23 fl_X8_174 (by first | assumption | ((repeat (first | assumption | exact va_up_self _ _ _ | refine (va_up_ne _ _ (by assumption)).trans ?_)); done) | (simp [va_up, *] <;> rfl)) rfl ?_
      refine z_icmp_geZ (tgt := 74) C dX8_unseenSymbols_26 (by decide) (by omega) (by omega) (fun h26 => ?_) (fun h26 => ?_)
      · refine z_iload C dX8_unseenSymbols_74 rfl ?_
        refine z_iret C hQ dX8_unseenSymbols_76 rfl (by decide) (by decide) ?_
        exact fI.of (.rf hc0) ((zqR_t g1).trans ((zqD_t g8).trans (by rw [hL])))
      · exact absurd h26 (by omega)
    | succ t ih =>
      intro i ht hi
      have hin := hXk8.in (i := i) (by omega)
      have hlr := zlv_rng (rC (sRd (yS Y) rr.toNat)) (hAt sy len (i - 2)) (hAt sy len (i - 1)) (hAt sy len i)
      have hfo := zFo_rng (hAt sy len (i - 2)) (hAt sy len (i - 1))
      have e1 : zunn (rC (sRd (yS Y) rr.toNat)) sy len (i + 1).toNat = zunn (rC (sRd (yS Y) rr.toNat)) sy len i.toNat + (if zlv (rC (sRd (yS Y) rr.toNat)) (hAt sy len (i - 2)) (hAt sy len (i - 1)) (hAt sy len i) = -1 then 1 else 0) := by
        rw [show (i + 1).toNat = i.toNat + 1 by omega, zunn, show ((i.toNat : Nat) : Int) = i by omega]
      have qq := ih (i + 1) (by omega) (by omega)
      rw [← hcg, e1] at qq
      rw [← hcg]
      refine z_iload C dX8_unseenSymbols_19 rfl ?_
      refine z_aload C dX8_unseenSymbols_21 rfl ?_
      refine z_get C dX8_unseenSymbols_23 fl_X8_174 (by first | assumption | ((repeat (first | assumption | exact va_up_self _ _ _ | refine (va_up_ne _ _ (by assumption)).trans ?_)); done) | (simp [va_up, *] <;> rfl)) rfl ?_
      refine z_icmp_geZ (tgt := 74) C dX8_unseenSymbols_26 (by decide) (by omega) (by omega) (fun h26 => ?_) (fun h26 => ?_)
      · exact absurd h26 (by omega)
      · refine z_aload_n C dX8_unseenSymbols_29 rfl ?_
        refine z_get C dX8_unseenSymbols_30 fl_X8_188 (by first | assumption | ((repeat (first | assumption | exact va_up_self _ _ _ | refine (va_up_ne _ _ (by assumption)).trans ?_)); done) | (simp [va_up, *] <;> rfl)) rfl ?_
        refine z_aload C dX8_unseenSymbols_33 rfl ?_
        refine z_iload C dX8_unseenSymbols_35 rfl ?_
        refine z_iconst C dX8_unseenSymbols_37 ?_
        refine z_isubZ C dX8_unseenSymbols_38 ?_
        refine z_callV C dX8_unseenSymbols_39 lk_X8_177 mw_X3_symbolAt mi_X3_symbolAt ms_X3_symbolAt rfl obd8 (k_X3_symbolAt hX8 hXk8 (i := i - 2) (by unfold zR; omega)) rfl (by first | decide | exact Nat.le_of_ble_eq_true rfl) ⟨by decide, by decide, by decide, by decide⟩ (fun _ _ h => False.elim h) (fun v M' hp => ?_)
        obtain ⟨r39, rfl, rfl, hr39⟩ := hp
        subst hr39
        refine z_aload C dX8_unseenSymbols_42 rfl ?_
        refine z_iload C dX8_unseenSymbols_44 rfl ?_
        refine z_iconst C dX8_unseenSymbols_46 ?_
        refine z_isubZ C dX8_unseenSymbols_47 ?_
        refine z_callV C dX8_unseenSymbols_48 lk_X8_177 mw_X3_symbolAt mi_X3_symbolAt ms_X3_symbolAt rfl obd8 (k_X3_symbolAt hX8 hXk8 (i := i - 1) (by unfold zR; omega)) rfl (by first | decide | exact Nat.le_of_ble_eq_true rfl) ⟨by decide, by decide, by decide, by decide⟩ (fun _ _ h => False.elim h) (fun v M' hp => ?_)
        obtain ⟨r48, rfl, rfl, hr48⟩ := hp
        subst hr48
        refine z_aload C dX8_unseenSymbols_51 rfl ?_
        refine z_iload C dX8_unseenSymbols_53 rfl ?_
        refine z_callV C dX8_unseenSymbols_55 lk_X8_177 mw_X3_symbolAt mi_X3_symbolAt ms_X3_symbolAt rfl obd8 (k_X3_symbolAt hX8 hXk8 (i := i) (by unfold zR; omega)) rfl (by first | decide | exact Nat.le_of_ble_eq_true rfl) ⟨by decide, by decide, by decide, by decide⟩ (fun _ _ h => False.elim h) (fun v M' hp => ?_)
        obtain ⟨r55, rfl, rfl, hr55⟩ := hp
        subst hr55
        refine z_callS C dX8_unseenSymbols_58 lk_X8_233 mw_X8_orderOf mst_X8_orderOf (k_X8_orderOf hR.2.2.1 (hXk8.cx i) hin) rfl (by first | decide | exact Nat.le_of_ble_eq_true rfl) ⟨by decide, by decide, by decide, by decide⟩ (fun _ _ h => False.elim h) (fun v M' hp => ?_)
        obtain ⟨r58, rfl, rfl, hr58⟩ := hp
        refine z_iconst C dX8_unseenSymbols_61 ?_
        refine z_icmp_neZ (tgt := 68) C dX8_unseenSymbols_62 (by decide) (by omega) (by omega) (fun h62 => ?_) (fun h62 => ?_)
        · refine z_iincZ C dX8_unseenSymbols_68 rfl (by decide) ?_
          refine z_goto (tgt := 19) C dX8_unseenSymbols_71 (by decide) ?_
          rw [if_neg (by omega), Int.add_zero] at qq
          exact qq
        · refine z_iincZ C dX8_unseenSymbols_65 rfl (by decide) ?_
          refine z_iincZ C dX8_unseenSymbols_68 rfl (by decide) ?_
          refine z_goto (tgt := 19) C dX8_unseenSymbols_71 (by decide) ?_
          rw [if_pos (by omega)] at qq
          exact qq
  refine z_aload_n C dX8_unseenSymbols_0 rfl ?_
  refine z_iload_n C dX8_unseenSymbols_1 rfl ?_
  refine z_callV C dX8_unseenSymbols_2 lk_X8_149 mw_X8_existingReader mi_X8_existingReader ms_X8_existingReader rfl (by first | assumption | ((repeat (first | assumption | exact va_up_self _ _ _ | refine (va_up_ne _ _ (by assumption)).trans ?_)); done) | (simp [va_up, *] <;> rfl)) (k_X8_existingReader hF hD hkk hrr) rfl (by first | decide | exact Nat.le_of_ble_eq_true rfl) ⟨by decide, by decide, by decide, by decide⟩ (fun X M' h => by obtain ⟨rfl, rfl, h⟩ := h; exact z_out C hQ (by decide) (by decide) (fX.o1 (.rf hc0) (zqR_f h))) (fun v M' hp => ?_)
  obtain ⟨rfl, g2, rfl⟩ := hp
  have hro := hD.rdo (i := rr.toNat) (by omega) (by omega)
  have hR := hD.rd (i := rr.toNat) (by omega) (by omega)
  obtain ⟨cn, hco, hcz, hcr⟩ := hD.rdc (i := rr.toNat) (by omega) (by omega)
  have hrk := (hk.1.2.2 rr.toNat (by omega)).1
  refine z_astore_n C dX8_unseenSymbols_5 (by decide) ?_
  refine z_aload_n C dX8_unseenSymbols_6 rfl ?_
  refine z_iload_n C dX8_unseenSymbols_7 rfl ?_
  refine z_callV C dX8_unseenSymbols_8 lk_X8_170 mw_X8_existingDocument mi_X8_existingDocument ms_X8_existingDocument rfl (by first | assumption | ((repeat (first | assumption | exact va_up_self _ _ _ | refine (va_up_ne _ _ (by assumption)).trans ?_)); done) | (simp [va_up, *] <;> rfl)) (k_X8_existingDocument hF hD hkk hdd) rfl (by first | decide | exact Nat.le_of_ble_eq_true rfl) ⟨by decide, by decide, by decide, by decide⟩ (fun X M' h => by obtain ⟨rfl, rfl, h⟩ := h; exact z_out C hQ (by decide) (by decide) (fX.o1 (.rf hc0) ((zqR_t g2).trans (zqD_f h)))) (fun v M' hp => ?_)
  obtain ⟨rfl, g8, rfl⟩ := hp
  obtain ⟨sy, hX8, hXk8, hXv8⟩ := hD.dk (d := dd.toNat) (by omega) (by omega)
  have obd8 := hX8.1
  refine z_astore C dX8_unseenSymbols_11 (by decide) ?_
  refine z_iconst C dX8_unseenSymbols_13 ?_
  refine z_istore C dX8_unseenSymbols_14 (by decide) ?_
  refine z_iconst C dX8_unseenSymbols_16 ?_
  refine z_istore C dX8_unseenSymbols_17 (by decide) ?_
  exact loop g2 g8 (dLe (sDc (yS Y) dd.toNat)).toNat 0 (by have := hXk8.1; omega) (by have := hXk8.1; omega)
noncomputable def q_hardestPosition (S : zSt) (rr dd : Int) : Int × Int := zqR S rr (zqD S dd (0, (zhpn (rC (sRd S rr.toNat)) (dSy (sDc S dd.toNat)) (dLe (sDc S dd.toNat)) (dLe (sDc S dd.toNat)).toNat).1))
set_option maxHeartbeats 4000000 in
set_option maxRecDepth 100000 in
theorem k_X8_hardestPosition {l : Launch} {γ : zG} {M : zM} {U : Nat → Nat} {Y : zSys} {rr dd : Int} (hc : hFc γ M U Y) (hk : yOk Y) (hrr : zR rr) (hdd : zR dd) :
    zCon l γ yX8_hardestPosition cX8_hardestPosition 9 (some .int) [.ref (U 0), .int (zi rr), .int (zi dd)] M 7 125 2 12 (fI γ M U Y (q_hardestPosition (yS Y) rr dd)) (fX γ M U Y (q_hardestPosition (yS Y) rr dd) xIOB xIAE) := by
  have hc0 := hc
  obtain ⟨hI, pn, Z, iF, oF, hZ, hF, hX, hi1, ho1⟩ := hc
  have hob := id hF
  unfold hFo at hob
  have hD : hSt γ M (zUb U 0) (yS Y) := hZ.2.1 ▸ hX.st0
  have hst := hD.ob
  have hkn := hk.1.1
  have hkk := hk.1.nk
  have hRQ := hX.2.2.2.2.2.2.1
  have hok := fun M' => @fOk.rk γ M M' U Y pn Z iF oF hI hZ hF hX hi1 ho1
  refine zEnter [some (.ref (U 0)), some (.int (zi rr)), some (.int (zi dd)), none, none, none, none, none, none] (by decide +kernel) rfl rfl (Nat.le_of_ble_eq_true rfl) ?_
  intro p e s m args below meth c Q C hin hQ
  have n0 : U 0 ∉ [U 11, U 12, U 13] := hRQ.nf hF
  have loop : ∀ (g1 : 0 ≤ rr ∧ rr < sRn (yS Y)) (g8 : 0 ≤ dd ∧ dd < sDn (yS Y)) (t : Nat) (M1 : zM) (i h0 g0 : Int) (x8 : Option Value), dLe (sDc (yS Y) dd.toNat) - i = t → 0 ≤ i ∧ i ≤ dLe (sDc (yS Y) dd.toNat) → (h0, g0) = zhpn (rC (sRd (yS Y) rr.toNat)) (dSy (sDc (yS Y) dd.toNat)) (dLe (sDc (yS Y) dd.toNat)) i.toNat → 0 ≤ g0 ∧ g0 ≤ 27 → zFr M M1 [U 11, U 12, U 13] → hRq γ M1 (U 11) (U 12) (U 13) → zAW p l e { frames := 7, cells := 2, slots := 12, locals := 125 } s m args below meth c γ 9 Q M1 2 12 22 [some (.ref (U 0)), some (.int (zi rr)), some (.int (zi dd)), some (.ref (zUb U 0 (3 + 6 * rr.toNat))), some (.ref (zUb U 0 (27 + 2 * dd.toNat))), some (.int (zi h0)), some (.int (zi g0)), some (.int (zi i)), x8] [] := by
    intro g1 g8
    have hro := hD.rdo (i := rr.toNat) (by omega) (by omega)
    have hR := hD.rd (i := rr.toNat) (by omega) (by omega)
    have hrk := (hk.1.2.2 rr.toNat (by omega)).1
    obtain ⟨sy, hX8, hXk8, hXv8⟩ := hD.dk (d := dd.toNat) (by omega) (by omega)
    have hdl := hXk8.1
    have obd8 := hX8.1
    have hnd := hRQ.nd hX8
    have hnc := hR.2.2.1.disR hRQ
    have nro : zUb U 0 (3 + 6 * rr.toNat) ∉ [U 11, U 12, U 13] := zUn hI (L := [11, 12, 13]) (by omega) (by decide) (by simp; omega)
    have hcg := fun i => @zhpn_cg (rC (sRd (yS Y) rr.toNat)) sy (dSy (sDc (yS Y) dd.toNat)) (dLe (sDc (yS Y) dd.toNat)) hXv8 i
    intro t
    generalize hL : dLe (sDc (yS Y) dd.toNat) = len at *
    induction t with
    | zero =>
      intro M1 i h0 g0 x8 ht hi he hg0 hf hQ1
      obtain rfl : i = len := by omega
      have obd1 := hf.at hnd.1 obd8
      refine z_iload C dX8_hardestPosition_22 rfl ?_
      refine z_aload C dX8_hardestPosition_24 rfl ?_
      refine z_get C dX8_hardestPosition_26 fl_X8_174 (by first | assumption | ((repeat (first | assumption | exact va_up_self _ _ _ | refine (va_up_ne _ _ (by assumption)).trans ?_)); done) | (simp [va_up, *] <;> rfl)) rfl ?_
      refine z_icmp_geZ (tgt := 67) C dX8_hardestPosition_29 (by decide) (by omega) (by omega) (fun h29 => ?_) (fun h29 => ?_)
      · refine z_iload C dX8_hardestPosition_67 rfl ?_
        refine z_iret C hQ dX8_hardestPosition_69 rfl (by decide) (by decide) ?_
        exact fI.of (hok _ hf hQ1) ((zqR_t g1).trans ((zqD_t g8).trans (by rw [hL, ← he])))
      · exact absurd h29 (by omega)
    | succ t ih =>
      intro M1 i h0 g0 x8 ht hi he hg0 hf hQ1
      have obd1 := hf.at hnd.1 obd8
      have hro1 := hf.at nro hro
      have hF1 := hF.fr hf n0
      have ob1 := id hF1
      unfold hFo at ob1
      have e1 : zhpn (rC (sRd (yS Y) rr.toNat)) sy len (i + 1).toNat = if (zhpn (rC (sRd (yS Y) rr.toNat)) sy len i.toNat).2 < zrp (rC (sRd (yS Y) rr.toNat)) sy len i then (i, zrp (rC (sRd (yS Y) rr.toNat)) sy len i) else zhpn (rC (sRd (yS Y) rr.toNat)) sy len i.toNat := by
        rw [show (i + 1).toNat = i.toNat + 1 by omega, zhpn, show ((i.toNat : Nat) : Int) = i by omega]
      have qq := fun M2 h1 g1 y8 e q1 q2 q3 => ih M2 (i + 1) h1 g1 y8 (by omega) (by omega) e q1 q2 q3
      rw [← hcg] at he
      rw [← hcg, e1, ← he] at qq
      refine z_iload C dX8_hardestPosition_22 rfl ?_
      refine z_aload C dX8_hardestPosition_24 rfl ?_
      refine z_get C dX8_hardestPosition_26 fl_X8_174 (by first | assumption | ((repeat (first | assumption | exact va_up_self _ _ _ | refine (va_up_ne _ _ (by assumption)).trans ?_)); done) | (simp [va_up, *] <;> rfl)) rfl ?_
      refine z_icmp_geZ (tgt := 67) C dX8_hardestPosition_29 (by decide) (by omega) (by omega) (fun h29 => ?_) (fun h29 => ?_)
      · exact absurd h29 (by omega)
      · refine z_aload_n C dX8_hardestPosition_32 rfl ?_
        refine z_aload_n C dX8_hardestPosition_33 rfl ?_
        refine z_get C dX8_hardestPosition_34 fl_X8_188 (by first | assumption | ((repeat (first | assumption | exact va_up_self _ _ _ | refine (va_up_ne _ _ (by assumption)).trans ?_)); done) | (simp [va_up, *] <;> rfl)) rfl ?_
        refine z_aload C dX8_hardestPosition_37 rfl ?_
        refine z_iload C dX8_hardestPosition_39 rfl ?_
        refine z_callV C dX8_hardestPosition_41 lk_X8_253 mw_X8_rankOfPosition mi_X8_rankOfPosition ms_X8_rankOfPosition rfl (by first | assumption | ((repeat (first | assumption | exact va_up_self _ _ _ | refine (va_up_ne _ _ (by assumption)).trans ?_)); done) | (simp [va_up, *] <;> rfl)) (k_X8_rankOfPosition hF1 hQ1 (hR.2.2.1.fr hf hnc.1 hnc.2.1 hnc.2.2) (hX8.fr hf hnd.1 hnd.2) hXk8 (pos := i) (by omega)) rfl (by first | decide | exact Nat.le_of_ble_eq_true rfl) ⟨by decide, by decide, by decide, by decide⟩ (fun _ _ h => False.elim h) (fun v M' hp => ?_)
        obtain ⟨r41, rfl, f41, hQ41, hr41, hz41⟩ := hp
        rw [← hr41] at qq
        refine z_istore C dX8_hardestPosition_44 (by decide) ?_
        refine z_iload C dX8_hardestPosition_46 rfl ?_
        refine z_iload C dX8_hardestPosition_48 rfl ?_
        refine z_icmp_leZ (tgt := 61) C dX8_hardestPosition_50 (by decide) (by omega) (by omega) (fun h50 => ?_) (fun h50 => ?_)
        · refine z_iincZ C dX8_hardestPosition_61 rfl (by decide) ?_
          refine z_goto (tgt := 22) C dX8_hardestPosition_64 (by decide) ?_
          exact qq _ h0 g0 _ (by rw [if_neg (by show ¬ g0 < r41; omega)]) hg0 (hf.tr f41 (fun _ h => h) (fun _ h => h)) hQ41
        · refine z_iload C dX8_hardestPosition_53 rfl ?_
          refine z_istore C dX8_hardestPosition_55 (by decide) ?_
          refine z_iload C dX8_hardestPosition_57 rfl ?_
          refine z_istore C dX8_hardestPosition_59 (by decide) ?_
          refine z_iincZ C dX8_hardestPosition_61 rfl (by decide) ?_
          refine z_goto (tgt := 22) C dX8_hardestPosition_64 (by decide) ?_
          exact qq _ i r41 _ (by rw [if_pos (by show g0 < r41; omega)]) (by omega) (hf.tr f41 (fun _ h => h) (fun _ h => h)) hQ41
  refine z_aload_n C dX8_hardestPosition_0 rfl ?_
  refine z_iload_n C dX8_hardestPosition_1 rfl ?_
  refine z_callV C dX8_hardestPosition_2 lk_X8_149 mw_X8_existingReader mi_X8_existingReader ms_X8_existingReader rfl (by first | assumption | ((repeat (first | assumption | exact va_up_self _ _ _ | refine (va_up_ne _ _ (by assumption)).trans ?_)); done) | (simp [va_up, *] <;> rfl)) (k_X8_existingReader hF hD hkk hrr) rfl (by first | decide | exact Nat.le_of_ble_eq_true rfl) ⟨by decide, by decide, by decide, by decide⟩ (fun X M' h => by obtain ⟨rfl, rfl, h⟩ := h; exact z_out C hQ (by decide) (by decide) (fX.o1 (.rf hc0) (zqR_f h))) (fun v M' hp => ?_)
  obtain ⟨rfl, g2, rfl⟩ := hp
  have hro := hD.rdo (i := rr.toNat) (by omega) (by omega)
  have hR := hD.rd (i := rr.toNat) (by omega) (by omega)
  obtain ⟨cn, hco, hcz, hcr⟩ := hD.rdc (i := rr.toNat) (by omega) (by omega)
  have hrk := (hk.1.2.2 rr.toNat (by omega)).1
  refine z_astore_n C dX8_hardestPosition_5 (by decide) ?_
  refine z_aload_n C dX8_hardestPosition_6 rfl ?_
  refine z_iload_n C dX8_hardestPosition_7 rfl ?_
  refine z_callV C dX8_hardestPosition_8 lk_X8_170 mw_X8_existingDocument mi_X8_existingDocument ms_X8_existingDocument rfl (by first | assumption | ((repeat (first | assumption | exact va_up_self _ _ _ | refine (va_up_ne _ _ (by assumption)).trans ?_)); done) | (simp [va_up, *] <;> rfl)) (k_X8_existingDocument hF hD hkk hdd) rfl (by first | decide | exact Nat.le_of_ble_eq_true rfl) ⟨by decide, by decide, by decide, by decide⟩ (fun X M' h => by obtain ⟨rfl, rfl, h⟩ := h; exact z_out C hQ (by decide) (by decide) (fX.o1 (.rf hc0) ((zqR_t g2).trans (zqD_f h)))) (fun v M' hp => ?_)
  obtain ⟨rfl, g8, rfl⟩ := hp
  obtain ⟨sy, hX8, hXk8, hXv8⟩ := hD.dk (d := dd.toNat) (by omega) (by omega)
  have obd8 := hX8.1
  refine z_astore C dX8_hardestPosition_11 (by decide) ?_
  refine z_iconst C dX8_hardestPosition_13 ?_
  refine z_istore C dX8_hardestPosition_14 (by decide) ?_
  refine z_iconst C dX8_hardestPosition_16 ?_
  refine z_istore C dX8_hardestPosition_17 (by decide) ?_
  refine z_iconst C dX8_hardestPosition_19 ?_
  refine z_istore C dX8_hardestPosition_20 (by decide) ?_
  exact loop g2 g8 (dLe (sDc (yS Y) dd.toNat)).toNat _ 0 0 0 none (by have := hXk8.1; omega) (by have := hXk8.1; omega) rfl (by omega) zFr.rf hRQ
noncomputable def q_totalBits (S : zSt) (rr dd : Int) : Int × Int := zqR S rr (zqD S dd (0, zbtn (rC (sRd S rr.toNat)) (rMe (sRd S rr.toNat)) (dSy (sDc S dd.toNat)) (dLe (sDc S dd.toNat)) (dLe (sDc S dd.toNat)).toNat))
set_option maxHeartbeats 4000000 in
set_option maxRecDepth 100000 in
theorem k_X8_totalBits {l : Launch} {γ : zG} {M : zM} {U : Nat → Nat} {Y : zSys} {rr dd : Int} (hc : hFc γ M U Y) (hk : yOk Y) (hrr : zR rr) (hdd : zR dd) :
    zCon l γ yX8_totalBits cX8_totalBits 7 (some .int) [.ref (U 0), .int (zi rr), .int (zi dd)] M 7 104 2 12 (fI γ M U Y (q_totalBits (yS Y) rr dd)) (fX γ M U Y (q_totalBits (yS Y) rr dd) xIOB xIAE) := by
  have hc0 := hc
  obtain ⟨hI, pn, Z, iF, oF, hZ, hF, hX, hi1, ho1⟩ := hc
  have hob := id hF
  unfold hFo at hob
  have hD : hSt γ M (zUb U 0) (yS Y) := hZ.2.1 ▸ hX.st0
  have hst := hD.ob
  have hkn := hk.1.1
  have hkk := hk.1.nk
  have hRQ := hX.2.2.2.2.2.2.1
  have hok := fun M' => @fOk.rk γ M M' U Y pn Z iF oF hI hZ hF hX hi1 ho1
  refine zEnter [some (.ref (U 0)), some (.int (zi rr)), some (.int (zi dd)), none, none, none, none] (by decide +kernel) rfl rfl (Nat.le_of_ble_eq_true rfl) ?_
  intro p e s m args below meth c Q C hin hQ
  obtain ⟨T0, B0, E0, mk0, hch⟩ := hX.2.2.2.2.2.2.2.1
  have n0 : U 0 ∉ [U 14] := zUn hI (L := [14]) (by decide) (by decide) (by decide)
  have loop : ∀ (g1 : 0 ≤ rr ∧ rr < sRn (yS Y)) (g8 : 0 ≤ dd ∧ dd < sDn (yS Y)) (t : Nat) (M1 : zM) (i T1 B1 E1 : Int) (mk1 : Int32), dLe (sDc (yS Y) dd.toNat) - i = t → 0 ≤ i ∧ i ≤ dLe (sDc (yS Y) dd.toNat) → zFr M M1 [U 14] → hCh γ M1 (U 14) T1 B1 E1 mk1 → zAW p l e { frames := 7, cells := 2, slots := 12, locals := 104 } s m args below meth c γ 7 Q M1 2 12 19 [some (.ref (U 0)), some (.int (zi rr)), some (.int (zi dd)), some (.ref (zUb U 0 (3 + 6 * rr.toNat))), some (.ref (zUb U 0 (27 + 2 * dd.toNat))), some (.int (zi (zbtn (rC (sRd (yS Y) rr.toNat)) (rMe (sRd (yS Y) rr.toNat)) (dSy (sDc (yS Y) dd.toNat)) (dLe (sDc (yS Y) dd.toNat)) i.toNat))), some (.int (zi i))] [] := by
    intro g1 g8
    have hro := hD.rdo (i := rr.toNat) (by omega) (by omega)
    have hR := hD.rd (i := rr.toNat) (by omega) (by omega)
    have hrk := (hk.1.2.2 rr.toNat (by omega)).1
    obtain ⟨sy, hX8, hXk8, hXv8⟩ := hD.dk (d := dd.toNat) (by omega) (by omega)
    have hdl := hXk8.1
    have obd8 := hX8.1
    have nd1 : zUb U 0 (27 + 2 * dd.toNat) ∉ [U 14] := zUn hI (L := [14]) (by omega) (by decide) (by simp; omega)
    have nd2 : zUb U 0 (28 + 2 * dd.toNat) ∉ [U 14] := zUn hI (L := [14]) (by omega) (by decide) (by simp; omega)
    have nR : ∀ j, j < 6 → dRa (zUb U 0) rr.toNat j ∉ [U 14] := fun j hj => zUn hI (L := [14]) (a := 16 + 43 * 0 + (3 + 6 * rr.toNat + j)) (by omega) (by decide) (by simp; omega)
    have hcg := fun i => @zbtn_cg (rC (sRd (yS Y) rr.toNat)) (rMe (sRd (yS Y) rr.toNat)) sy (dSy (sDc (yS Y) dd.toNat)) (dLe (sDc (yS Y) dd.toNat)) hXv8 i
    intro t
    generalize hL : dLe (sDc (yS Y) dd.toNat) = len at *
    induction t with
    | zero =>
      intro M1 i T1 B1 E1 mk1 ht hi hf hH1
      obtain rfl : i = len := by omega
      have obd1 := hf.at nd1 obd8
      refine z_iload C dX8_totalBits_19 rfl ?_
      refine z_aload C dX8_totalBits_21 rfl ?_
      refine z_get C dX8_totalBits_23 fl_X8_174 (by first | assumption | ((repeat (first | assumption | exact va_up_self _ _ _ | refine (va_up_ne _ _ (by assumption)).trans ?_)); done) | (simp [va_up, *] <;> rfl)) rfl ?_
      refine z_icmp_geZ (tgt := 80) C dX8_totalBits_26 (by decide) (by omega) (by omega) (fun h26 => ?_) (fun h26 => ?_)
      · refine z_iload C dX8_totalBits_80 rfl ?_
        refine z_iret C hQ dX8_totalBits_82 rfl (by decide) (by decide) ?_
        exact fI.of (.ch hI hZ hF hX hi1 ho1 hf hH1) ((zqR_t g1).trans ((zqD_t g8).trans (by rw [hL])))
      · exact absurd h26 (by omega)
    | succ t ih =>
      intro M1 i T1 B1 E1 mk1 ht hi hf hH1
      have hX8 := hX8.fr hf nd1 nd2
      have obd1 := hf.at nd1 obd8
      have hF1 := hF.fr hf n0
      have ob1 := id hF1
      unfold hFo at ob1
      have hR1 := hR.fr hf nR
      have och := id hH1
      unfold hCh at och
      have hin := hXk8.in (i := i) (by omega)
      have e1 : zbtn (rC (sRd (yS Y) rr.toNat)) (rMe (sRd (yS Y) rr.toNat)) sy len (i + 1).toNat = zbtn (rC (sRd (yS Y) rr.toNat)) (rMe (sRd (yS Y) rr.toNat)) sy len i.toNat + zbt 62 (zcT (rC (sRd (yS Y) rr.toNat)) (hAt sy len (i - 2)) (hAt sy len (i - 1)) (hAt sy len i) (rMe (sRd (yS Y) rr.toNat))) (zcB (rC (sRd (yS Y) rr.toNat)) (hAt sy len (i - 2)) (hAt sy len (i - 1)) (hAt sy len i) (rMe (sRd (yS Y) rr.toNat))) := by
        rw [show (i + 1).toNat = i.toNat + 1 by omega, zbtn, show ((i.toNat : Nat) : Int) = i by omega]
      have qq := fun M2 T2 B2 E2 mk2 => ih M2 (i + 1) T2 B2 E2 mk2 (by omega) (by omega)
      rw [← hcg, e1] at qq
      rw [← hcg]
      refine z_iload C dX8_totalBits_19 rfl ?_
      refine z_aload C dX8_totalBits_21 rfl ?_
      refine z_get C dX8_totalBits_23 fl_X8_174 (by first | assumption | ((repeat (first | assumption | exact va_up_self _ _ _ | refine (va_up_ne _ _ (by assumption)).trans ?_)); done) | (simp [va_up, *] <;> rfl)) rfl ?_
      refine z_icmp_geZ (tgt := 80) C dX8_totalBits_26 (by decide) (by omega) (by omega) (fun h26 => ?_) (fun h26 => ?_)
      · exact absurd h26 (by omega)
      · refine z_aload_n C dX8_totalBits_29 rfl ?_
        refine z_get C dX8_totalBits_30 fl_X8_74 (by first | assumption | ((repeat (first | assumption | exact va_up_self _ _ _ | refine (va_up_ne _ _ (by assumption)).trans ?_)); done) | (simp [va_up, *] <;> rfl)) rfl ?_
        refine z_aload_n C dX8_totalBits_33 rfl ?_
        refine z_aload C dX8_totalBits_34 rfl ?_
        refine z_iload C dX8_totalBits_36 rfl ?_
        refine z_iconst C dX8_totalBits_38 ?_
        refine z_isubZ C dX8_totalBits_39 ?_
        refine z_callV C dX8_totalBits_40 lk_X8_177 mw_X3_symbolAt mi_X3_symbolAt ms_X3_symbolAt rfl obd1 (k_X3_symbolAt hX8 hXk8 (i := i - 2) (by unfold zR; omega)) rfl (by first | decide | exact Nat.le_of_ble_eq_true rfl) ⟨by decide, by decide, by decide, by decide⟩ (fun _ _ h => False.elim h) (fun v M' hp => ?_)
        obtain ⟨r40, rfl, rfl, hr40⟩ := hp
        subst hr40
        refine z_aload C dX8_totalBits_43 rfl ?_
        refine z_iload C dX8_totalBits_45 rfl ?_
        refine z_iconst C dX8_totalBits_47 ?_
        refine z_isubZ C dX8_totalBits_48 ?_
        refine z_callV C dX8_totalBits_49 lk_X8_177 mw_X3_symbolAt mi_X3_symbolAt ms_X3_symbolAt rfl obd1 (k_X3_symbolAt hX8 hXk8 (i := i - 1) (by unfold zR; omega)) rfl (by first | decide | exact Nat.le_of_ble_eq_true rfl) ⟨by decide, by decide, by decide, by decide⟩ (fun _ _ h => False.elim h) (fun v M' hp => ?_)
        obtain ⟨r49, rfl, rfl, hr49⟩ := hp
        subst hr49
        refine z_aload C dX8_totalBits_52 rfl ?_
        refine z_iload C dX8_totalBits_54 rfl ?_
        refine z_callV C dX8_totalBits_56 lk_X8_177 mw_X3_symbolAt mi_X3_symbolAt ms_X3_symbolAt rfl obd1 (k_X3_symbolAt hX8 hXk8 (i := i) (by unfold zR; omega)) rfl (by first | decide | exact Nat.le_of_ble_eq_true rfl) ⟨by decide, by decide, by decide, by decide⟩ (fun _ _ h => False.elim h) (fun v M' hp => ?_)
        obtain ⟨r56, rfl, rfl, hr56⟩ := hp
        subst hr56
        refine z_callV C dX8_totalBits_59 lk_X8_270 mw_X1_find mi_X1_find ms_X1_find rfl (by first | assumption | ((repeat (first | assumption | exact va_up_self _ _ _ | refine (va_up_ne _ _ (by assumption)).trans ?_)); done) | (simp [va_up, *] <;> rfl)) (k_X1_find hH1 hR1 (hXk8.cx i) hin hrk.1) rfl (by first | decide | exact Nat.le_of_ble_eq_true rfl) ⟨by decide, by decide, by decide, by decide⟩ (fun _ _ h => False.elim h) (fun v M' hp => ?_)
        obtain ⟨rfl, f59, mk2, hH2⟩ := hp
        have ob2 := f59.at n0 ob1
        have och2 := id hH2
        unfold hCh at och2
        have hTB := zcT_rng hrk.2.2.1 (b := hAt sy len (i - 2)) (p := hAt sy len (i - 1)) (s := hAt sy len i) (me := rMe (sRd (yS Y) rr.toNat)) hin
        refine z_iload C dX8_totalBits_62 rfl ?_
        refine z_aload_n C dX8_totalBits_64 rfl ?_
        refine z_get C dX8_totalBits_65 fl_X8_74 (by first | assumption | ((repeat (first | assumption | exact va_up_self _ _ _ | refine (va_up_ne _ _ (by assumption)).trans ?_)); done) | (simp [va_up, *] <;> rfl)) rfl ?_
        refine z_callV C dX8_totalBits_68 lk_X8_250 mw_X1_bits mi_X1_bits ms_X1_bits rfl (by first | assumption | ((repeat (first | assumption | exact va_up_self _ _ _ | refine (va_up_ne _ _ (by assumption)).trans ?_)); done) | (simp [va_up, *] <;> rfl)) (k_X1_bits hH2 hTB.1 hTB.2) rfl (by first | decide | exact Nat.le_of_ble_eq_true rfl) ⟨by decide, by decide, by decide, by decide⟩ (fun _ _ h => False.elim h) (fun v M' hp => ?_)
        obtain ⟨r68, rfl, rfl, hr68⟩ := hp
        rw [← hr68] at qq
        refine z_iaddZ C dX8_totalBits_71 ?_
        refine z_istore C dX8_totalBits_72 (by decide) ?_
        refine z_iincZ C dX8_totalBits_74 rfl (by decide) ?_
        refine z_goto (tgt := 19) C dX8_totalBits_77 (by decide) ?_
        exact qq _ _ _ _ _ (hf.tr f59 (fun _ h => h) (fun _ h => h)) hH2
  refine z_aload_n C dX8_totalBits_0 rfl ?_
  refine z_iload_n C dX8_totalBits_1 rfl ?_
  refine z_callV C dX8_totalBits_2 lk_X8_149 mw_X8_existingReader mi_X8_existingReader ms_X8_existingReader rfl (by first | assumption | ((repeat (first | assumption | exact va_up_self _ _ _ | refine (va_up_ne _ _ (by assumption)).trans ?_)); done) | (simp [va_up, *] <;> rfl)) (k_X8_existingReader hF hD hkk hrr) rfl (by first | decide | exact Nat.le_of_ble_eq_true rfl) ⟨by decide, by decide, by decide, by decide⟩ (fun X M' h => by obtain ⟨rfl, rfl, h⟩ := h; exact z_out C hQ (by decide) (by decide) (fX.o1 (.rf hc0) (zqR_f h))) (fun v M' hp => ?_)
  obtain ⟨rfl, g2, rfl⟩ := hp
  have hro := hD.rdo (i := rr.toNat) (by omega) (by omega)
  have hR := hD.rd (i := rr.toNat) (by omega) (by omega)
  obtain ⟨cn, hco, hcz, hcr⟩ := hD.rdc (i := rr.toNat) (by omega) (by omega)
  have hrk := (hk.1.2.2 rr.toNat (by omega)).1
  refine z_astore_n C dX8_totalBits_5 (by decide) ?_
  refine z_aload_n C dX8_totalBits_6 rfl ?_
  refine z_iload_n C dX8_totalBits_7 rfl ?_
  refine z_callV C dX8_totalBits_8 lk_X8_170 mw_X8_existingDocument mi_X8_existingDocument ms_X8_existingDocument rfl (by first | assumption | ((repeat (first | assumption | exact va_up_self _ _ _ | refine (va_up_ne _ _ (by assumption)).trans ?_)); done) | (simp [va_up, *] <;> rfl)) (k_X8_existingDocument hF hD hkk hdd) rfl (by first | decide | exact Nat.le_of_ble_eq_true rfl) ⟨by decide, by decide, by decide, by decide⟩ (fun X M' h => by obtain ⟨rfl, rfl, h⟩ := h; exact z_out C hQ (by decide) (by decide) (fX.o1 (.rf hc0) ((zqR_t g2).trans (zqD_f h)))) (fun v M' hp => ?_)
  obtain ⟨rfl, g8, rfl⟩ := hp
  obtain ⟨sy, hX8, hXk8, hXv8⟩ := hD.dk (d := dd.toNat) (by omega) (by omega)
  have obd8 := hX8.1
  refine z_astore C dX8_totalBits_11 (by decide) ?_
  refine z_iconst C dX8_totalBits_13 ?_
  refine z_istore C dX8_totalBits_14 (by decide) ?_
  refine z_iconst C dX8_totalBits_16 ?_
  refine z_istore C dX8_totalBits_17 (by decide) ?_
  exact loop g2 g8 (dLe (sDc (yS Y) dd.toNat)).toNat _ 0 T0 B0 E0 mk0 (by have := hXk8.1; omega) (by have := hXk8.1; omega) zFr.rf hch

