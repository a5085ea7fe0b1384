/-! the face's answers: how the call ends (0: well, 1, 2: by its first, second exception), the number -/
def zqR (S : zSt) (r : Int) (q : Int × Int) : Int × Int := if 0 ≤ r ∧ r < sRn S then q else (1, 0)
def zqD (S : zSt) (d : Int) (q : Int × Int) : Int × Int := if 0 ≤ d ∧ d < sDn S then q else (1, 0)
noncomputable def zq2 (P : Prop) (q : Int × Int) : Int × Int := zif P q (2, 0)
theorem zqR_t {S : zSt} {r : Int} {q : Int × Int} (h : 0 ≤ r ∧ r < sRn S) : zqR S r q = q := if_pos h
theorem zqR_f {S : zSt} {r : Int} {q : Int × Int} (h : ¬ (0 ≤ r ∧ r < sRn S)) : zqR S r q = (1, 0) := if_neg h
theorem zqD_t {S : zSt} {r : Int} {q : Int × Int} (h : 0 ≤ r ∧ r < sDn S) : zqD S r q = q := if_pos h
theorem zqD_f {S : zSt} {r : Int} {q : Int × Int} (h : ¬ (0 ≤ r ∧ r < sDn S)) : zqD S r q = (1, 0) := if_neg h
theorem zq2_t {P : Prop} {q : Int × Int} (h : P) : zq2 P q = q := zif_t h
theorem zq2_f {P : Prop} {q : Int × Int} (h : ¬ P) : zq2 P q = (2, 0) := zif_f h
def fOk (γ : zG) (M M' : zM) (U : Nat → Nat) (Y : zSys) : Prop := zFr M M' (zFU U) ∧ hFc γ M' U Y
/-- a good end with an int -/
def fI (γ : zG) (M : zM) (U : Nat → Nat) (Y : zSys) (q : Int × Int) : Option Value → zM → Prop := fun v M' => fOk γ M M' U Y ∧ q.1 = 0 ∧ v = some (.int (zi q.2))
/-- an end by an exception -/
def fX (γ : zG) (M : zM) (U : Nat → Nat) (Y : zSys) (q : Int × Int) (e1 e2 : String) : String → zM → Prop := fun X M' => fOk γ M M' U Y ∧ ((q.1 = 1 ∧ X = e1) ∨ (q.1 = 2 ∧ X = e2))
theorem fI.of {γ : zG} {M M' : zM} {U : Nat → Nat} {Y : zSys} {q : Int × Int} {x : Int} (h : fOk γ M M' U Y) (hq : q = (0, x)) : fI γ M U Y q (some (.int (zi x))) M' := by
  subst hq
  exact ⟨h, rfl, rfl⟩
theorem fX.o1 {γ : zG} {M M' : zM} {U : Nat → Nat} {Y : zSys} {q : Int × Int} {e1 e2 : String} (h : fOk γ M M' U Y) (hq : q = (1, 0)) : fX γ M U Y q e1 e2 e1 M' := by
  subst hq
  exact ⟨h, .inl ⟨rfl, rfl⟩⟩
theorem fX.o2 {γ : zG} {M M' : zM} {U : Nat → Nat} {Y : zSys} {q : Int × Int} {e1 e2 : String} (h : fOk γ M M' U Y) (hq : q = (2, 0)) : fX γ M U Y q e1 e2 e2 M' := by
  subst hq
  exact ⟨h, .inr ⟨rfl, rfl⟩⟩
theorem fOk.rf {γ : zG} {M : zM} {U : Nat → Nat} {Y : zSys} (h : hFc γ M U Y) : fOk γ M M U Y := ⟨zFr.rf, h⟩
theorem hSt.rdo {γ : zG} {M : zM} {D : Nat → Nat} {S : zSt} (h : hSt γ M D S) {i : Nat} (hi : i < 4) (h' : i < sRn S) : M (D (3 + 6 * i)) = some (.inr (6, [.ref (D (3 + 6 * i + 1)), .int (zi (rNl (sRd S i))), .int (zi (rMe (sRd S i))), .ref (D (3 + 6 * i + 2)), .int (zi (rTr (sRd S i))), .ref (D (3 + 6 * i + 5))])) := (h.rd hi h').1
theorem hSt.rdc {γ : zG} {M : zM} {D : Nat → Nat} {S : zSt} (h : hSt γ M D S) {i : Nat} (hi : i < 4) (h' : i < sRn S) : ∃ n : Int, M (D (3 + 6 * i + 2)) = some (.inr (2, [.ref (D (3 + 6 * i + 3)), .ref (D (3 + 6 * i + 4)), .int (zi n)])) ∧ n = zsum (zind (rC (sRd S i))) 0 20439 ∧ 0 ≤ n ∧ n ≤ 643 := by
  obtain ⟨-, n, ks, vs, hC, hS, hR⟩ := (h.rd hi h').2.2.1
  exact ⟨n, hC.1, (hR.size hS).symm, hS.1⟩
set_option maxHeartbeats 4000000 in
set_option maxRecDepth 100000 in
theorem k_X8_existingReader_in {l : Launch} {γ : zG} {M : zM} {U : Nat → Nat} {pn cnt ec ep : Int} {S : zSt} {i : Int} (hF : hFo γ M U pn cnt ec ep) (hD : hSt γ M (zUb U 0) S) (hk : zNk S) (hi : 0 ≤ i ∧ i < sRn S) :
    zCon l γ yX8_existingReader cX8_existingReader 3 (some (.object "TrigramReaders$Reader")) [.ref (U 0), .int (zi i)] M 1 21 0 0 (fun v' M' => M' = M ∧ v' = some (.ref (zUb U 0 (3 + 6 * i.toNat)))) (fun _ _ => False) := by
  have hob := id hF
  unfold hFo at hob
  have hst := hD.ob
  have hkr := hk.1
  refine zEnter [some (.ref (U 0)), some (.int (zi i)), none] (by decide +kernel) rfl rfl (Nat.le_of_ble_eq_true rfl) ?_
  intro p e s m args below meth c Q C hin hQ
  refine z_aload_n C dX8_existingReader_0 rfl ?_
  refine z_get C dX8_existingReader_1 fl_X8_13 (by first | assumption | ((repeat (first | assumption | exact va_up_self _ _ _ | refine (va_up_ne _ _ (by assumption)).trans ?_)); done) | (simp [va_up, *] <;> rfl)) rfl ?_
  refine z_iload_n C dX8_existingReader_4 rfl ?_
  refine z_callV C dX8_existingReader_5 lk_X8_361 mw_X7_readerAt mi_X7_readerAt ms_X7_readerAt rfl (by first | assumption | ((repeat (first | assumption | exact va_up_self _ _ _ | refine (va_up_ne _ _ (by assumption)).trans ?_)); done) | (simp [va_up, *] <;> rfl)) (k_X7_readerAt hD hk (by unfold zR; omega)) rfl (by first | decide | exact Nat.le_of_ble_eq_true rfl) ⟨by decide, by decide, by decide, by decide⟩ (fun _ _ h => False.elim h) (fun v M' hp => ?_)
  obtain ⟨rfl, hq5⟩ := hp
  have hq6 := hq5.resolve_right (fun w => w.1 hi)
  obtain ⟨-, rfl⟩ := hq6
  refine z_astore_n C dX8_existingReader_8 (by decide) ?_
  refine z_aload_n C dX8_existingReader_9 rfl ?_
  refine z_ifnonnull (tgt := 24) C dX8_existingReader_10 (by decide) ?_
  refine z_aload_n C dX8_existingReader_24 rfl ?_
  refine z_aret C hQ dX8_existingReader_25 (by first | exact Or.inl ⟨_, rfl⟩ | exact Or.inr ⟨_, rfl⟩) (Or.inr ⟨_, rfl⟩) (by decide) (by decide) ?_
  exact ⟨rfl, rfl⟩
set_option maxHeartbeats 4000000 in
set_option maxRecDepth 100000 in
theorem k_X8_existingDocument_in {l : Launch} {γ : zG} {M : zM} {U : Nat → Nat} {pn cnt ec ep : Int} {S : zSt} {i : Int} (hF : hFo γ M U pn cnt ec ep) (hD : hSt γ M (zUb U 0) S) (hk : zNk S) (hi : 0 ≤ i ∧ i < sDn S) :
    zCon l γ yX8_existingDocument cX8_existingDocument 3 (some (.object "TrigramReaders$Document")) [.ref (U 0), .int (zi i)] M 1 21 0 0 (fun v' M' => M' = M ∧ v' = some (.ref (zUb U 0 (27 + 2 * i.toNat)))) (fun _ _ => False) := by
  have hob := id hF
  unfold hFo at hob
  have hst := hD.ob
  have hkr := hk.2.1
  refine zEnter [some (.ref (U 0)), some (.int (zi i)), none] (by decide +kernel) rfl rfl (Nat.le_of_ble_eq_true rfl) ?_
  intro p e s m args below meth c Q C hin hQ
  refine z_aload_n C dX8_existingDocument_0 rfl ?_
  refine z_get C dX8_existingDocument_1 fl_X8_13 (by first | assumption | ((repeat (first | assumption | exact va_up_self _ _ _ | refine (va_up_ne _ _ (by assumption)).trans ?_)); done) | (simp [va_up, *] <;> rfl)) rfl ?_
  refine z_iload_n C dX8_existingDocument_4 rfl ?_
  refine z_callV C dX8_existingDocument_5 lk_X8_369 mw_X7_documentAt mi_X7_documentAt ms_X7_documentAt rfl (by first | assumption | ((repeat (first | assumption | exact va_up_self _ _ _ | refine (va_up_ne _ _ (by assumption)).trans ?_)); done) | (simp [va_up, *] <;> rfl)) (k_X7_documentAt hD hk (by unfold zR; omega)) rfl (by first | decide | exact Nat.le_of_ble_eq_true rfl) ⟨by decide, by decide, by decide, by decide⟩ (fun _ _ h => False.elim h) (fun v M' hp => ?_)
  obtain ⟨rfl, hq5⟩ := hp
  have hq6 := hq5.resolve_right (fun w => w.1 hi)
  obtain ⟨-, rfl⟩ := hq6
  refine z_astore_n C dX8_existingDocument_8 (by decide) ?_
  refine z_aload_n C dX8_existingDocument_9 rfl ?_
  refine z_ifnonnull (tgt := 24) C dX8_existingDocument_10 (by decide) ?_
  refine z_aload_n C dX8_existingDocument_24 rfl ?_
  refine z_aret C hQ dX8_existingDocument_25 (by first | exact Or.inl ⟨_, rfl⟩ | exact Or.inr ⟨_, rfl⟩) (Or.inr ⟨_, rfl⟩) (by decide) (by decide) ?_
  exact ⟨rfl, rfl⟩
set_option maxHeartbeats 4000000 in
set_option maxRecDepth 100000 in
theorem k_X8_errorCode {l : Launch} {γ : zG} {M : zM} {U : Nat → Nat} {Y : zSys} (hc : hFc γ M U Y) (hk : yOk Y) :
    zCon l γ yX8_errorCode cX8_errorCode 1 (some .int) [.ref (U 0)] M 0 0 0 0 (fI γ M U Y (0, yEc Y)) (fun _ _ => False) := by
  have hc0 := hc
  obtain ⟨hI, pn, Z, iF, oF, hZ, hF, hX, hi1, ho1⟩ := hc
  have hob := id hF
  unfold hFo at hob
  have hD : hSt γ M (zUb U 0) (yS Y) := hZ.2.1 ▸ hX.st0
  have hst := hD.ob
  have hkn := hk.1.1
  have hkk := hk.1.nk
  refine zEnter [some (.ref (U 0))] (by decide +kernel) rfl rfl (Nat.le_of_ble_eq_true rfl) ?_
  intro p e s m args below meth c Q C hin hQ
  refine z_aload_n C dX8_errorCode_0 rfl ?_
  refine z_get C dX8_errorCode_1 fl_X8_51 (by first | assumption | ((repeat (first | assumption | exact va_up_self _ _ _ | refine (va_up_ne _ _ (by assumption)).trans ?_)); done) | (simp [va_up, *] <;> rfl)) rfl ?_
  refine z_iret C hQ dX8_errorCode_4 rfl (by decide) (by decide) ?_
  exact fI.of (.rf hc0) rfl
set_option maxHeartbeats 4000000 in
set_option maxRecDepth 100000 in
theorem k_X8_readerCount {l : Launch} {γ : zG} {M : zM} {U : Nat → Nat} {Y : zSys} (hc : hFc γ M U Y) (hk : yOk Y) :
    zCon l γ yX8_readerCount cX8_readerCount 1 (some .int) [.ref (U 0)] M 0 0 0 0 (fI γ M U Y (0, sRn (yS Y))) (fun _ _ => False) := by
  have hc0 := hc
  obtain ⟨hI, pn, Z, iF, oF, hZ, hF, hX, hi1, ho1⟩ := hc
  have hob := id hF
  unfold hFo at hob
  have hD : hSt γ M (zUb U 0) (yS Y) := hZ.2.1 ▸ hX.st0
  have hst := hD.ob
  have hkn := hk.1.1
  have hkk := hk.1.nk
  refine zEnter [some (.ref (U 0))] (by decide +kernel) rfl rfl (Nat.le_of_ble_eq_true rfl) ?_
  intro p e s m args below meth c Q C hin hQ
  refine z_aload_n C dX8_readerCount_0 rfl ?_
  refine z_get C dX8_readerCount_1 fl_X8_13 (by first | assumption | ((repeat (first | assumption | exact va_up_self _ _ _ | refine (va_up_ne _ _ (by assumption)).trans ?_)); done) | (simp [va_up, *] <;> rfl)) rfl ?_
  refine z_get C dX8_readerCount_4 fl_X8_143 (by first | assumption | ((repeat (first | assumption | exact va_up_self _ _ _ | refine (va_up_ne _ _ (by assumption)).trans ?_)); done) | (simp [va_up, *] <;> rfl)) rfl ?_
  refine z_iret C hQ dX8_readerCount_7 rfl (by decide) (by decide) ?_
  exact fI.of (.rf hc0) rfl
set_option maxHeartbeats 4000000 in
set_option maxRecDepth 100000 in
theorem k_X8_documentCount {l : Launch} {γ : zG} {M : zM} {U : Nat → Nat} {Y : zSys} (hc : hFc γ M U Y) (hk : yOk Y) :
    zCon l γ yX8_documentCount cX8_documentCount 1 (some .int) [.ref (U 0)] M 0 0 0 0 (fI γ M U Y (0, sDn (yS Y))) (fun _ _ => False) := by
  have hc0 := hc
  obtain ⟨hI, pn, Z, iF, oF, hZ, hF, hX, hi1, ho1⟩ := hc
  have hob := id hF
  unfold hFo at hob
  have hD : hSt γ M (zUb U 0) (yS Y) := hZ.2.1 ▸ hX.st0
  have hst := hD.ob
  have hkn := hk.1.1
  have hkk := hk.1.nk
  refine zEnter [some (.ref (U 0))] (by decide +kernel) rfl rfl (Nat.le_of_ble_eq_true rfl) ?_
  intro p e s m args below meth c Q C hin hQ
  refine z_aload_n C dX8_documentCount_0 rfl ?_
  refine z_get C dX8_documentCount_1 fl_X8_13 (by first | assumption | ((repeat (first | assumption | exact va_up_self _ _ _ | refine (va_up_ne _ _ (by assumption)).trans ?_)); done) | (simp [va_up, *] <;> rfl)) rfl ?_
  refine z_get C dX8_documentCount_4 fl_X8_167 (by first | assumption | ((repeat (first | assumption | exact va_up_self _ _ _ | refine (va_up_ne _ _ (by assumption)).trans ?_)); done) | (simp [va_up, *] <;> rfl)) rfl ?_
  refine z_iret C hQ dX8_documentCount_7 rfl (by decide) (by decide) ?_
  exact fI.of (.rf hc0) rfl
noncomputable def q_readerNameByte (S : zSt) (rr ii : Int) : Int × Int := zqR S rr (zq2 (0 ≤ ii ∧ ii < rNl (sRd S rr.toNat)) (0, rNm (sRd S rr.toNat) ii.toNat))
noncomputable def q_escapeMethod (S : zSt) (rr : Int) : Int × Int := zqR S rr (0, rMe (sRd S rr.toNat))
set_option maxHeartbeats 4000000 in
set_option maxRecDepth 100000 in
theorem k_X8_escapeMethod {l : Launch} {γ : zG} {M : zM} {U : Nat → Nat} {Y : zSys} {rr : Int} (hc : hFc γ M U Y) (hk : yOk Y) (hrr : zR rr) :
    zCon l γ yX8_escapeMethod cX8_escapeMethod 2 (some .int) [.ref (U 0), .int (zi rr)] M 7 104 1 6 (fI γ M U Y (q_escapeMethod (yS Y) rr)) (fX γ M U Y (q_escapeMethod (yS Y) rr) xIOB xIAE) := by
  have hc0 := hc
  obtain ⟨hI, pn, Z, iF, oF, hZ, hF, hX, hi1, ho1⟩ := hc
  have hob := id hF
  unfold hFo at hob
  have hD : hSt γ M (zUb U 0) (yS Y) := hZ.2.1 ▸ hX.st0
  have hst := hD.ob
  have hkn := hk.1.1
  have hkk := hk.1.nk
  refine zEnter [some (.ref (U 0)), some (.int (zi rr))] (by decide +kernel) rfl rfl (Nat.le_of_ble_eq_true rfl) ?_
  intro p e s m args below meth c Q C hin hQ
  refine z_aload_n C dX8_escapeMethod_0 rfl ?_
  refine z_iload_n C dX8_escapeMethod_1 rfl ?_
  refine z_callV C dX8_escapeMethod_2 lk_X8_149 mw_X8_existingReader mi_X8_existingReader ms_X8_existingReader rfl (by first | assumption | ((repeat (first | assumption | exact va_up_self _ _ _ | refine (va_up_ne _ _ (by assumption)).trans ?_)); done) | (simp [va_up, *] <;> rfl)) (k_X8_existingReader hF hD hkk hrr) rfl (by first | decide | exact Nat.le_of_ble_eq_true rfl) ⟨by decide, by decide, by decide, by decide⟩ (fun X M' h => by obtain ⟨rfl, rfl, h⟩ := h; exact z_out C hQ (by decide) (by decide) (fX.o1 (.rf hc0) (zqR_f h))) (fun v M' hp => ?_)
  obtain ⟨rfl, g2, rfl⟩ := hp
  have hro := hD.rdo (i := rr.toNat) (by omega) (by omega)
  have hR := hD.rd (i := rr.toNat) (by omega) (by omega)
  obtain ⟨cn, hco, hcz, hcr⟩ := hD.rdc (i := rr.toNat) (by omega) (by omega)
  have hrk := (hk.1.2.2 rr.toNat (by omega)).1
  refine z_get C dX8_escapeMethod_5 fl_X8_164 (by first | assumption | ((repeat (first | assumption | exact va_up_self _ _ _ | refine (va_up_ne _ _ (by assumption)).trans ?_)); done) | (simp [va_up, *] <;> rfl)) rfl ?_
  refine z_iret C hQ dX8_escapeMethod_8 rfl (by decide) (by decide) ?_
  exact fI.of (.rf hc0) (zqR_t g2)
noncomputable def q_documentLength (S : zSt) (dd : Int) : Int × Int := zqD S dd (0, dLe (sDc S dd.toNat))
set_option maxHeartbeats 4000000 in
set_option maxRecDepth 100000 in
theorem k_X8_documentLength {l : Launch} {γ : zG} {M : zM} {U : Nat → Nat} {Y : zSys} {dd : Int} (hc : hFc γ M U Y) (hk : yOk Y) (hdd : zR dd) :
    zCon l γ yX8_documentLength cX8_documentLength 2 (some .int) [.ref (U 0), .int (zi dd)] M 7 104 1 6 (fI γ M U Y (q_documentLength (yS Y) dd)) (fX γ M U Y (q_documentLength (yS Y) dd) xIOB xIAE) := by
  have hc0 := hc
  obtain ⟨hI, pn, Z, iF, oF, hZ, hF, hX, hi1, ho1⟩ := hc
  have hob := id hF
  unfold hFo at hob
  have hD : hSt γ M (zUb U 0) (yS Y) := hZ.2.1 ▸ hX.st0
  have hst := hD.ob
  have hkn := hk.1.1
  have hkk := hk.1.nk
  refine zEnter [some (.ref (U 0)), some (.int (zi dd))] (by decide +kernel) rfl rfl (Nat.le_of_ble_eq_true rfl) ?_
  intro p e s m args below meth c Q C hin hQ
  refine z_aload_n C dX8_documentLength_0 rfl ?_
  refine z_iload_n C dX8_documentLength_1 rfl ?_
  refine z_callV C dX8_documentLength_2 lk_X8_170 mw_X8_existingDocument mi_X8_existingDocument ms_X8_existingDocument rfl (by first | assumption | ((repeat (first | assumption | exact va_up_self _ _ _ | refine (va_up_ne _ _ (by assumption)).trans ?_)); done) | (simp [va_up, *] <;> rfl)) (k_X8_existingDocument hF hD hkk hdd) rfl (by first | decide | exact Nat.le_of_ble_eq_true rfl) ⟨by decide, by decide, by decide, by decide⟩ (fun X M' h => by obtain ⟨rfl, rfl, h⟩ := h; exact z_out C hQ (by decide) (by decide) (fX.o1 (.rf hc0) (zqD_f h))) (fun v M' hp => ?_)
  obtain ⟨rfl, g2, rfl⟩ := hp
  obtain ⟨sy, hX2, hXk2, hXv2⟩ := hD.dk (d := dd.toNat) (by omega) (by omega)
  have obd2 := hX2.1
  refine z_get C dX8_documentLength_5 fl_X8_174 (by first | assumption | ((repeat (first | assumption | exact va_up_self _ _ _ | refine (va_up_ne _ _ (by assumption)).trans ?_)); done) | (simp [va_up, *] <;> rfl)) rfl ?_
  refine z_iret C hQ dX8_documentLength_8 rfl (by decide) (by decide) ?_
  exact fI.of (.rf hc0) (zqD_t g2)
noncomputable def q_documentYear (S : zSt) (dd : Int) : Int × Int := zqD S dd (0, dYr (sDc S dd.toNat))
noncomputable def q_documentSymbol (S : zSt) (dd ii : Int) : Int × Int := zqD S dd (zq2 (0 ≤ ii ∧ ii < dLe (sDc S dd.toNat)) (0, dSy (sDc S dd.toNat) ii.toNat))
set_option maxHeartbeats 4000000 in
set_option maxRecDepth 100000 in
theorem k_X8_documentSymbol {l : Launch} {γ : zG} {M : zM} {U : Nat → Nat} {Y : zSys} {dd ii : Int} (hc : hFc γ M U Y) (hk : yOk Y) (hdd : zR dd) (hii : zR ii) :
    zCon l γ yX8_documentSymbol cX8_documentSymbol 4 (some .int) [.ref (U 0), .int (zi dd), .int (zi ii)] M 7 104 2 12 (fI γ M U Y (q_documentSymbol (yS Y) dd ii)) (fX γ M U Y (q_documentSymbol (yS Y) dd ii) xIOB nsN) := by
  have hc0 := hc
  obtain ⟨hI, pn, Z, iF, oF, hZ, hF, hX, hi1, ho1⟩ := hc
  have hob := id hF
  unfold hFo at hob
  have hD : hSt γ M (zUb U 0) (yS Y) := hZ.2.1 ▸ hX.st0
  have hst := hD.ob
  have hkn := hk.1.1
  have hkk := hk.1.nk
  refine zEnter [some (.ref (U 0)), some (.int (zi dd)), some (.int (zi ii)), none] (by decide +kernel) rfl rfl (Nat.le_of_ble_eq_true rfl) ?_
  intro p e s m args below meth c Q C hin hQ
  refine z_aload_n C dX8_documentSymbol_0 rfl ?_
  refine z_iload_n C dX8_documentSymbol_1 rfl ?_
  refine z_callV C dX8_documentSymbol_2 lk_X8_170 mw_X8_existingDocument mi_X8_existingDocument ms_X8_existingDocument rfl (by first | assumption | ((repeat (first | assumption | exact va_up_self _ _ _ | refine (va_up_ne _ _ (by assumption)).trans ?_)); done) | (simp [va_up, *] <;> rfl)) (k_X8_existingDocument hF hD hkk hdd) rfl (by first | decide | exact Nat.le_of_ble_eq_true rfl) ⟨by decide, by decide, by decide, by decide⟩ (fun X M' h => by obtain ⟨rfl, rfl, h⟩ := h; exact z_out C hQ (by decide) (by decide) (fX.o1 (.rf hc0) (zqD_f h))) (fun v M' hp => ?_)
  obtain ⟨rfl, g2, rfl⟩ := hp
  obtain ⟨sy, hX2, hXk2, hXv2⟩ := hD.dk (d := dd.toNat) (by omega) (by omega)
  have obd2 := hX2.1
  refine z_iload_n C dX8_documentSymbol_5 rfl ?_
  refine z_callV C dX8_documentSymbol_6 lk_X8_177 mw_X3_symbolAt mi_X3_symbolAt ms_X3_symbolAt rfl obd2 (k_X3_symbolAt hX2 hXk2 hii) rfl (by first | decide | exact Nat.le_of_ble_eq_true rfl) ⟨by decide, by decide, by decide, by decide⟩ (fun _ _ h => False.elim h) (fun v M' hp => ?_)
  obtain ⟨r6, rfl, rfl, hr6⟩ := hp
  have hz6 := hXk2.at ii
  rw [← hr6] at hz6
  refine z_istore_n C dX8_documentSymbol_9 (by decide) ?_
  refine z_iload_n C dX8_documentSymbol_10 rfl ?_
  refine z_iconst C dX8_documentSymbol_11 ?_
  refine z_icmp_neZ (tgt := 25) C dX8_documentSymbol_12 (by decide) (by omega) (by omega) (fun h12 => ?_) (fun h12 => ?_)
  · refine z_iload_n C dX8_documentSymbol_25 rfl ?_
    refine z_iret C hQ dX8_documentSymbol_26 rfl (by decide) (by decide) ?_
    have h : 0 ≤ ii ∧ ii < dLe (sDc (yS Y) dd.toNat) := by
      by_cases h : 0 ≤ ii ∧ ii < dLe (sDc (yS Y) dd.toNat)
      · exact h
      · rw [hr6, hAt_out h] at h12
        exact absurd rfl h12
    rw [hr6, hAt_in h, hXv2 _ (by omega)]
    exact fI.of (.rf hc0) ((zqD_t g2).trans (zq2_t h))
  · refine z_throwN C hQ (si := 13) rfl dX8_documentSymbol_15 dX8_documentSymbol_18 dX8_documentSymbol_19 dX8_documentSymbol_21 dX8_documentSymbol_24 ⟨by decide, by decide, by decide, by decide⟩ (by decide) (by decide) ?_
    refine fX.o2 (.rf hc0) ((zqD_t g2).trans (zq2_f fun h => ?_))
    have := hXk2.in h
    omega
noncomputable def q_countOrder0 (S : zSt) (rr ss : Int) : Int × Int := zqR S rr (zq2 (zSy ss) (0, rC (sRd S rr.toNat) (zCs 0 (-1) (-1) + ss)))
set_option maxHeartbeats 4000000 in
set_option maxRecDepth 100000 in
theorem k_X8_countOrder0 {l : Launch} {γ : zG} {M : zM} {U : Nat → Nat} {Y : zSys} {rr ss : Int} (hc : hFc γ M U Y) (hk : yOk Y) (hrr : zR rr) (hss : zR ss) :
    zCon l γ yX8_countOrder0 cX8_countOrder0 4 (some .int) [.ref (U 0), .int (zi rr), .int (zi ss)] M 7 104 2 12 (fI γ M U Y (q_countOrder0 (yS Y) rr ss)) (fX γ M U Y (q_countOrder0 (yS Y) rr ss) xIOB xIAE) := by
  have hc0 := hc
  obtain ⟨hI, pn, Z, iF, oF, hZ, hF, hX, hi1, ho1⟩ := hc
  have hob := id hF
  unfold hFo at hob
  have hD : hSt γ M (zUb U 0) (yS Y) := hZ.2.1 ▸ hX.st0
  have hst := hD.ob
  have hkn := hk.1.1
  have hkk := hk.1.nk
  refine zEnter [some (.ref (U 0)), some (.int (zi rr)), some (.int (zi ss)), none] (by decide +kernel) rfl rfl (Nat.le_of_ble_eq_true rfl) ?_
  intro p e s m args below meth c Q C hin hQ
  refine z_aload_n C dX8_countOrder0_0 rfl ?_
  refine z_iload_n C dX8_countOrder0_1 rfl ?_
  refine z_callV C dX8_countOrder0_2 lk_X8_149 mw_X8_existingReader mi_X8_existingReader ms_X8_existingReader rfl (by first | assumption | ((repeat (first | assumption | exact va_up_self _ _ _ | refine (va_up_ne _ _ (by assumption)).trans ?_)); done) | (simp [va_up, *] <;> rfl)) (k_X8_existingReader hF hD hkk hrr) rfl (by first | decide | exact Nat.le_of_ble_eq_true rfl) ⟨by decide, by decide, by decide, by decide⟩ (fun X M' h => by obtain ⟨rfl, rfl, h⟩ := h; exact z_out C hQ (by decide) (by decide) (fX.o1 (.rf hc0) (zqR_f h))) (fun v M' hp => ?_)
  obtain ⟨rfl, g2, rfl⟩ := hp
  have hro := hD.rdo (i := rr.toNat) (by omega) (by omega)
  have hR := hD.rd (i := rr.toNat) (by omega) (by omega)
  obtain ⟨cn, hco, hcz, hcr⟩ := hD.rdc (i := rr.toNat) (by omega) (by omega)
  have hrk := (hk.1.2.2 rr.toNat (by omega)).1
  refine z_astore_n C dX8_countOrder0_5 (by decide) ?_
  refine z_iload_n C dX8_countOrder0_6 rfl ?_
  refine z_callS C dX8_countOrder0_7 lk_X8_185 mw_X8_requireSymbol mst_X8_requireSymbol (k_X8_requireSymbol hss) rfl (by first | decide | exact Nat.le_of_ble_eq_true rfl) ⟨by decide, by decide, by decide, by decide⟩ (fun X M' h => by obtain ⟨rfl, rfl, h⟩ := h; exact z_out C hQ (by decide) (by decide) (fX.o2 (.rf hc0) ((zqR_t g2).trans (zq2_f h)))) (fun v M' hp => ?_)
  obtain ⟨rfl, rfl, g7⟩ := hp
  refine z_aload_n C dX8_countOrder0_10 rfl ?_
  refine z_get C dX8_countOrder0_11 fl_X8_188 (by first | assumption | ((repeat (first | assumption | exact va_up_self _ _ _ | refine (va_up_ne _ _ (by assumption)).trans ?_)); done) | (simp [va_up, *] <;> rfl)) rfl ?_
  refine z_iconst C dX8_countOrder0_14 ?_
  refine z_iconst C dX8_countOrder0_15 ?_
  refine z_iconst C dX8_countOrder0_16 ?_
  refine z_callS C dX8_countOrder0_17 lk_X8_191 mw_X8_contextStart mst_X8_contextStart (k_X8_contextStart (by unfold zR; omega)) rfl (by first | decide | exact Nat.le_of_ble_eq_true rfl) ⟨by decide, by decide, by decide, by decide⟩ (fun _ _ h => False.elim h) (fun v M' hp => ?_)
  obtain ⟨r17, rfl, rfl, hr17⟩ := hp
  subst hr17
  refine z_iload_n C dX8_countOrder0_20 rfl ?_
  refine z_iaddZ C dX8_countOrder0_21 ?_
  refine z_callV C dX8_countOrder0_22 lk_X8_195 mw_X2_valueOf mi_X2_valueOf ms_X2_valueOf rfl hco (k_X2_valueOf hR.2.2.1 (by unfold zSy at g7; unfold zR zCs; simp; omega)) rfl (by first | decide | exact Nat.le_of_ble_eq_true rfl) ⟨by decide, by decide, by decide, by decide⟩ (fun _ _ h => False.elim h) (fun v M' hp => ?_)
  obtain ⟨r22, rfl, rfl, hr22⟩ := hp
  refine z_iret C hQ dX8_countOrder0_25 rfl (by decide) (by decide) ?_
  rw [hr22]
  exact fI.of (.rf hc0) ((zqR_t g2).trans (zq2_t g7))
noncomputable def q_countOrder1 (S : zSt) (rr pp ss : Int) : Int × Int := zqR S rr (zq2 (zSy pp ∧ zSy ss) (0, rC (sRd S rr.toNat) (zCs 1 (-1) pp + ss)))
set_option maxHeartbeats 4000000 in
set_option maxRecDepth 100000 in
theorem k_X8_countOrder1 {l : Launch} {γ : zG} {M : zM} {U : Nat → Nat} {Y : zSys} {rr pp ss : Int} (hc : hFc γ M U Y) (hk : yOk Y) (hrr : zR rr) (hpp : zR pp) (hss : zR ss) :
    zCon l γ yX8_countOrder1 cX8_countOrder1 5 (some .int) [.ref (U 0), .int (zi rr), .int (zi pp), .int (zi ss)] M 7 104 3 18 (fI γ M U Y (q_countOrder1 (yS Y) rr pp ss)) (fX γ M U Y (q_countOrder1 (yS Y) rr pp ss) xIOB xIAE) := by
  have hc0 := hc
  obtain ⟨hI, pn, Z, iF, oF, hZ, hF, hX, hi1, ho1⟩ := hc
  have hob := id hF
  unfold hFo at hob
  have hD : hSt γ M (zUb U 0) (yS Y) := hZ.2.1 ▸ hX.st0
  have hst := hD.ob
  have hkn := hk.1.1
  have hkk := hk.1.nk
  refine zEnter [some (.ref (U 0)), some (.int (zi rr)), some (.int (zi pp)), some (.int (zi ss)), none] (by decide +kernel) rfl rfl (Nat.le_of_ble_eq_true rfl) ?_
  intro p e s m args below meth c Q C hin hQ
  refine z_aload_n C dX8_countOrder1_0 rfl ?_
  refine z_iload_n C dX8_countOrder1_1 rfl ?_
  refine z_callV C dX8_countOrder1_2 lk_X8_149 mw_X8_existingReader mi_X8_existingReader ms_X8_existingReader rfl (by first | assumption | ((repeat (first | assumption | exact va_up_self _ _ _ | refine (va_up_ne _ _ (by assumption)).trans ?_)); done) | (simp [va_up, *] <;> rfl)) (k_X8_existingReader hF hD hkk hrr) rfl (by first | decide | exact Nat.le_of_ble_eq_true rfl) ⟨by decide, by decide, by decide, by decide⟩ (fun X M' h => by obtain ⟨rfl, rfl, h⟩ := h; exact z_out C hQ (by decide) (by decide) (fX.o1 (.rf hc0) (zqR_f h))) (fun v M' hp => ?_)
  obtain ⟨rfl, g2, rfl⟩ := hp
  have hro := hD.rdo (i := rr.toNat) (by omega) (by omega)
  have hR := hD.rd (i := rr.toNat) (by omega) (by omega)
  obtain ⟨cn, hco, hcz, hcr⟩ := hD.rdc (i := rr.toNat) (by omega) (by omega)
  have hrk := (hk.1.2.2 rr.toNat (by omega)).1
  refine z_astore C dX8_countOrder1_5 (by decide) ?_
  refine z_iload_n C dX8_countOrder1_7 rfl ?_
  refine z_callS C dX8_countOrder1_8 lk_X8_185 mw_X8_requireSymbol mst_X8_requireSymbol (k_X8_requireSymbol hpp) rfl (by first | decide | exact Nat.le_of_ble_eq_true rfl) ⟨by decide, by decide, by decide, by decide⟩ (fun X M' h => by obtain ⟨rfl, rfl, h⟩ := h; exact z_out C hQ (by decide) (by decide) (fX.o2 (.rf hc0) ((zqR_t g2).trans (zq2_f fun w => h w.1)))) (fun v M' hp => ?_)
  obtain ⟨rfl, rfl, g8⟩ := hp
  refine z_iload_n C dX8_countOrder1_11 rfl ?_
  refine z_callS C dX8_countOrder1_12 lk_X8_185 mw_X8_requireSymbol mst_X8_requireSymbol (k_X8_requireSymbol hss) rfl (by first | decide | exact Nat.le_of_ble_eq_true rfl) ⟨by decide, by decide, by decide, by decide⟩ (fun X M' h => by obtain ⟨rfl, rfl, h⟩ := h; exact z_out C hQ (by decide) (by decide) (fX.o2 (.rf hc0) ((zqR_t g2).trans (zq2_f fun w => h w.2)))) (fun v M' hp => ?_)
  obtain ⟨rfl, rfl, g12⟩ := hp
  refine z_aload C dX8_countOrder1_15 rfl ?_
  refine z_get C dX8_countOrder1_17 fl_X8_188 (by first | assumption | ((repeat (first | assumption | exact va_up_self _ _ _ | refine (va_up_ne _ _ (by assumption)).trans ?_)); done) | (simp [va_up, *] <;> rfl)) rfl ?_
  refine z_iconst C dX8_countOrder1_20 ?_
  refine z_iconst C dX8_countOrder1_21 ?_
  refine z_iload_n C dX8_countOrder1_22 rfl ?_
  refine z_callS C dX8_countOrder1_23 lk_X8_191 mw_X8_contextStart mst_X8_contextStart (k_X8_contextStart (by unfold zR; omega)) rfl (by first | decide | exact Nat.le_of_ble_eq_true rfl) ⟨by decide, by decide, by decide, by decide⟩ (fun _ _ h => False.elim h) (fun v M' hp => ?_)
  obtain ⟨r23, rfl, rfl, hr23⟩ := hp
  subst hr23
  refine z_iload_n C dX8_countOrder1_26 rfl ?_
  refine z_iaddZ C dX8_countOrder1_27 ?_
  refine z_callV C dX8_countOrder1_28 lk_X8_195 mw_X2_valueOf mi_X2_valueOf ms_X2_valueOf rfl hco (k_X2_valueOf hR.2.2.1 (by unfold zSy at g8 g12; unfold zR zCs; simp; omega)) rfl (by first | decide | exact Nat.le_of_ble_eq_true rfl) ⟨by decide, by decide, by decide, by decide⟩ (fun _ _ h => False.elim h) (fun v M' hp => ?_)
  obtain ⟨r28, rfl, rfl, hr28⟩ := hp
  refine z_iret C hQ dX8_countOrder1_31 rfl (by decide) (by decide) ?_
  rw [hr28]
  exact fI.of (.rf hc0) ((zqR_t g2).trans (zq2_t ⟨g8, g12⟩))
noncomputable def q_countOrder2 (S : zSt) (rr bb pp ss : Int) : Int × Int := zqR S rr (zq2 (zSy bb ∧ zSy pp ∧ zSy ss) (0, rC (sRd S rr.toNat) (zCs 2 bb pp + ss)))
set_option maxHeartbeats 4000000 in
set_option maxRecDepth 100000 in
theorem k_X8_countOrder2 {l : Launch} {γ : zG} {M : zM} {U : Nat → Nat} {Y : zSys} {rr bb pp ss : Int} (hc : hFc γ M U Y) (hk : yOk Y) (hrr : zR rr) (hbb : zR bb) (hpp : zR pp) (hss : zR ss) :
    zCon l γ yX8_countOrder2 cX8_countOrder2 6 (some .int) [.ref (U 0), .int (zi rr), .int (zi bb), .int (zi pp), .int (zi ss)] M 7 104 4 24 (fI γ M U Y (q_countOrder2 (yS Y) rr bb pp ss)) (fX γ M U Y (q_countOrder2 (yS Y) rr bb pp ss) xIOB xIAE) := by
  have hc0 := hc
  obtain ⟨hI, pn, Z, iF, oF, hZ, hF, hX, hi1, ho1⟩ := hc
  have hob := id hF
  unfold hFo at hob
  have hD : hSt γ M (zUb U 0) (yS Y) := hZ.2.1 ▸ hX.st0
  have hst := hD.ob
  have hkn := hk.1.1
  have hkk := hk.1.nk
  refine zEnter [some (.ref (U 0)), some (.int (zi rr)), some (.int (zi bb)), some (.int (zi pp)), some (.int (zi ss)), none] (by decide +kernel) rfl rfl (Nat.le_of_ble_eq_true rfl) ?_
  intro p e s m args below meth c Q C hin hQ
  refine z_aload_n C dX8_countOrder2_0 rfl ?_
  refine z_iload_n C dX8_countOrder2_1 rfl ?_
  refine z_callV C dX8_countOrder2_2 lk_X8_149 mw_X8_existingReader mi_X8_existingReader ms_X8_existingReader rfl (by first | assumption | ((repeat (first | assumption | exact va_up_self _ _ _ | refine (va_up_ne _ _ (by assumption)).trans ?_)); done) | (simp [va_up, *] <;> rfl)) (k_X8_existingReader hF hD hkk hrr) rfl (by first | decide | exact Nat.le_of_ble_eq_true rfl) ⟨by decide, by decide, by decide, by decide⟩ (fun X M' h => by obtain ⟨rfl, rfl, h⟩ := h; exact z_out C hQ (by decide) (by decide) (fX.o1 (.rf hc0) (zqR_f h))) (fun v M' hp => ?_)
  obtain ⟨rfl, g2, rfl⟩ := hp
  have hro := hD.rdo (i := rr.toNat) (by omega) (by omega)
  have hR := hD.rd (i := rr.toNat) (by omega) (by omega)
  obtain ⟨cn, hco, hcz, hcr⟩ := hD.rdc (i := rr.toNat) (by omega) (by omega)
  have hrk := (hk.1.2.2 rr.toNat (by omega)).1
  refine z_astore C dX8_countOrder2_5 (by decide) ?_
  refine z_iload_n C dX8_countOrder2_7 rfl ?_
  refine z_callS C dX8_countOrder2_8 lk_X8_185 mw_X8_requireSymbol mst_X8_requireSymbol (k_X8_requireSymbol hbb) rfl (by first | decide | exact Nat.le_of_ble_eq_true rfl) ⟨by decide, by decide, by decide, by decide⟩ (fun X M' h => by obtain ⟨rfl, rfl, h⟩ := h; exact z_out C hQ (by decide) (by decide) (fX.o2 (.rf hc0) ((zqR_t g2).trans (zq2_f fun w => h w.1)))) (fun v M' hp => ?_)
  obtain ⟨rfl, rfl, g8⟩ := hp
  refine z_iload_n C dX8_countOrder2_11 rfl ?_
  refine z_callS C dX8_countOrder2_12 lk_X8_185 mw_X8_requireSymbol mst_X8_requireSymbol (k_X8_requireSymbol hpp) rfl (by first | decide | exact Nat.le_of_ble_eq_true rfl) ⟨by decide, by decide, by decide, by decide⟩ (fun X M' h => by obtain ⟨rfl, rfl, h⟩ := h; exact z_out C hQ (by decide) (by decide) (fX.o2 (.rf hc0) ((zqR_t g2).trans (zq2_f fun w => h w.2.1)))) (fun v M' hp => ?_)
  obtain ⟨rfl, rfl, g12⟩ := hp
  refine z_iload C dX8_countOrder2_15 rfl ?_
  refine z_callS C dX8_countOrder2_17 lk_X8_185 mw_X8_requireSymbol mst_X8_requireSymbol (k_X8_requireSymbol hss) rfl (by first | decide | exact Nat.le_of_ble_eq_true rfl) ⟨by decide, by decide, by decide, by decide⟩ (fun X M' h => by obtain ⟨rfl, rfl, h⟩ := h; exact z_out C hQ (by decide) (by decide) (fX.o2 (.rf hc0) ((zqR_t g2).trans (zq2_f fun w => h w.2.2)))) (fun v M' hp => ?_)
  obtain ⟨rfl, rfl, g17⟩ := hp
  refine z_aload C dX8_countOrder2_20 rfl ?_
  refine z_get C dX8_countOrder2_22 fl_X8_188 (by first | assumption | ((repeat (first | assumption | exact va_up_self _ _ _ | refine (va_up_ne _ _ (by assumption)).trans ?_)); done) | (simp [va_up, *] <;> rfl)) rfl ?_
  refine z_iconst C dX8_countOrder2_25 ?_
  refine z_iload_n C dX8_countOrder2_26 rfl ?_
  refine z_iload_n C dX8_countOrder2_27 rfl ?_
  refine z_callS C dX8_countOrder2_28 lk_X8_191 mw_X8_contextStart mst_X8_contextStart (k_X8_contextStart (by unfold zR; omega)) rfl (by first | decide | exact Nat.le_of_ble_eq_true rfl) ⟨by decide, by decide, by decide, by decide⟩ (fun _ _ h => False.elim h) (fun v M' hp => ?_)
  obtain ⟨r28, rfl, rfl, hr28⟩ := hp
  subst hr28
  refine z_iload C dX8_countOrder2_31 rfl ?_
  refine z_iaddZ C dX8_countOrder2_33 ?_
  refine z_callV C dX8_countOrder2_34 lk_X8_195 mw_X2_valueOf mi_X2_valueOf ms_X2_valueOf rfl hco (k_X2_valueOf hR.2.2.1 (by unfold zSy at g8 g12 g17; unfold zR zCs; simp; omega)) rfl (by first | decide | exact Nat.le_of_ble_eq_true rfl) ⟨by decide, by decide, by decide, by decide⟩ (fun _ _ h => False.elim h) (fun v M' hp => ?_)
  obtain ⟨r34, rfl, rfl, hr34⟩ := hp
  refine z_iret C hQ dX8_countOrder2_37 rfl (by decide) (by decide) ?_
  rw [hr34]
  exact fI.of (.rf hc0) ((zqR_t g2).trans (zq2_t ⟨g8, g12, g17⟩))
noncomputable def q_contextTotal (S : zSt) (rr bb pp : Int) : Int × Int := zqR S rr (zq2 (zCv bb pp) (0, zsum (rC (sRd S rr.toNat)) (zCs (zFo bb pp) bb pp) 27))
set_option maxHeartbeats 4000000 in
set_option maxRecDepth 100000 in
theorem k_X8_contextTotal {l : Launch} {γ : zG} {M : zM} {U : Nat → Nat} {Y : zSys} {rr bb pp : Int} (hc : hFc γ M U Y) (hk : yOk Y) (hrr : zR rr) (hbb : zR bb) (hpp : zR pp) :
    zCon l γ yX8_contextTotal cX8_contextTotal 6 (some .int) [.ref (U 0), .int (zi rr), .int (zi bb), .int (zi pp)] M 7 104 2 12 (fI γ M U Y (q_contextTotal (yS Y) rr bb pp)) (fX γ M U Y (q_contextTotal (yS Y) rr bb pp) xIOB xIAE) := by
  have hc0 := hc
  obtain ⟨hI, pn, Z, iF, oF, hZ, hF, hX, hi1, ho1⟩ := hc
  have hob := id hF
  unfold hFo at hob
  have hD : hSt γ M (zUb U 0) (yS Y) := hZ.2.1 ▸ hX.st0
  have hst := hD.ob
  have hkn := hk.1.1
  have hkk := hk.1.nk
  refine zEnter [some (.ref (U 0)), some (.int (zi rr)), some (.int (zi bb)), some (.int (zi pp)), none, none] (by decide +kernel) rfl rfl (Nat.le_of_ble_eq_true rfl) ?_
  intro p e s m args below meth c Q C hin hQ
  refine z_aload_n C dX8_contextTotal_0 rfl ?_
  refine z_iload_n C dX8_contextTotal_1 rfl ?_
  refine z_callV C dX8_contextTotal_2 lk_X8_149 mw_X8_existingReader mi_X8_existingReader ms_X8_existingReader rfl (by first | assumption | ((repeat (first | assumption | exact va_up_self _ _ _ | refine (va_up_ne _ _ (by assumption)).trans ?_)); done) | (simp [va_up, *] <;> rfl)) (k_X8_existingReader hF hD hkk hrr) rfl (by first | decide | exact Nat.le_of_ble_eq_true rfl) ⟨by decide, by decide, by decide, by decide⟩ (fun X M' h => by obtain ⟨rfl, rfl, h⟩ := h; exact z_out C hQ (by decide) (by decide) (fX.o1 (.rf hc0) (zqR_f h))) (fun v M' hp => ?_)
  obtain ⟨rfl, g2, rfl⟩ := hp
  have hro := hD.rdo (i := rr.toNat) (by omega) (by omega)
  have hR := hD.rd (i := rr.toNat) (by omega) (by omega)
  obtain ⟨cn, hco, hcz, hcr⟩ := hD.rdc (i := rr.toNat) (by omega) (by omega)
  have hrk := (hk.1.2.2 rr.toNat (by omega)).1
  refine z_astore C dX8_contextTotal_5 (by decide) ?_
  refine z_iload_n C dX8_contextTotal_7 rfl ?_
  refine z_iload_n C dX8_contextTotal_8 rfl ?_
  refine z_callS C dX8_contextTotal_9 lk_X8_198 mw_X8_requireContext mst_X8_requireContext (k_X8_requireContext hbb hpp) rfl (by first | decide | exact Nat.le_of_ble_eq_true rfl) ⟨by decide, by decide, by decide, by decide⟩ (fun X M' h => by obtain ⟨rfl, rfl, h⟩ := h; exact z_out C hQ (by decide) (by decide) (fX.o2 (.rf hc0) ((zqR_t g2).trans (zq2_f h)))) (fun v M' hp => ?_)
  obtain ⟨rfl, rfl, g9⟩ := hp
  have hfo := zFo_rng bb pp
  have hcs := zCs_rng g9.cx (o := zFo bb pp) (by omega)
  refine z_iload_n C dX8_contextTotal_12 rfl ?_
  refine z_iload_n C dX8_contextTotal_13 rfl ?_
  refine z_callS C dX8_contextTotal_14 lk_X8_202 mw_X8_firstOrder mst_X8_firstOrder (k_X8_firstOrder hbb hpp) rfl (by first | decide | exact Nat.le_of_ble_eq_true rfl) ⟨by decide, by decide, by decide, by decide⟩ (fun _ _ h => False.elim h) (fun v M' hp => ?_)
  obtain ⟨r14, rfl, rfl, hr14⟩ := hp
  subst hr14
  refine z_istore C dX8_contextTotal_17 (by decide) ?_
  refine z_aload C dX8_contextTotal_19 rfl ?_
  refine z_get C dX8_contextTotal_21 fl_X8_188 (by first | assumption | ((repeat (first | assumption | exact va_up_self _ _ _ | refine (va_up_ne _ _ (by assumption)).trans ?_)); done) | (simp [va_up, *] <;> rfl)) rfl ?_
  refine z_iload C dX8_contextTotal_24 rfl ?_
  refine z_iload_n C dX8_contextTotal_26 rfl ?_
  refine z_iload_n C dX8_contextTotal_27 rfl ?_
  refine z_callS C dX8_contextTotal_28 lk_X8_191 mw_X8_contextStart mst_X8_contextStart (k_X8_contextStart (by unfold zR; omega)) rfl (by first | decide | exact Nat.le_of_ble_eq_true rfl) ⟨by decide, by decide, by decide, by decide⟩ (fun _ _ h => False.elim h) (fun v M' hp => ?_)
  obtain ⟨r28, rfl, rfl, hr28⟩ := hp
  subst hr28
  refine z_callV C dX8_contextTotal_31 lk_X8_206 mw_X2_sumIn mi_X2_sumIn ms_X2_sumIn rfl hco (k_X2_sumIn hR.2.2.1 hcs) rfl (by first | decide | exact Nat.le_of_ble_eq_true rfl) ⟨by decide, by decide, by decide, by decide⟩ (fun _ _ h => False.elim h) (fun v M' hp => ?_)
  obtain ⟨r31, rfl, rfl, hr31⟩ := hp
  refine z_iret C hQ dX8_contextTotal_34 rfl (by decide) (by decide) ?_
  rw [hr31]
  exact fI.of (.rf hc0) ((zqR_t g2).trans (zq2_t g9))
noncomputable def q_contextSymbols (S : zSt) (rr bb pp : Int) : Int × Int := zqR S rr (zq2 (zCv bb pp) (0, zsum (zind (rC (sRd S rr.toNat))) (zCs (zFo bb pp) bb pp) 27))
set_option maxHeartbeats 4000000 in
set_option maxRecDepth 100000 in
theorem k_X8_contextSymbols {l : Launch} {γ : zG} {M : zM} {U : Nat → Nat} {Y : zSys} {rr bb pp : Int} (hc : hFc γ M U Y) (hk : yOk Y) (hrr : zR rr) (hbb : zR bb) (hpp : zR pp) :
    zCon l γ yX8_contextSymbols cX8_contextSymbols 6 (some .int) [.ref (U 0), .int (zi rr), .int (zi bb), .int (zi pp)] M 7 104 2 12 (fI γ M U Y (q_contextSymbols (yS Y) rr bb pp)) (fX γ M U Y (q_contextSymbols (yS Y) rr bb pp) xIOB xIAE) := by
  have hc0 := hc
  obtain ⟨hI, pn, Z, iF, oF, hZ, hF, hX, hi1, ho1⟩ := hc
  have hob := id hF
  unfold hFo at hob
  have hD : hSt γ M (zUb U 0) (yS Y) := hZ.2.1 ▸ hX.st0
  have hst := hD.ob
  have hkn := hk.1.1
  have hkk := hk.1.nk
  refine zEnter [some (.ref (U 0)), some (.int (zi rr)), some (.int (zi bb)), some (.int (zi pp)), none, none] (by decide +kernel) rfl rfl (Nat.le_of_ble_eq_true rfl) ?_
  intro p e s m args below meth c Q C hin hQ
  refine z_aload_n C dX8_contextSymbols_0 rfl ?_
  refine z_iload_n C dX8_contextSymbols_1 rfl ?_
  refine z_callV C dX8_contextSymbols_2 lk_X8_149 mw_X8_existingReader mi_X8_existingReader ms_X8_existingReader rfl (by first | assumption | ((repeat (first | assumption | exact va_up_self _ _ _ | refine (va_up_ne _ _ (by assumption)).trans ?_)); done) | (simp [va_up, *] <;> rfl)) (k_X8_existingReader hF hD hkk hrr) rfl (by first | decide | exact Nat.le_of_ble_eq_true rfl) ⟨by decide, by decide, by decide, by decide⟩ (fun X M' h => by obtain ⟨rfl, rfl, h⟩ := h; exact z_out C hQ (by decide) (by decide) (fX.o1 (.rf hc0) (zqR_f h))) (fun v M' hp => ?_)
  obtain ⟨rfl, g2, rfl⟩ := hp
  have hro := hD.rdo (i := rr.toNat) (by omega) (by omega)
  have hR := hD.rd (i := rr.toNat) (by omega) (by omega)
  obtain ⟨cn, hco, hcz, hcr⟩ := hD.rdc (i := rr.toNat) (by omega) (by omega)
  have hrk := (hk.1.2.2 rr.toNat (by omega)).1
  refine z_astore C dX8_contextSymbols_5 (by decide) ?_
  refine z_iload_n C dX8_contextSymbols_7 rfl ?_
  refine z_iload_n C dX8_contextSymbols_8 rfl ?_
  refine z_callS C dX8_contextSymbols_9 lk_X8_198 mw_X8_requireContext mst_X8_requireContext (k_X8_requireContext hbb hpp) rfl (by first | decide | exact Nat.le_of_ble_eq_true rfl) ⟨by decide, by decide, by decide, by decide⟩ (fun X M' h => by obtain ⟨rfl, rfl, h⟩ := h; exact z_out C hQ (by decide) (by decide) (fX.o2 (.rf hc0) ((zqR_t g2).trans (zq2_f h)))) (fun v M' hp => ?_)
  obtain ⟨rfl, rfl, g9⟩ := hp
  have hfo := zFo_rng bb pp
  have hcs := zCs_rng g9.cx (o := zFo bb pp) (by omega)
  refine z_iload_n C dX8_contextSymbols_12 rfl ?_
  refine z_iload_n C dX8_contextSymbols_13 rfl ?_
  refine z_callS C dX8_contextSymbols_14 lk_X8_202 mw_X8_firstOrder mst_X8_firstOrder (k_X8_firstOrder hbb hpp) rfl (by first | decide | exact Nat.le_of_ble_eq_true rfl) ⟨by decide, by decide, by decide, by decide⟩ (fun _ _ h => False.elim h) (fun v M' hp => ?_)
  obtain ⟨r14, rfl, rfl, hr14⟩ := hp
  subst hr14
  refine z_istore C dX8_contextSymbols_17 (by decide) ?_
  refine z_aload C dX8_contextSymbols_19 rfl ?_
  refine z_get C dX8_contextSymbols_21 fl_X8_188 (by first | assumption | ((repeat (first | assumption | exact va_up_self _ _ _ | refine (va_up_ne _ _ (by assumption)).trans ?_)); done) | (simp [va_up, *] <;> rfl)) rfl ?_
  refine z_iload C dX8_contextSymbols_24 rfl ?_
  refine z_iload_n C dX8_contextSymbols_26 rfl ?_
  refine z_iload_n C dX8_contextSymbols_27 rfl ?_
  refine z_callS C dX8_contextSymbols_28 lk_X8_191 mw_X8_contextStart mst_X8_contextStart (k_X8_contextStart (by unfold zR; omega)) rfl (by first | decide | exact Nat.le_of_ble_eq_true rfl) ⟨by decide, by decide, by decide, by decide⟩ (fun _ _ h => False.elim h) (fun v M' hp => ?_)
  obtain ⟨r28, rfl, rfl, hr28⟩ := hp
  subst hr28
  refine z_callV C dX8_contextSymbols_31 lk_X8_209 mw_X2_symbolsIn mi_X2_symbolsIn ms_X2_symbolsIn rfl hco (k_X2_symbolsIn hR.2.2.1 hcs) rfl (by first | decide | exact Nat.le_of_ble_eq_true rfl) ⟨by decide, by decide, by decide, by decide⟩ (fun _ _ h => False.elim h) (fun v M' hp => ?_)
  obtain ⟨r31, rfl, rfl, hr31⟩ := hp
  refine z_iret C hQ dX8_contextSymbols_34 rfl (by decide) (by decide) ?_
  rw [hr31]
  exact fI.of (.rf hc0) ((zqR_t g2).trans (zq2_t g9))
noncomputable def q_order2Contexts (S : zSt) (rr : Int) : Int × Int := zqR S rr (0, zsum (zgp (rC (sRd S rr.toNat))) 0 729)
noncomputable def q_positiveCounts (S : zSt) (rr : Int) : Int × Int := zqR S rr (0, zsum (zind (rC (sRd S rr.toNat))) 0 20439)
set_option maxHeartbeats 4000000 in
set_option maxRecDepth 100000 in
theorem k_X8_positiveCounts {l : Launch} {γ : zG} {M : zM} {U : Nat → Nat} {Y : zSys} {rr : Int} (hc : hFc γ M U Y) (hk : yOk Y) (hrr : zR rr) :
    zCon l γ yX8_positiveCounts cX8_positiveCounts 2 (some .int) [.ref (U 0), .int (zi rr)] M 7 104 1 6 (fI γ M U Y (q_positiveCounts (yS Y) rr)) (fX γ M U Y (q_positiveCounts (yS Y) rr) xIOB xIAE) := by
  have hc0 := hc
  obtain ⟨hI, pn, Z, iF, oF, hZ, hF, hX, hi1, ho1⟩ := hc
  have hob := id hF
  unfold hFo at hob
  have hD : hSt γ M (zUb U 0) (yS Y) := hZ.2.1 ▸ hX.st0
  have hst := hD.ob
  have hkn := hk.1.1
  have hkk := hk.1.nk
  refine zEnter [some (.ref (U 0)), some (.int (zi rr))] (by decide +kernel) rfl rfl (Nat.le_of_ble_eq_true rfl) ?_
  intro p e s m args below meth c Q C hin hQ
  refine z_aload_n C dX8_positiveCounts_0 rfl ?_
  refine z_iload_n C dX8_positiveCounts_1 rfl ?_
  refine z_callV C dX8_positiveCounts_2 lk_X8_149 mw_X8_existingReader mi_X8_existingReader ms_X8_existingReader rfl (by first | assumption | ((repeat (first | assumption | exact va_up_self _ _ _ | refine (va_up_ne _ _ (by assumption)).trans ?_)); done) | (simp [va_up, *] <;> rfl)) (k_X8_existingReader hF hD hkk hrr) rfl (by first | decide | exact Nat.le_of_ble_eq_true rfl) ⟨by decide, by decide, by decide, by decide⟩ (fun X M' h => by obtain ⟨rfl, rfl, h⟩ := h; exact z_out C hQ (by decide) (by decide) (fX.o1 (.rf hc0) (zqR_f h))) (fun v M' hp => ?_)
  obtain ⟨rfl, g2, rfl⟩ := hp
  have hro := hD.rdo (i := rr.toNat) (by omega) (by omega)
  have hR := hD.rd (i := rr.toNat) (by omega) (by omega)
  obtain ⟨cn, hco, hcz, hcr⟩ := hD.rdc (i := rr.toNat) (by omega) (by omega)
  have hrk := (hk.1.2.2 rr.toNat (by omega)).1
  refine z_get C dX8_positiveCounts_5 fl_X8_188 (by first | assumption | ((repeat (first | assumption | exact va_up_self _ _ _ | refine (va_up_ne _ _ (by assumption)).trans ?_)); done) | (simp [va_up, *] <;> rfl)) rfl ?_
  refine z_get C dX8_positiveCounts_8 fl_X8_215 (by first | assumption | ((repeat (first | assumption | exact va_up_self _ _ _ | refine (va_up_ne _ _ (by assumption)).trans ?_)); done) | (simp [va_up, *] <;> rfl)) rfl ?_
  refine z_iret C hQ dX8_positiveCounts_11 rfl (by decide) (by decide) ?_
  rw [hcz]
  exact fI.of (.rf hc0) (zqR_t g2)
noncomputable def q_trainedSymbols (S : zSt) (rr : Int) : Int × Int := zqR S rr (0, rTr (sRd S rr.toNat))
set_option maxHeartbeats 4000000 in
set_option maxRecDepth 100000 in
theorem k_X8_trainedSymbols {l : Launch} {γ : zG} {M : zM} {U : Nat → Nat} {Y : zSys} {rr : Int} (hc : hFc γ M U Y) (hk : yOk Y) (hrr : zR rr) :
    zCon l γ yX8_trainedSymbols cX8_trainedSymbols 2 (some .int) [.ref (U 0), .int (zi rr)] M 7 104 1 6 (fI γ M U Y (q_trainedSymbols (yS Y) rr)) (fX γ M U Y (q_trainedSymbols (yS Y) rr) xIOB xIAE) := by
  have hc0 := hc
  obtain ⟨hI, pn, Z, iF, oF, hZ, hF, hX, hi1, ho1⟩ := hc
  have hob := id hF
  unfold hFo at hob
  have hD : hSt γ M (zUb U 0) (yS Y) := hZ.2.1 ▸ hX.st0
  have hst := hD.ob
  have hkn := hk.1.1
  have hkk := hk.1.nk
  refine zEnter [some (.ref (U 0)), some (.int (zi rr))] (by decide +kernel) rfl rfl (Nat.le_of_ble_eq_true rfl) ?_
  intro p e s m args below meth c Q C hin hQ
  refine z_aload_n C dX8_trainedSymbols_0 rfl ?_
  refine z_iload_n C dX8_trainedSymbols_1 rfl ?_
  refine z_callV C dX8_trainedSymbols_2 lk_X8_149 mw_X8_existingReader mi_X8_existingReader ms_X8_existingReader rfl (by first | assumption | ((repeat (first | assumption | exact va_up_self _ _ _ | refine (va_up_ne _ _ (by assumption)).trans ?_)); done) | (simp [va_up, *] <;> rfl)) (k_X8_existingReader hF hD hkk hrr) rfl (by first | decide | exact Nat.le_of_ble_eq_true rfl) ⟨by decide, by decide, by decide, by decide⟩ (fun X M' h => by obtain ⟨rfl, rfl, h⟩ := h; exact z_out C hQ (by decide) (by decide) (fX.o1 (.rf hc0) (zqR_f h))) (fun v M' hp => ?_)
  obtain ⟨rfl, g2, rfl⟩ := hp
  have hro := hD.rdo (i := rr.toNat) (by omega) (by omega)
  have hR := hD.rd (i := rr.toNat) (by omega) (by omega)
  obtain ⟨cn, hco, hcz, hcr⟩ := hD.rdc (i := rr.toNat) (by omega) (by omega)
  have hrk := (hk.1.2.2 rr.toNat (by omega)).1
  refine z_get C dX8_trainedSymbols_5 fl_X8_221 (by first | assumption | ((repeat (first | assumption | exact va_up_self _ _ _ | refine (va_up_ne _ _ (by assumption)).trans ?_)); done) | (simp [va_up, *] <;> rfl)) rfl ?_
  refine z_iret C hQ dX8_trainedSymbols_8 rfl (by decide) (by decide) ?_
  exact fI.of (.rf hc0) (zqR_t g2)
noncomputable def q_timesTrained (S : zSt) (rr dd : Int) : Int × Int := zqR S rr (zqD S dd (0, rTm (sRd S rr.toNat) dd.toNat))
set_option maxHeartbeats 4000000 in
set_option maxRecDepth 100000 in
theorem k_X8_timesTrained {l : Launch} {γ : zG} {M : zM} {U : Nat → Nat} {Y : zSys} {rr dd : Int} (hc : hFc γ M U Y) (hk : yOk Y) (hrr : zR rr) (hdd : zR dd) :
    zCon l γ yX8_timesTrained cX8_timesTrained 4 (some .int) [.ref (U 0), .int (zi rr), .int (zi dd)] M 7 104 2 12 (fI γ M U Y (q_timesTrained (yS Y) rr dd)) (fX γ M U Y (q_timesTrained (yS Y) rr dd) xIOB xIAE) := by
  have hc0 := hc
  obtain ⟨hI, pn, Z, iF, oF, hZ, hF, hX, hi1, ho1⟩ := hc
  have hob := id hF
  unfold hFo at hob
  have hD : hSt γ M (zUb U 0) (yS Y) := hZ.2.1 ▸ hX.st0
  have hst := hD.ob
  have hkn := hk.1.1
  have hkk := hk.1.nk
  refine zEnter [some (.ref (U 0)), some (.int (zi rr)), some (.int (zi dd)), none] (by decide +kernel) rfl rfl (Nat.le_of_ble_eq_true rfl) ?_
  intro p e s m args below meth c Q C hin hQ
  refine z_aload_n C dX8_timesTrained_0 rfl ?_
  refine z_iload_n C dX8_timesTrained_1 rfl ?_
  refine z_callV C dX8_timesTrained_2 lk_X8_149 mw_X8_existingReader mi_X8_existingReader ms_X8_existingReader rfl (by first | assumption | ((repeat (first | assumption | exact va_up_self _ _ _ | refine (va_up_ne _ _ (by assumption)).trans ?_)); done) | (simp [va_up, *] <;> rfl)) (k_X8_existingReader hF hD hkk hrr) rfl (by first | decide | exact Nat.le_of_ble_eq_true rfl) ⟨by decide, by decide, by decide, by decide⟩ (fun X M' h => by obtain ⟨rfl, rfl, h⟩ := h; exact z_out C hQ (by decide) (by decide) (fX.o1 (.rf hc0) (zqR_f h))) (fun v M' hp => ?_)
  obtain ⟨rfl, g2, rfl⟩ := hp
  have hro := hD.rdo (i := rr.toNat) (by omega) (by omega)
  have hR := hD.rd (i := rr.toNat) (by omega) (by omega)
  obtain ⟨cn, hco, hcz, hcr⟩ := hD.rdc (i := rr.toNat) (by omega) (by omega)
  have hrk := (hk.1.2.2 rr.toNat (by omega)).1
  refine z_astore_n C dX8_timesTrained_5 (by decide) ?_
  refine z_aload_n C dX8_timesTrained_6 rfl ?_
  refine z_iload_n C dX8_timesTrained_7 rfl ?_
  refine z_callV C dX8_timesTrained_8 lk_X8_170 mw_X8_existingDocument mi_X8_existingDocument ms_X8_existingDocument rfl (by first | assumption | ((repeat (first | assumption | exact va_up_self _ _ _ | refine (va_up_ne _ _ (by assumption)).trans ?_)); done) | (simp [va_up, *] <;> rfl)) (k_X8_existingDocument hF hD hkk hdd) rfl (by first | decide | exact Nat.le_of_ble_eq_true rfl) ⟨by decide, by decide, by decide, by decide⟩ (fun X M' h => by obtain ⟨rfl, rfl, h⟩ := h; exact z_out C hQ (by decide) (by decide) (fX.o1 (.rf hc0) ((zqR_t g2).trans (zqD_f h)))) (fun v M' hp => ?_)
  obtain ⟨rfl, g8, rfl⟩ := hp
  obtain ⟨sy, hX8, hXk8, hXv8⟩ := hD.dk (d := dd.toNat) (by omega) (by omega)
  have obd8 := hX8.1
  refine z_pop C dX8_timesTrained_11 rfl ?_
  refine z_aload_n C dX8_timesTrained_12 rfl ?_
  refine z_iload_n C dX8_timesTrained_13 rfl ?_
  refine z_callV C dX8_timesTrained_14 lk_X8_218 mw_X6_trainingsOn mi_X6_trainingsOn ms_X6_trainingsOn rfl hro (k_X6_trainingsOn hR hdd) rfl (by first | decide | exact Nat.le_of_ble_eq_true rfl) ⟨by decide, by decide, by decide, by decide⟩ (fun _ _ h => False.elim h) (fun v M' hp => ?_)
  obtain ⟨r14, rfl, rfl, hr14⟩ := hp
  refine z_iret C hQ dX8_timesTrained_17 rfl (by decide) (by decide) ?_
  rw [hr14, zTo, if_pos (by omega)]
  exact fI.of (.rf hc0) ((zqR_t g2).trans (zqD_t g8))

