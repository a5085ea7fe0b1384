def sClr (S : zSt) : zSt := (0, 0, 0, sRd S, sDc S)
set_option maxHeartbeats 4000000 in
set_option maxRecDepth 100000 in
theorem k_X7_clear {l : Launch} {γ : zG} {M : zM} {D : Nat → Nat} {S : zSt} (hI : zInj D) (hD : hSt γ M D S) :
    zCon l γ yX7_clear cX7_clear 1 none [.ref (D 0)] M 0 0 0 0 (fun v' M' => v' = none ∧ zFr M M' (zFD D) ∧ hSt γ M' D (sClr S)) (fun _ _ => False) := by
  obtain ⟨Rs, Ds, h, -⟩ := hD
  have h0 := h.1
  have q := hSx.obj (((h.obj hI 0 (sDn S) (sYr S)).obj hI 0 0 (sYr S))) hI 0 0 0
  refine zEnter [some (.ref (D 0))] (by decide +kernel) rfl rfl (Nat.le_of_ble_eq_true rfl) ?_
  intro p e s m args below meth c Q C hin hQ
  refine z_aload_n C dX7_clear_0 rfl ?_
  refine z_iconst C dX7_clear_1 ?_
  refine z_put C dX7_clear_2 fl_X7_17 (by first | assumption | ((repeat (first | assumption | exact va_up_self _ _ _ | refine (va_up_ne _ _ (by assumption)).trans ?_)); done) | (simp [va_up, *] <;> rfl)) rfl rfl (by simp) ?_
  refine z_aload_n C dX7_clear_5 rfl ?_
  refine z_iconst C dX7_clear_6 ?_
  refine z_put C dX7_clear_7 fl_X7_27 (by first | assumption | ((repeat (first | assumption | exact va_up_self _ _ _ | refine (va_up_ne _ _ (by assumption)).trans ?_)); done) | (simp [va_up, *] <;> rfl)) rfl rfl (by simp) ?_
  refine z_aload_n C dX7_clear_10 rfl ?_
  refine z_iconst C dX7_clear_11 ?_
  refine z_put C dX7_clear_12 fl_X7_30 (by first | assumption | ((repeat (first | assumption | exact va_up_self _ _ _ | refine (va_up_ne _ _ (by assumption)).trans ?_)); done) | (simp [va_up, *] <;> rfl)) rfl rfl (by simp) ?_
  refine z_vret C hQ dX7_clear_15 (by decide) (by decide) ?_
  exact ⟨rfl, zFr.u1 (zFr.u2 zFr.rf (zFD_mem D (by omega)) (zFD_mem D (by omega))) (zFD_mem D (by omega)), Rs, Ds, q, fun i (hi : (i : Int) < 0) => by omega, fun i (hi : (i : Int) < 0) => by omega⟩
/-- one more reader -/
def sAddR (S : zSt) (R : zRdr) : zSt := (sYr S, sRn S + 1, sDn S, va_up (sRd S) (sRn S).toNat R, sDc S)
set_option maxHeartbeats 4000000 in
set_option maxRecDepth 100000 in
theorem k_X7_putReader {l : Launch} {γ : zG} {M : zM} {D : Nat → Nat} {S : zSt} {ta tr : Nat} {f : Nat → Int} {n b e0 me : Int} (hI : zInj D) (hD : hSt γ M D S) (hk : 0 ≤ sRn S ∧ sRn S < 4) (hT : hBy γ M ta tr f n) (hO : hBo f n) (hdt : ta ∉ zFD D ∧ tr ∉ zFD D) (hb : 0 ≤ b ∧ b ≤ 500 ∧ b ≤ e0 ∧ e0 ≤ b + 4) :
    zCon l γ yX7_putReader cX7_putReader 5 none [.ref (D 0), .ref ta, .int (zi b), .int (zi e0), .int (zi me)] M 2 46 0 0 (fun v' M' => v' = none ∧ zFr M M' (zFD D) ∧ hSt γ M' D (sAddR S (rNew f n b e0 me))) (fun _ _ => False) := by
  obtain ⟨Rs, Ds, h, hrs, hds⟩ := hD
  obtain ⟨h0, h1, h2, h3, h4⟩ := id h
  have hR := h3 (sRn S).toNat (by omega)
  have ob := hR.1
  refine zEnter [some (.ref (D 0)), some (.ref ta), some (.int (zi b)), some (.int (zi e0)), some (.int (zi me))] (by decide +kernel) rfl rfl (Nat.le_of_ble_eq_true rfl) ?_
  intro p e s m args below meth c Q C hin hQ
  refine z_aload_n C dX7_putReader_0 rfl ?_
  refine z_get C dX7_putReader_1 fl_X7_17 (by first | assumption | ((repeat (first | assumption | exact va_up_self _ _ _ | refine (va_up_ne _ _ (by assumption)).trans ?_)); done) | (simp [va_up, *] <;> rfl)) rfl ?_
  refine z_iconst C dX7_putReader_4 ?_
  refine z_icmp_geZ (tgt := 35) C dX7_putReader_5 (by decide) (by omega) (by omega) (fun h5 => ?_) (fun h5 => ?_)
  · exact absurd h5 (by omega)
  · refine z_aload_n C dX7_putReader_8 rfl ?_
    refine z_get C dX7_putReader_9 fl_X7_11 (by first | assumption | ((repeat (first | assumption | exact va_up_self _ _ _ | refine (va_up_ne _ _ (by assumption)).trans ?_)); done) | (simp [va_up, *] <;> rfl)) rfl ?_
    refine z_aload_n C dX7_putReader_12 rfl ?_
    refine z_get C dX7_putReader_13 fl_X7_17 (by first | assumption | ((repeat (first | assumption | exact va_up_self _ _ _ | refine (va_up_ne _ _ (by assumption)).trans ?_)); done) | (simp [va_up, *] <;> rfl)) rfl ?_
    refine z_aldR C dX7_putReader_16 (by first | assumption | ((repeat (first | assumption | exact va_up_self _ _ _ | refine (va_up_ne _ _ (by assumption)).trans ?_)); done) | (simp [va_up, *] <;> rfl)) (by decide) (by omega) (by omega) ?_
    refine z_aload_n C dX7_putReader_17 rfl ?_
    refine z_iload_n C dX7_putReader_18 rfl ?_
    refine z_iload_n C dX7_putReader_19 rfl ?_
    refine z_iload C dX7_putReader_20 rfl ?_
    refine z_callV C dX7_putReader_22 lk_X7_46 mw_X6_begin mi_X6_begin ms_X6_begin rfl ob (k_X6_begin (me := me) hR hT hO ⟨fun q => hdt.1 (zFA_sub D (by omega) _ q), fun q => hdt.2 (zFA_sub D (by omega) _ q)⟩ hb) rfl (by first | decide | exact Nat.le_of_ble_eq_true rfl) ⟨by decide, by decide, by decide, by decide⟩ (fun _ _ h => False.elim h) (fun v M' hp => ?_)
    obtain ⟨rfl, f1, hR1⟩ := hp
    have q := h.setR hI (by omega) f1 hR1
    have q0 := q.1
    refine z_aload_n C dX7_putReader_25 rfl ?_
    refine z_dup C dX7_putReader_26 rfl ?_
    refine z_get C dX7_putReader_27 fl_X7_17 (by first | assumption | ((repeat (first | assumption | exact va_up_self _ _ _ | refine (va_up_ne _ _ (by assumption)).trans ?_)); done) | (simp [va_up, *] <;> rfl)) rfl ?_
    refine z_iconst C dX7_putReader_30 ?_
    refine z_iaddZ C dX7_putReader_31 ?_
    refine z_put C dX7_putReader_32 fl_X7_17 (by first | assumption | ((repeat (first | assumption | exact va_up_self _ _ _ | refine (va_up_ne _ _ (by assumption)).trans ?_)); done) | (simp [va_up, *] <;> rfl)) rfl rfl (by simp) ?_
    refine z_vret C hQ dX7_putReader_35 (by decide) (by decide) ?_
    refine ⟨rfl, zFr.u1 (f1.tr zFr.rf (zFA_sub D (by omega)) (fun _ h => h)) (zFD_mem D (by omega)), _, _, q.obj hI (sRn S + 1) (sDn S) (sYr S), fun i hi => ?_, hds⟩
    show va_up Rs (sRn S).toNat (rNew f n b e0 me) i = va_up (sRd S) (sRn S).toNat (rNew f n b e0 me) i
    have hi' : (i : Int) < sRn S + 1 := hi
    unfold va_up
    split
    · rfl
    · exact hrs i (by omega)
/-- one more document -/
def sAddD (S : zSt) (X : zDoc) : zSt := (sYr S, sRn S, sDn S + 1, sRd S, va_up (sDc S) (sDn S).toNat X)
/-- the document in the bytes from b to e -/
def dNew (f : Nat → Int) (n b e yr : Int) : zDoc := (fun j => zsb (hAt f n (b + j)), e - b, yr)
set_option maxHeartbeats 4000000 in
set_option maxRecDepth 100000 in
theorem k_X7_putDocument {l : Launch} {γ : zG} {M : zM} {D : Nat → Nat} {S : zSt} {ta tr : Nat} {f : Nat → Int} {n b e0 : Int} (hI : zInj D) (hD : hSt γ M D S) (hk : 0 ≤ sDn S ∧ sDn S < 8) (hT : hBy γ M ta tr f n) (hO : hBo f n) (hdt : ta ∉ zFD D ∧ tr ∉ zFD D) (hb : 0 ≤ b ∧ b ≤ 500 ∧ b ≤ e0 ∧ e0 ≤ b + 40) :
    zCon l γ yX7_putDocument cX7_putDocument 4 none [.ref (D 0), .ref ta, .int (zi b), .int (zi e0)] M 2 47 0 0 (fun v' M' => v' = none ∧ zFr M M' (zFD D) ∧ hSt γ M' D (sAddD S (dNew f n b e0 (sYr S)))) (fun _ _ => False) := by
  obtain ⟨Rs, Ds, h, hrs, hds⟩ := hD
  obtain ⟨h0, h1, h2, h3, h4⟩ := id h
  obtain ⟨sy, hX, hk1, -⟩ := h4 (sDn S).toNat (by omega)
  have ob := hX.1
  refine zEnter [some (.ref (D 0)), some (.ref ta), some (.int (zi b)), some (.int (zi e0))] (by decide +kernel) rfl rfl (Nat.le_of_ble_eq_true rfl) ?_
  intro p e s m args below meth c Q C hin hQ
  refine z_aload_n C dX7_putDocument_0 rfl ?_
  refine z_get C dX7_putDocument_1 fl_X7_27 (by first | assumption | ((repeat (first | assumption | exact va_up_self _ _ _ | refine (va_up_ne _ _ (by assumption)).trans ?_)); done) | (simp [va_up, *] <;> rfl)) rfl ?_
  refine z_bipush C dX7_putDocument_4 (by decide) ?_
  refine z_icmp_geZ (tgt := 38) C dX7_putDocument_6 (by decide) (by omega) (by omega) (fun h6 => ?_) (fun h6 => ?_)
  · exact absurd h6 (by omega)
  · refine z_aload_n C dX7_putDocument_9 rfl ?_
    refine z_get C dX7_putDocument_10 fl_X7_23 (by first | assumption | ((repeat (first | assumption | exact va_up_self _ _ _ | refine (va_up_ne _ _ (by assumption)).trans ?_)); done) | (simp [va_up, *] <;> rfl)) rfl ?_
    refine z_aload_n C dX7_putDocument_13 rfl ?_
    refine z_get C dX7_putDocument_14 fl_X7_27 (by first | assumption | ((repeat (first | assumption | exact va_up_self _ _ _ | refine (va_up_ne _ _ (by assumption)).trans ?_)); done) | (simp [va_up, *] <;> rfl)) rfl ?_
    refine z_aldR C dX7_putDocument_17 (by first | assumption | ((repeat (first | assumption | exact va_up_self _ _ _ | refine (va_up_ne _ _ (by assumption)).trans ?_)); done) | (simp [va_up, *] <;> rfl)) (by decide) (by omega) (by omega) ?_
    refine z_aload_n C dX7_putDocument_18 rfl ?_
    refine z_iload_n C dX7_putDocument_19 rfl ?_
    refine z_iload_n C dX7_putDocument_20 rfl ?_
    refine z_aload_n C dX7_putDocument_21 rfl ?_
    refine z_get C dX7_putDocument_22 fl_X7_30 (by first | assumption | ((repeat (first | assumption | exact va_up_self _ _ _ | refine (va_up_ne _ _ (by assumption)).trans ?_)); done) | (simp [va_up, *] <;> rfl)) rfl ?_
    refine z_callV C dX7_putDocument_25 lk_X7_50 mw_X3_take mi_X3_take ms_X3_take rfl ob (k_X3_take (yr' := sYr S) hX hk1.2.1 hT hO (fun q => hdt.2 (by rw [← q]; exact zFD_mem D (by omega))) hb) rfl (by first | decide | exact Nat.le_of_ble_eq_true rfl) ⟨by decide, by decide, by decide, by decide⟩ (fun _ _ h => False.elim h) (fun v M' hp => ?_)
    obtain ⟨rfl, f1, s2, hX2, hk2, hv2⟩ := hp
    have q := h.setD hI (by omega) f1 (X := dNew f n b e0 (sYr S)) ⟨s2, hX2, hk2, hv2⟩
    have q0 := q.1
    refine z_aload_n C dX7_putDocument_28 rfl ?_
    refine z_dup C dX7_putDocument_29 rfl ?_
    refine z_get C dX7_putDocument_30 fl_X7_27 (by first | assumption | ((repeat (first | assumption | exact va_up_self _ _ _ | refine (va_up_ne _ _ (by assumption)).trans ?_)); done) | (simp [va_up, *] <;> rfl)) rfl ?_
    refine z_iconst C dX7_putDocument_33 ?_
    refine z_iaddZ C dX7_putDocument_34 ?_
    refine z_put C dX7_putDocument_35 fl_X7_27 (by first | assumption | ((repeat (first | assumption | exact va_up_self _ _ _ | refine (va_up_ne _ _ (by assumption)).trans ?_)); done) | (simp [va_up, *] <;> rfl)) rfl rfl (by simp) ?_
    refine z_vret C hQ dX7_putDocument_38 (by decide) (by decide) ?_
    refine ⟨rfl, zFr.u1 (f1.tr zFr.rf (fun x hx => ?_) (fun _ h => h)) (zFD_mem D (by omega)), _, _, q.obj hI (sRn S) (sDn S + 1) (sYr S), hrs, fun i hi => ?_⟩
    · simp only [List.mem_cons, List.not_mem_nil, or_false] at hx
      rcases hx with h | h <;> (rw [h]; exact zFD_mem D (by omega))
    · show va_up Ds (sDn S).toNat (dNew f n b e0 (sYr S)) i = va_up (sDc S) (sDn S).toNat (dNew f n b e0 (sYr S)) i
      have hi' : (i : Int) < sDn S + 1 := hi
      unfold va_up
      split
      · rfl
      · exact hds i (by omega)
def rHlf (R : zRdr) : zRdr := (rNm R, rNl R, rMe R, zhlf (rC R), rTr R, rTm R)
/-- a year has passed -/
def sYear (S : zSt) : zSt := (sYr S + 1, sRn S, sDn S, fun i => rHlf (sRd S i), sDc S)
theorem hRd.half {γ : zG} {M M' : zM} {A : Nat → Nat} {R : zRdr} (h : hRd γ M A R) (f : zFr M M' [A 2, A 3, A 4]) {c : Int → Int} (hC : hCn γ M' (A 2) (A 3) (A 4) c) : hRd γ M' A (rNm R, rNl R, rMe R, c, rTr R, rTm R) := by
  obtain ⟨n1, n2, n3, n4, n5, n6, n7, n8, n9, n10, n11, n12, n13, n14, n15⟩ := h.ne
  obtain ⟨h0, ⟨g1, h1, h1'⟩, h2, g5, h5, h5'⟩ := h
  exact ⟨f.at (by simp [n2, n3, n4]) h0, ⟨g1, f.at (by simp [n6, n7, n8]) h1, h1'⟩, hC, g5, f.at (by simp [n12.symm, n14.symm, n15.symm]) h5, h5'⟩
theorem zF3_sub (A : Nat → Nat) : ∀ b, b ∈ [A 2, A 3, A 4] → b ∈ zFA A := fun b hb => by
  simp only [List.mem_cons, List.not_mem_nil, or_false] at hb
  rcases hb with h | h | h <;> simp [zFA, h]
set_option maxHeartbeats 4000000 in
set_option maxRecDepth 100000 in
theorem k_X7_passYear {l : Launch} {γ : zG} {M : zM} {D : Nat → Nat} {S : zSt} (hI : zInj D) (hD : hSt γ M D S) (hk : zNk S) :
    zCon l γ yX7_passYear cX7_passYear 2 none [.ref (D 0)] M 1 23 0 0 (fun v' M' => v' = none ∧ zFr M M' (zFD D) ∧ hSt γ M' D (sYear S)) (fun _ _ => False) := by
  obtain ⟨Rs, Ds, h, hrs, hds⟩ := hD
  obtain ⟨hk, -⟩ := hk
  refine zEnter [some (.ref (D 0)), none] (by decide +kernel) rfl rfl (Nat.le_of_ble_eq_true rfl) ?_
  intro p e s m args below meth c Q C hin hQ
  have loop : ∀ (t : Nat) (M1 : zM) (i : Int) (R1 : Nat → zRdr), 0 ≤ i ∧ i ≤ sRn S ∧ sRn S - i = t → zFr M M1 (zFD D) → hSx γ M1 D (sRn S) (sDn S) (sYr S) R1 Ds → (∀ j : Nat, j < i → R1 j = rHlf (sRd S j)) → (∀ j : Nat, i ≤ j → j < sRn S → R1 j = sRd S j) → zAW p l e { frames := 1, cells := 0, slots := 0, locals := 23 } s m args below meth c γ 2 Q M1 0 0 2 [some (.ref (D 0)), some (.int (zi i))] [] := by
    intro t
    induction t with
    | zero =>
      intro M1 i R1 hi hf h1 hv hw
      have h0 := h1.1
      refine z_iload_n C dX7_passYear_2 rfl ?_
      refine z_aload_n C dX7_passYear_3 rfl ?_
      refine z_get C dX7_passYear_4 fl_X7_17 (by first | assumption | ((repeat (first | assumption | exact va_up_self _ _ _ | refine (va_up_ne _ _ (by assumption)).trans ?_)); done) | (simp [va_up, *] <;> rfl)) rfl ?_
      refine z_icmp_geZ (tgt := 33) C dX7_passYear_7 (by decide) (by omega) (by omega) (fun h7 => ?_) (fun h7 => ?_)
      · refine z_aload_n C dX7_passYear_33 rfl ?_
        refine z_dup C dX7_passYear_34 rfl ?_
        refine z_get C dX7_passYear_35 fl_X7_30 (by first | assumption | ((repeat (first | assumption | exact va_up_self _ _ _ | refine (va_up_ne _ _ (by assumption)).trans ?_)); done) | (simp [va_up, *] <;> rfl)) rfl ?_
        refine z_iconst C dX7_passYear_38 ?_
        refine z_iaddZ C dX7_passYear_39 ?_
        refine z_put C dX7_passYear_40 fl_X7_30 (by first | assumption | ((repeat (first | assumption | exact va_up_self _ _ _ | refine (va_up_ne _ _ (by assumption)).trans ?_)); done) | (simp [va_up, *] <;> rfl)) rfl rfl (by simp) ?_
        refine z_vret C hQ dX7_passYear_43 (by decide) (by decide) ?_
        exact ⟨rfl, zFr.u1 hf (zFD_mem D (by omega)), _, _, h1.obj hI (sRn S) (sDn S) (sYr S + 1), fun j hj => hv j (by have hj' : (j : Int) < sRn S := hj; omega), hds⟩
      · exact absurd h7 (by omega)
    | succ t ih =>
      intro M1 i R1 hi hf h1 hv hw
      obtain ⟨h0, hr, h2, h3, h4⟩ := id h1
      have hR := h3 i.toNat (by omega)
      have hR0 : M1 (D (3 + 6 * i.toNat)) = _ := hR.1
      obtain ⟨fs, hc0⟩ := hR.2.2.1.ob
      refine z_iload_n C dX7_passYear_2 rfl ?_
      refine z_aload_n C dX7_passYear_3 rfl ?_
      refine z_get C dX7_passYear_4 fl_X7_17 (by first | assumption | ((repeat (first | assumption | exact va_up_self _ _ _ | refine (va_up_ne _ _ (by assumption)).trans ?_)); done) | (simp [va_up, *] <;> rfl)) rfl ?_
      refine z_icmp_geZ (tgt := 33) C dX7_passYear_7 (by decide) (by omega) (by omega) (fun h7 => ?_) (fun h7 => ?_)
      · exact absurd h7 (by omega)
      · refine z_iload_n C dX7_passYear_10 rfl ?_
        refine z_iconst C dX7_passYear_11 ?_
        refine z_icmp_geZ (tgt := 33) C dX7_passYear_12 (by decide) (by omega) (by omega) (fun h12 => ?_) (fun h12 => ?_)
        · exact absurd h12 (by omega)
        · refine z_aload_n C dX7_passYear_15 rfl ?_
          refine z_get C dX7_passYear_16 fl_X7_11 (by first | assumption | ((repeat (first | assumption | exact va_up_self _ _ _ | refine (va_up_ne _ _ (by assumption)).trans ?_)); done) | (simp [va_up, *] <;> rfl)) rfl ?_
          refine z_iload_n C dX7_passYear_19 rfl ?_
          refine z_aldR C dX7_passYear_20 (by first | assumption | ((repeat (first | assumption | exact va_up_self _ _ _ | refine (va_up_ne _ _ (by assumption)).trans ?_)); done) | (simp [va_up, *] <;> rfl)) (by decide) (by omega) (by omega) ?_
          refine z_get C dX7_passYear_21 fl_X7_53 (by first | assumption | ((repeat (first | assumption | exact va_up_self _ _ _ | refine (va_up_ne _ _ (by assumption)).trans ?_)); done) | (simp [va_up, *] <;> rfl)) rfl ?_
          refine z_callV C dX7_passYear_24 lk_X7_57 mw_X2_halve mi_X2_halve ms_X2_halve rfl hc0 (k_X2_halve hR.2.2.1) rfl (by first | decide | exact Nat.le_of_ble_eq_true rfl) ⟨by decide, by decide, by decide, by decide⟩ (fun _ _ h => False.elim h) (fun v M' hp => ?_)
          obtain ⟨rfl, f1, hC1⟩ := hp
          have q := h1.setR hI (by omega) (f1.tr zFr.rf (zF3_sub _) (fun _ h => h)) (hR.half f1 hC1)
          refine z_iincZ C dX7_passYear_27 rfl (by decide) ?_
          refine z_goto (tgt := 2) C dX7_passYear_30 (by decide) ?_
          refine ih _ (i + 1) _ (by omega) (hf.tr f1 (fun _ h => h) (fun x hx => zFA_sub D (by omega) _ (zF3_sub _ _ hx))) q (fun j hj => ?_) (fun j hj hj2 => ?_)
          · unfold va_up
            split
            · subst j
              rw [hw i.toNat (by omega) (by omega)]
              rfl
            · exact hv j (by omega)
          · rw [va_up_ne _ _ (by omega)]
            exact hw j (by omega) hj2
  refine z_iconst C dX7_passYear_0 ?_
  refine z_istore_n C dX7_passYear_1 (by decide) ?_
  exact loop (sRn S).toNat M 0 Rs (by omega) zFr.rf h (fun j hj => by omega) (fun j _ hj => hrs j hj)

