/-! the face's changing calls -/
theorem fOk.mk' {γ : zG} {M M' : zM} {U : Nat → Nat} {Y : zSys} (f : zFr M M' (zFU U)) (h : hFc γ M' U Y) : fOk γ M M' U Y := ⟨f, h⟩
theorem fOk.tr {γ : zG} {M M1 M2 : zM} {U : Nat → Nat} {Y Y' : zSys} (h1 : fOk γ M M1 U Y) (h2 : fOk γ M1 M2 U Y') : fOk γ M M2 U Y' := ⟨h1.1.uu h2.1, h2.2⟩
theorem fOk.st {γ : zG} {M M' : zM} {U : Nat → Nat} {Y : zSys} {pn : Int} {Z : Nat → zSt} {iF oF : Nat → Int} {S : zSt} (hI : zIU U) (hZ : zZk Y pn Z) (hF : hFo γ M U pn (yPc Y) (yEc Y) (yEp Y)) (hX : hFx γ M U (yUs Y) iF (yIn Y) oF (yOn Y) Z) (hi1 : ∀ j : Nat, j < yIn Y → iF j = yIf Y j) (ho1 : ∀ j : Nat, j < yOn Y → oF j = yOf Y j) (f : zFr M M' (zFD (zUb U 0))) (q : hSt γ M' (zUb U 0) S) : fOk γ M M' U (ySet Y S) :=
  ⟨f.ub (by decide), hI, pn, _, iF, oF, hZ.set S, hF.fr f (zUd hI (by decide) (by decide)), hX.st hI f (by decide) q, hi1, ho1⟩
theorem fOk.inp {γ : zG} {M M' : zM} {U : Nat → Nat} {Y : zSys} {pn : Int} {Z : Nat → zSt} {iF oF f' g : Nat → Int} {n' : Int} (hI : zIU U) (hZ : zZk Y pn Z) (hF : hFo γ M U pn (yPc Y) (yEc Y) (yEp Y)) (hX : hFx γ M U (yUs Y) iF (yIn Y) oF (yOn Y) Z) (ho1 : ∀ j : Nat, j < yOn Y → oF j = yOf Y j) (f : zFr M M' [U 4, U 5]) (q : hBy γ M' (U 4) (U 5) f' n') (q2 : hBo f' n') (hv : ∀ j : Nat, j < n' → f' j = g j) : fOk γ M M' U (ySI Y g n') :=
  ⟨zFr.us (L := [4, 5]) f (by decide), hI, pn, Z, f', oF, hZ, hF.fr f (zUn hI (L := [4, 5]) (by decide) (by decide) (by decide)), hX.inp hI f q q2, hv, ho1⟩
theorem fOk.ou {γ : zG} {M M' : zM} {U : Nat → Nat} {Y : zSys} {pn : Int} {Z : Nat → zSt} {iF oF f' g : Nat → Int} {n' : Int} (hI : zIU U) (hZ : zZk Y pn Z) (hF : hFo γ M U pn (yPc Y) (yEc Y) (yEp Y)) (hX : hFx γ M U (yUs Y) iF (yIn Y) oF (yOn Y) Z) (hi1 : ∀ j : Nat, j < yIn Y → iF j = yIf Y j) (f : zFr M M' [U 6, U 7, U 11, U 12, U 13]) (q0 : hRq γ M' (U 11) (U 12) (U 13)) (q : hBy γ M' (U 6) (U 7) f' n') (q2 : hBo f' n') (hv : ∀ j : Nat, j < n' → f' j = g j) : fOk γ M M' U (ySO Y g n') :=
  ⟨zFr.us (L := [6, 7, 11, 12, 13]) f (by decide), hI, pn, Z, iF, f', hZ, hF.fr f (zUn hI (L := [6, 7, 11, 12, 13]) (by decide) (by decide) (by decide)), hX.ro hI f q0 q q2, hi1, hv⟩
theorem fOk.dr {γ : zG} {M M' : zM} {U : Nat → Nat} {Y : zSys} {pn : Int} {Z : Nat → zSt} {iF oF g : Nat → Int} (hI : zIU U) (hZ : zZk Y pn Z) (hF : hFo γ M U pn (yPc Y) (yEc Y) (yEp Y)) (hX : hFx γ M U (yUs Y) iF (yIn Y) oF (yOn Y) Z) (hi1 : ∀ j : Nat, j < yIn Y → iF j = yIf Y j) (ho1 : ∀ j : Nat, j < yOn Y → oF j = yOf Y j) (f : zFr M M' [U 15]) (q : M' (U 15) = some (zar γ 40 g)) (q2 : ∀ j, zR (g j)) : fOk γ M M' U Y :=
  ⟨zFr.us (L := [15]) f (by decide), hI, pn, Z, iF, oF, hZ, hF.fr f (zUn hI (L := [15]) (by decide) (by decide) (by decide)), hX.dr hI f q q2, hi1, ho1⟩
/-- two changes taken apart -/
theorem zFr.split {M M' : zM} {L1 L2 : List Nat} (h : zFr M M' (L1 ++ L2)) : ∃ M1 : zM, zFr M M1 L1 ∧ zFr M1 M' L2 ∧ zFr M' M1 L2 ∨ False := by
  refine ⟨fun b => if b ∈ L1 then M' b else M b, .inl ⟨fun b hb => if_neg hb, fun b hb => ?_, fun b hb => ?_⟩⟩
  · show M' b = if b ∈ L1 then M' b else M b
    split
    · rfl
    · rename_i q
      exact h b fun w => (List.mem_append.mp w).elim q hb
  · show (if b ∈ L1 then M' b else M b) = M' b
    split
    · rfl
    · rename_i q
      exact (h b fun w => (List.mem_append.mp w).elim q hb).symm
theorem za4_cg {f g : Nat → Int} {n x : Int} (hn : 0 ≤ n) (h : ∀ j : Nat, j < n → f j = g j) : ∀ j : Nat, j < n + 4 → za4 f n x j = za4 g n x j := fun j hj => by
  unfold za4 va_up
  split
  · rfl
  · split
    · rfl
    · split
      · rfl
      · split
        · rfl
        · exact h j (by omega)
/-- twenty more bytes -/
def za5 (f : Nat → Int) (n a b c d e : Int) : Nat → Int := za4 (za4 (za4 (za4 (za4 f n a) (n + 4) b) (n + 8) c) (n + 12) d) (n + 16) e
theorem za5_cg {f g : Nat → Int} {n a b c d e : Int} (hn : 0 ≤ n) (h : ∀ j : Nat, j < n → f j = g j) : ∀ j : Nat, j < n + 20 → za5 f n a b c d e j = za5 g n a b c d e j := by
  have h1 := za4_cg (x := a) hn h
  have h2 := za4_cg (x := b) (by omega) h1
  rw [show n + 4 + 4 = n + 8 by omega] at h2
  have h3 := za4_cg (x := c) (by omega) h2
  rw [show n + 8 + 4 = n + 12 by omega] at h3
  have h4 := za4_cg (x := d) (by omega) h3
  rw [show n + 12 + 4 = n + 16 by omega] at h4
  have h5 := za4_cg (x := e) (by omega) h4
  rw [show n + 16 + 4 = n + 20 by omega] at h5
  exact h5
theorem zUb_0 (U : Nat → Nat) : U 16 = zUb U 0 0 := rfl
theorem rTrn_eq (R : zRdr) (d : Int) (X : zDoc) : rSetC (rRec R d (dLe X)) (zdoc (rC R) X) = rTrn R d X := rfl
theorem hRd.setC {γ : zG} {M M' : zM} {A : Nat → Nat} {R : zRdr} (h : hRd γ M A R) (f : zFr M M' [A 2, A 3, A 4]) {c : Int → Int} (hC : hCn γ M' (A 2) (A 3) (A 4) c) : hRd γ M' A (rSetC R c) := h.half f hC
def rSetM (R : zRdr) (me : Int) : zRdr := (rNm R, rNl R, me, rC R, rTr R, rTm R)
/-- a good end with an int, another whole -/
def fI' (γ : zG) (M : zM) (U : Nat → Nat) (Y : zSys) (q : Int × Int) : Option Value → zM → Prop := fun v M' => fOk γ M M' U Y ∧ q.1 = 0 ∧ v = some (.int (zi q.2))
theorem fI'.of {γ : zG} {M M' : zM} {U : Nat → Nat} {Y : zSys} {q : Int × Int} {x : Int} (h : fOk γ M M' U Y) (hq : q = (0, x)) : fI' γ M U Y q (some (.int (zi x))) M' := by
  subst hq
  exact ⟨h, rfl, rfl⟩
noncomputable def q_appendInput (Y : zSys) (a0 a1 a2 a3 a4 : Int) : Int × Int := if yIn Y + 20 ≤ 500 then (0, yIn Y + 20) else (1, 0)
noncomputable def y_appendInput (Y : zSys) (a0 a1 a2 a3 a4 : Int) : zSys := ySI Y (za5 (yIf Y) (yIn Y) a0 a1 a2 a3 a4) (yIn Y + 20)
set_option maxHeartbeats 4000000 in
set_option maxRecDepth 100000 in
theorem k_X8_appendInput {l : Launch} {γ : zG} {M : zM} {U : Nat → Nat} {Y : zSys} {a0 a1 a2 a3 a4 : Int} (hc : hFc γ M U Y) (hk : yOk Y)  :
    zCon l γ yX8_appendInput cX8_appendInput 6 (some .int) [.ref (U 0), .int (zi a0), .int (zi a1), .int (zi a2), .int (zi a3), .int (zi a4)] M 6 82 1 6 (fI' γ M U (y_appendInput Y a0 a1 a2 a3 a4) (q_appendInput Y a0 a1 a2 a3 a4)) (fX γ M U Y (q_appendInput Y a0 a1 a2 a3 a4) xISE xISE) := by
  have hc0 := hc
  obtain ⟨hI, pn, Z, iF, oF, hZ, hF, hX, hi1, ho1⟩ := hc
  have hob := id hF
  unfold hFo at hob
  have hD : hSt γ M (zUb U 0) (yS Y) := hZ.2.1 ▸ hX.st0
  have hst := hD.ob
  have hkn := hk.1.1
  have hkk := hk.1.nk
  have hRQ := hX.2.2.2.2.2.2.1
  have hok := fun M' => @fOk.rk γ M M' U Y pn Z iF oF hI hZ hF hX hi1 ho1
  have hip := hX.2.2.2.1
  have hin1 := hip.1.1
  have hinr := hip.2.1
  have n45 : U 0 ∉ [U 4, U 5] := zUn hI (L := [4, 5]) (by decide) (by decide) (by decide)
  refine zEnter [some (.ref (U 0)), some (.int (zi a0)), some (.int (zi a1)), some (.int (zi a2)), some (.int (zi a3)), some (.int (zi a4))] (by decide +kernel) rfl rfl (Nat.le_of_ble_eq_true rfl) ?_
  intro p e s m args below meth c Q C hin hQ
  refine z_aload_n C dX8_appendInput_0 rfl ?_
  refine z_get C dX8_appendInput_1 fl_X8_44 (by first | assumption | ((repeat (first | assumption | exact va_up_self _ _ _ | refine (va_up_ne _ _ (by assumption)).trans ?_)); done) | (simp [va_up, *] <;> rfl)) rfl ?_
  refine z_get C dX8_appendInput_4 fl_X8_107 (by first | assumption | ((repeat (first | assumption | exact va_up_self _ _ _ | refine (va_up_ne _ _ (by assumption)).trans ?_)); done) | (simp [va_up, *] <;> rfl)) rfl ?_
  refine z_bipush C dX8_appendInput_7 (by decide) ?_
  refine z_iaddZ C dX8_appendInput_9 ?_
  refine z_sipush C dX8_appendInput_10 (by decide) ?_
  refine z_icmp_leZ (tgt := 26) C dX8_appendInput_13 (by decide) (by omega) (by omega) (fun h13 => ?_) (fun h13 => ?_)
  · refine z_aload_n C dX8_appendInput_26 rfl ?_
    refine z_get C dX8_appendInput_27 fl_X8_44 (by first | assumption | ((repeat (first | assumption | exact va_up_self _ _ _ | refine (va_up_ne _ _ (by assumption)).trans ?_)); done) | (simp [va_up, *] <;> rfl)) rfl ?_
    refine z_iload_n C dX8_appendInput_30 rfl ?_
    refine z_callV C dX8_appendInput_31 lk_X8_116 mw_X0_appendFour mi_X0_appendFour ms_X0_appendFour rfl (by first | assumption | ((repeat (first | assumption | exact va_up_self _ _ _ | refine (va_up_ne _ _ (by assumption)).trans ?_)); done) | (simp [va_up, *] <;> rfl)) (k_X0_appendFour hip.1 hip.2 (x := a0) (by omega)) rfl (by first | decide | exact Nat.le_of_ble_eq_true rfl) ⟨by decide, by decide, by decide, by decide⟩ (fun _ _ h => False.elim h) (fun v M' hp => ?_)
    obtain ⟨rfl, f31, hB31⟩ := hp
    have hO31 := za4_ok (x := a0) hip.2 (by omega)
    have g31 := f31
    have ob31 := (hF.fr g31 n45)
    unfold hFo at ob31
    have oi31 := hB31.1
    refine z_aload_n C dX8_appendInput_34 rfl ?_
    refine z_get C dX8_appendInput_35 fl_X8_44 (by first | assumption | ((repeat (first | assumption | exact va_up_self _ _ _ | refine (va_up_ne _ _ (by assumption)).trans ?_)); done) | (simp [va_up, *] <;> rfl)) rfl ?_
    refine z_iload_n C dX8_appendInput_38 rfl ?_
    refine z_callV C dX8_appendInput_39 lk_X8_116 mw_X0_appendFour mi_X0_appendFour ms_X0_appendFour rfl (by first | assumption | ((repeat (first | assumption | exact va_up_self _ _ _ | refine (va_up_ne _ _ (by assumption)).trans ?_)); done) | (simp [va_up, *] <;> rfl)) (k_X0_appendFour hB31 hO31 (x := a1) (by omega)) rfl (by first | decide | exact Nat.le_of_ble_eq_true rfl) ⟨by decide, by decide, by decide, by decide⟩ (fun _ _ h => False.elim h) (fun v M' hp => ?_)
    obtain ⟨rfl, f39, hB39⟩ := hp
    have hO39 := za4_ok (x := a1) hO31 (by omega)
    rw [show yIn Y + 4 + 4 = yIn Y + 8 by omega] at hB39 hO39
    have g39 := g31.tr f39 (fun _ h => h) (fun _ h => h) (S := [U 4, U 5])
    have ob39 := (hF.fr g39 n45)
    unfold hFo at ob39
    have oi39 := hB39.1
    refine z_aload_n C dX8_appendInput_42 rfl ?_
    refine z_get C dX8_appendInput_43 fl_X8_44 (by first | assumption | ((repeat (first | assumption | exact va_up_self _ _ _ | refine (va_up_ne _ _ (by assumption)).trans ?_)); done) | (simp [va_up, *] <;> rfl)) rfl ?_
    refine z_iload_n C dX8_appendInput_46 rfl ?_
    refine z_callV C dX8_appendInput_47 lk_X8_116 mw_X0_appendFour mi_X0_appendFour ms_X0_appendFour rfl (by first | assumption | ((repeat (first | assumption | exact va_up_self _ _ _ | refine (va_up_ne _ _ (by assumption)).trans ?_)); done) | (simp [va_up, *] <;> rfl)) (k_X0_appendFour hB39 hO39 (x := a2) (by omega)) rfl (by first | decide | exact Nat.le_of_ble_eq_true rfl) ⟨by decide, by decide, by decide, by decide⟩ (fun _ _ h => False.elim h) (fun v M' hp => ?_)
    obtain ⟨rfl, f47, hB47⟩ := hp
    have hO47 := za4_ok (x := a2) hO39 (by omega)
    rw [show yIn Y + 8 + 4 = yIn Y + 12 by omega] at hB47 hO47
    have g47 := g39.tr f47 (fun _ h => h) (fun _ h => h) (S := [U 4, U 5])
    have ob47 := (hF.fr g47 n45)
    unfold hFo at ob47
    have oi47 := hB47.1
    refine z_aload_n C dX8_appendInput_50 rfl ?_
    refine z_get C dX8_appendInput_51 fl_X8_44 (by first | assumption | ((repeat (first | assumption | exact va_up_self _ _ _ | refine (va_up_ne _ _ (by assumption)).trans ?_)); done) | (simp [va_up, *] <;> rfl)) rfl ?_
    refine z_iload C dX8_appendInput_54 rfl ?_
    refine z_callV C dX8_appendInput_56 lk_X8_116 mw_X0_appendFour mi_X0_appendFour ms_X0_appendFour rfl (by first | assumption | ((repeat (first | assumption | exact va_up_self _ _ _ | refine (va_up_ne _ _ (by assumption)).trans ?_)); done) | (simp [va_up, *] <;> rfl)) (k_X0_appendFour hB47 hO47 (x := a3) (by omega)) rfl (by first | decide | exact Nat.le_of_ble_eq_true rfl) ⟨by decide, by decide, by decide, by decide⟩ (fun _ _ h => False.elim h) (fun v M' hp => ?_)
    obtain ⟨rfl, f56, hB56⟩ := hp
    have hO56 := za4_ok (x := a3) hO47 (by omega)
    rw [show yIn Y + 12 + 4 = yIn Y + 16 by omega] at hB56 hO56
    have g56 := g47.tr f56 (fun _ h => h) (fun _ h => h) (S := [U 4, U 5])
    have ob56 := (hF.fr g56 n45)
    unfold hFo at ob56
    have oi56 := hB56.1
    refine z_aload_n C dX8_appendInput_59 rfl ?_
    refine z_get C dX8_appendInput_60 fl_X8_44 (by first | assumption | ((repeat (first | assumption | exact va_up_self _ _ _ | refine (va_up_ne _ _ (by assumption)).trans ?_)); done) | (simp [va_up, *] <;> rfl)) rfl ?_
    refine z_iload C dX8_appendInput_63 rfl ?_
    refine z_callV C dX8_appendInput_65 lk_X8_116 mw_X0_appendFour mi_X0_appendFour ms_X0_appendFour rfl (by first | assumption | ((repeat (first | assumption | exact va_up_self _ _ _ | refine (va_up_ne _ _ (by assumption)).trans ?_)); done) | (simp [va_up, *] <;> rfl)) (k_X0_appendFour hB56 hO56 (x := a4) (by omega)) rfl (by first | decide | exact Nat.le_of_ble_eq_true rfl) ⟨by decide, by decide, by decide, by decide⟩ (fun _ _ h => False.elim h) (fun v M' hp => ?_)
    obtain ⟨rfl, f65, hB65⟩ := hp
    have hO65 := za4_ok (x := a4) hO56 (by omega)
    rw [show yIn Y + 16 + 4 = yIn Y + 20 by omega] at hB65 hO65
    have g65 := g56.tr f65 (fun _ h => h) (fun _ h => h) (S := [U 4, U 5])
    have ob65 := (hF.fr g65 n45)
    unfold hFo at ob65
    have oi65 := hB65.1
    refine z_aload_n C dX8_appendInput_68 rfl ?_
    refine z_get C dX8_appendInput_69 fl_X8_44 (by first | assumption | ((repeat (first | assumption | exact va_up_self _ _ _ | refine (va_up_ne _ _ (by assumption)).trans ?_)); done) | (simp [va_up, *] <;> rfl)) rfl ?_
    refine z_get C dX8_appendInput_72 fl_X8_107 (by first | assumption | ((repeat (first | assumption | exact va_up_self _ _ _ | refine (va_up_ne _ _ (by assumption)).trans ?_)); done) | (simp [va_up, *] <;> rfl)) rfl ?_
    refine z_iret C hQ dX8_appendInput_75 rfl (by decide) (by decide) ?_
    exact fI'.of (.inp hI hZ hF hX ho1 g65 hB65 hO65 (za5_cg (by omega) hi1)) (if_pos (by omega))
  · refine z_throw C hQ xt_ISE (si := 8) rfl dX8_appendInput_16 dX8_appendInput_19 dX8_appendInput_20 dX8_appendInput_22 dX8_appendInput_25 ⟨by decide, by decide, by decide, by decide⟩ (by decide) (by decide) ?_
    exact fX.o1 (.rf hc0) (if_neg (by omega))
noncomputable def q_truncateInput (Y : zSys) (ll : Int) : Int × Int := if 0 ≤ ll ∧ ll ≤ yIn Y then (0, ll) else (1, 0)
noncomputable def y_truncateInput (Y : zSys) (ll : Int) : zSys := ySI Y (yIf Y) ll
set_option maxHeartbeats 4000000 in
set_option maxRecDepth 100000 in
theorem k_X8_truncateInput {l : Launch} {γ : zG} {M : zM} {U : Nat → Nat} {Y : zSys} {ll : Int} (hc : hFc γ M U Y) (hk : yOk Y) (hll : zR ll) :
    zCon l γ yX8_truncateInput cX8_truncateInput 2 (some .int) [.ref (U 0), .int (zi ll)] M 6 82 1 6 (fI' γ M U (y_truncateInput Y ll) (q_truncateInput Y ll)) (fX γ M U Y (q_truncateInput Y ll) xIAE xIAE) := by
  have hc0 := hc
  obtain ⟨hI, pn, Z, iF, oF, hZ, hF, hX, hi1, ho1⟩ := hc
  have hob := id hF
  unfold hFo at hob
  have hD : hSt γ M (zUb U 0) (yS Y) := hZ.2.1 ▸ hX.st0
  have hst := hD.ob
  have hkn := hk.1.1
  have hkk := hk.1.nk
  have hRQ := hX.2.2.2.2.2.2.1
  have hok := fun M' => @fOk.rk γ M M' U Y pn Z iF oF hI hZ hF hX hi1 ho1
  have hip := hX.2.2.2.1
  have hin1 := hip.1.1
  have hinr := hip.2.1
  have n45 : U 0 ∉ [U 4, U 5] := zUn hI (L := [4, 5]) (by decide) (by decide) (by decide)
  refine zEnter [some (.ref (U 0)), some (.int (zi ll))] (by decide +kernel) rfl rfl (Nat.le_of_ble_eq_true rfl) ?_
  intro p e s m args below meth c Q C hin hQ
  unfold zR at hll
  refine z_iload_n C dX8_truncateInput_0 rfl ?_
  refine z_if_ltZ (tgt := 15) C dX8_truncateInput_1 (by decide) (by omega) (fun h1 => ?_) (fun h1 => ?_)
  · refine z_throw C hQ xt_IAE (si := 9) rfl dX8_truncateInput_15 dX8_truncateInput_18 dX8_truncateInput_19 dX8_truncateInput_21 dX8_truncateInput_24 ⟨by decide, by decide, by decide, by decide⟩ (by decide) (by decide) ?_
    exact fX.o1 (.rf hc0) (if_neg (by omega))
  · refine z_iload_n C dX8_truncateInput_4 rfl ?_
    refine z_aload_n C dX8_truncateInput_5 rfl ?_
    refine z_get C dX8_truncateInput_6 fl_X8_44 (by first | assumption | ((repeat (first | assumption | exact va_up_self _ _ _ | refine (va_up_ne _ _ (by assumption)).trans ?_)); done) | (simp [va_up, *] <;> rfl)) rfl ?_
    refine z_get C dX8_truncateInput_9 fl_X8_107 (by first | assumption | ((repeat (first | assumption | exact va_up_self _ _ _ | refine (va_up_ne _ _ (by assumption)).trans ?_)); done) | (simp [va_up, *] <;> rfl)) rfl ?_
    refine z_icmp_leZ (tgt := 25) C dX8_truncateInput_12 (by decide) (by omega) (by omega) (fun h12 => ?_) (fun h12 => ?_)
    · refine z_aload_n C dX8_truncateInput_25 rfl ?_
      refine z_get C dX8_truncateInput_26 fl_X8_44 (by first | assumption | ((repeat (first | assumption | exact va_up_self _ _ _ | refine (va_up_ne _ _ (by assumption)).trans ?_)); done) | (simp [va_up, *] <;> rfl)) rfl ?_
      refine z_iload_n C dX8_truncateInput_29 rfl ?_
      refine z_put C dX8_truncateInput_30 fl_X8_107 (by first | assumption | ((repeat (first | assumption | exact va_up_self _ _ _ | refine (va_up_ne _ _ (by assumption)).trans ?_)); done) | (simp [va_up, *] <;> rfl)) rfl rfl (by simp) ?_
      refine z_iload_n C dX8_truncateInput_33 rfl ?_
      refine z_iret C hQ dX8_truncateInput_34 rfl (by decide) (by decide) ?_
      refine fI'.of (.inp hI hZ hF hX ho1 (f' := iF) (zFr.up (by simp)) ⟨va_up_self _ _ _, by rw [va_up_ne _ _ (zne_ka hip.1.1 hip.1.2).symm]; exact hip.1.2⟩ ⟨by omega, hip.2.2.1, fun j hj => hip.2.2.2 j (by omega)⟩ (fun j hj => hi1 j (by omega))) (if_pos (by omega))
    · refine z_throw C hQ xt_IAE (si := 9) rfl dX8_truncateInput_15 dX8_truncateInput_18 dX8_truncateInput_19 dX8_truncateInput_21 dX8_truncateInput_24 ⟨by decide, by decide, by decide, by decide⟩ (by decide) (by decide) ?_
      exact fX.o1 (.rf hc0) (if_neg (by omega))
noncomputable def q_endYear (Y : zSys) : Int × Int := (0, sYr (yS Y) + 1)
noncomputable def y_endYear (Y : zSys) : zSys := ySet (yRem Y) (sYear (yS Y))
set_option maxHeartbeats 4000000 in
set_option maxRecDepth 100000 in
theorem k_X8_endYear {l : Launch} {γ : zG} {M : zM} {U : Nat → Nat} {Y : zSys} (hc : hFc γ M U Y) (hk : yOk Y)  :
    zCon l γ yX8_endYear cX8_endYear 1 (some .int) [.ref (U 0)] M 5 102 0 0 (fI' γ M U (y_endYear Y) (q_endYear Y)) (fX γ M U Y (q_endYear Y) xISE xISE) := by
  have hc0 := hc
  obtain ⟨hI, pn, Z, iF, oF, hZ, hF, hX, hi1, ho1⟩ := hc
  have hob := id hF
  unfold hFo at hob
  have hD : hSt γ M (zUb U 0) (yS Y) := hZ.2.1 ▸ hX.st0
  have hst := hD.ob
  have hkn := hk.1.1
  have hkk := hk.1.nk
  have hRQ := hX.2.2.2.2.2.2.1
  have hok := fun M' => @fOk.rk γ M M' U Y pn Z iF oF hI hZ hF hX hi1 ho1
  refine zEnter [some (.ref (U 0))] (by decide +kernel) rfl rfl (Nat.le_of_ble_eq_true rfl) ?_
  intro p e s m args below meth c Q C hin hQ
  refine z_aload_n C dX8_endYear_0 rfl ?_
  refine z_callV C dX8_endYear_1 lk_X8_136 mw_X8_remember mi_X8_remember ms_X8_remember rfl (by first | assumption | ((repeat (first | assumption | exact va_up_self _ _ _ | refine (va_up_ne _ _ (by assumption)).trans ?_)); done) | (simp [va_up, *] <;> rfl)) (k_X8_remember hc0 hk) rfl (by first | decide | exact Nat.le_of_ble_eq_true rfl) ⟨by decide, by decide, by decide, by decide⟩ (fun _ _ h => False.elim h) (fun v M' hp => ?_)
  obtain ⟨rfl, f1, hc1⟩ := hp
  have hk1 := hk.rem
  obtain ⟨-, pn1, Z1, iF1, oF1, hZ1, hF1, hX1, hi1, ho1⟩ := id hc1
  have ob1 := id hF1
  unfold hFo at ob1
  have hD1 : hSt γ _ (zUb U 0) (yS Y) := hZ1.2.1 ▸ hX1.st0
  have hst1 := hD1.ob
  have hro1 := fOk.mk' f1 hc1
  refine z_aload_n C dX8_endYear_4 rfl ?_
  refine z_get C dX8_endYear_5 fl_X8_13 (by first | assumption | ((repeat (first | assumption | exact va_up_self _ _ _ | refine (va_up_ne _ _ (by assumption)).trans ?_)); done) | (simp [va_up, *] <;> rfl)) rfl ?_
  refine z_callV C dX8_endYear_8 lk_X8_325 mw_X7_passYear mi_X7_passYear ms_X7_passYear rfl hst1 (k_X7_passYear (hI.b (by decide)) hD1 hkk) rfl (by first | decide | exact Nat.le_of_ble_eq_true rfl) ⟨by decide, by decide, by decide, by decide⟩ (fun _ _ h => False.elim h) (fun v M' hp => ?_)
  obtain ⟨rfl, f8, hD8⟩ := hp
  have hst8 := hD8.ob
  have hok8 := hro1.tr (.st hI hZ1 hF1 hX1 hi1 ho1 f8 hD8)
  have ob8 := (hF1.fr f8 (zUd hI (a := 0) (by decide) (by decide)))
  unfold hFo at ob8
  refine z_aload_n C dX8_endYear_11 rfl ?_
  refine z_get C dX8_endYear_12 fl_X8_13 (by first | assumption | ((repeat (first | assumption | exact va_up_self _ _ _ | refine (va_up_ne _ _ (by assumption)).trans ?_)); done) | (simp [va_up, *] <;> rfl)) rfl ?_
  refine z_get C dX8_endYear_15 fl_X8_146 (by first | assumption | ((repeat (first | assumption | exact va_up_self _ _ _ | refine (va_up_ne _ _ (by assumption)).trans ?_)); done) | (simp [va_up, *] <;> rfl)) rfl ?_
  refine z_iret C hQ dX8_endYear_18 rfl (by decide) (by decide) ?_
  exact fI'.of hok8 rfl
noncomputable def q_forget (Y : zSys) (rr : Int) : Int × Int := zqR (yS Y) rr (0, zsum (zind (rC (sRd (yS Y) rr.toNat))) 0 20439)
noncomputable def y_forget (Y : zSys) (rr : Int) : zSys := ySet (yRem Y) (sSetR (yS Y) rr.toNat (rClr (sRd (yS Y) rr.toNat)))
set_option maxHeartbeats 4000000 in
set_option maxRecDepth 100000 in
theorem k_X8_forget {l : Launch} {γ : zG} {M : zM} {U : Nat → Nat} {Y : zSys} {rr : Int} (hc : hFc γ M U Y) (hk : yOk Y) (hrr : zR rr) :
    zCon l γ yX8_forget cX8_forget 4 (some .int) [.ref (U 0), .int (zi rr)] M 7 104 1 6 (fI' γ M U (y_forget Y rr) (q_forget Y rr)) (fX γ M U Y (q_forget Y rr) xIOB xIAE) := by
  have hc0 := hc
  obtain ⟨hI, pn, Z, iF, oF, hZ, hF, hX, hi1, ho1⟩ := hc
  have hob := id hF
  unfold hFo at hob
  have hD : hSt γ M (zUb U 0) (yS Y) := hZ.2.1 ▸ hX.st0
  have hst := hD.ob
  have hkn := hk.1.1
  have hkk := hk.1.nk
  have hRQ := hX.2.2.2.2.2.2.1
  have hok := fun M' => @fOk.rk γ M M' U Y pn Z iF oF hI hZ hF hX hi1 ho1
  refine zEnter [some (.ref (U 0)), some (.int (zi rr)), none, none] (by decide +kernel) rfl rfl (Nat.le_of_ble_eq_true rfl) ?_
  intro p e s m args below meth c Q C hin hQ
  refine z_aload_n C dX8_forget_0 rfl ?_
  refine z_iload_n C dX8_forget_1 rfl ?_
  refine z_callV C dX8_forget_2 lk_X8_149 mw_X8_existingReader mi_X8_existingReader ms_X8_existingReader rfl (by first | assumption | ((repeat (first | assumption | exact va_up_self _ _ _ | refine (va_up_ne _ _ (by assumption)).trans ?_)); done) | (simp [va_up, *] <;> rfl)) (k_X8_existingReader hF hD hkk hrr) rfl (by first | decide | exact Nat.le_of_ble_eq_true rfl) ⟨by decide, by decide, by decide, by decide⟩ (fun X M' h => by obtain ⟨rfl, rfl, h⟩ := h; exact z_out C hQ (by decide) (by decide) (fX.o1 (.rf hc0) (zqR_f h))) (fun v M' hp => ?_)
  obtain ⟨rfl, g2, rfl⟩ := hp
  have hro := hD.rdo (i := rr.toNat) (by omega) (by omega)
  have hR := hD.rd (i := rr.toNat) (by omega) (by omega)
  obtain ⟨cn, hco, hcz, hcr⟩ := hD.rdc (i := rr.toNat) (by omega) (by omega)
  have hrk := (hk.1.2.2 rr.toNat (by omega)).1
  refine z_astore_n C dX8_forget_5 (by decide) ?_
  refine z_aload_n C dX8_forget_6 rfl ?_
  refine z_callV C dX8_forget_7 lk_X8_136 mw_X8_remember mi_X8_remember ms_X8_remember rfl (by first | assumption | ((repeat (first | assumption | exact va_up_self _ _ _ | refine (va_up_ne _ _ (by assumption)).trans ?_)); done) | (simp [va_up, *] <;> rfl)) (k_X8_remember hc0 hk) rfl (by first | decide | exact Nat.le_of_ble_eq_true rfl) ⟨by decide, by decide, by decide, by decide⟩ (fun _ _ h => False.elim h) (fun v M' hp => ?_)
  obtain ⟨rfl, f7, hc7⟩ := hp
  have hk7 := hk.rem
  obtain ⟨-, pn7, Z7, iF7, oF7, hZ7, hF7, hX7, hi7, ho7⟩ := id hc7
  have ob7 := id hF7
  unfold hFo at ob7
  have hD7 : hSt γ _ (zUb U 0) (yS Y) := hZ7.2.1 ▸ hX7.st0
  have hst7 := hD7.ob
  have hro7 := fOk.mk' f7 hc7
  have hR7 := hD7.rd (i := rr.toNat) (by omega) (by omega)
  have hRo7 := hD7.rdo (i := rr.toNat) (by omega) (by omega)
  obtain ⟨cn7, hco7, hcz7, hcr7⟩ := hD7.rdc (i := rr.toNat) (by omega) (by omega)
  refine z_aload_n C dX8_forget_10 rfl ?_
  refine z_get C dX8_forget_11 fl_X8_188 (by first | assumption | ((repeat (first | assumption | exact va_up_self _ _ _ | refine (va_up_ne _ _ (by assumption)).trans ?_)); done) | (simp [va_up, *] <;> rfl)) rfl ?_
  refine z_get C dX8_forget_14 fl_X8_215 (by first | assumption | ((repeat (first | assumption | exact va_up_self _ _ _ | refine (va_up_ne _ _ (by assumption)).trans ?_)); done) | (simp [va_up, *] <;> rfl)) rfl ?_
  refine z_istore_n C dX8_forget_17 (by decide) ?_
  refine z_aload_n C dX8_forget_18 rfl ?_
  refine z_callV C dX8_forget_19 lk_X8_322 mw_X6_clearTrainings mi_X6_clearTrainings ms_X6_clearTrainings rfl hRo7 (k_X6_clearTrainings hR7) rfl (by first | decide | exact Nat.le_of_ble_eq_true rfl) ⟨by decide, by decide, by decide, by decide⟩ (fun _ _ h => False.elim h) (fun v M' hp => ?_)
  obtain ⟨rfl, f19, hR19⟩ := hp
  refine z_iload_n C dX8_forget_22 rfl ?_
  refine z_iret C hQ dX8_forget_23 rfl (by decide) (by decide) ?_
  rw [hcz7]
  exact fI'.of (hro7.tr (.st hI hZ7 hF7 hX7 hi7 ho7 (f19.tr zFr.rf (zFA_sub (zUb U 0) (by omega)) (fun _ h => h)) (hD7.setR (hI.b (by decide)) (by omega) f19 hR19))) (zqR_t g2)
noncomputable def q_setEscapeMethod (Y : zSys) (rr mm : Int) : Int × Int := zqR (yS Y) rr (zq2 (0 ≤ mm ∧ mm ≤ 2) (0, rMe (sRd (yS Y) rr.toNat)))
noncomputable def y_setEscapeMethod (Y : zSys) (rr mm : Int) : zSys := ySet (yRem Y) (sSetR (yS Y) rr.toNat (rSetM (sRd (yS Y) rr.toNat) mm))
set_option maxHeartbeats 4000000 in
set_option maxRecDepth 100000 in
theorem k_X8_setEscapeMethod {l : Launch} {γ : zG} {M : zM} {U : Nat → Nat} {Y : zSys} {rr mm : Int} (hc : hFc γ M U Y) (hk : yOk Y) (hrr : zR rr) (hmm : zR mm) :
    zCon l γ yX8_setEscapeMethod cX8_setEscapeMethod 5 (some .int) [.ref (U 0), .int (zi rr), .int (zi mm)] M 7 104 2 12 (fI' γ M U (y_setEscapeMethod Y rr mm) (q_setEscapeMethod Y rr mm)) (fX γ M U Y (q_setEscapeMethod Y rr mm) xIOB xIAE) := by
  have hc0 := hc
  obtain ⟨hI, pn, Z, iF, oF, hZ, hF, hX, hi1, ho1⟩ := hc
  have hob := id hF
  unfold hFo at hob
  have hD : hSt γ M (zUb U 0) (yS Y) := hZ.2.1 ▸ hX.st0
  have hst := hD.ob
  have hkn := hk.1.1
  have hkk := hk.1.nk
  have hRQ := hX.2.2.2.2.2.2.1
  have hok := fun M' => @fOk.rk γ M M' U Y pn Z iF oF hI hZ hF hX hi1 ho1
  refine zEnter [some (.ref (U 0)), some (.int (zi rr)), some (.int (zi mm)), none, none] (by decide +kernel) rfl rfl (Nat.le_of_ble_eq_true rfl) ?_
  intro p e s m args below meth c Q C hin hQ
  refine z_aload_n C dX8_setEscapeMethod_0 rfl ?_
  refine z_iload_n C dX8_setEscapeMethod_1 rfl ?_
  refine z_callV C dX8_setEscapeMethod_2 lk_X8_149 mw_X8_existingReader mi_X8_existingReader ms_X8_existingReader rfl (by first | assumption | ((repeat (first | assumption | exact va_up_self _ _ _ | refine (va_up_ne _ _ (by assumption)).trans ?_)); done) | (simp [va_up, *] <;> rfl)) (k_X8_existingReader hF hD hkk hrr) rfl (by first | decide | exact Nat.le_of_ble_eq_true rfl) ⟨by decide, by decide, by decide, by decide⟩ (fun X M' h => by obtain ⟨rfl, rfl, h⟩ := h; exact z_out C hQ (by decide) (by decide) (fX.o1 (.rf hc0) (zqR_f h))) (fun v M' hp => ?_)
  obtain ⟨rfl, g2, rfl⟩ := hp
  have hro := hD.rdo (i := rr.toNat) (by omega) (by omega)
  have hR := hD.rd (i := rr.toNat) (by omega) (by omega)
  obtain ⟨cn, hco, hcz, hcr⟩ := hD.rdc (i := rr.toNat) (by omega) (by omega)
  have hrk := (hk.1.2.2 rr.toNat (by omega)).1
  refine z_astore_n C dX8_setEscapeMethod_5 (by decide) ?_
  refine z_iload_n C dX8_setEscapeMethod_6 rfl ?_
  refine z_callS C dX8_setEscapeMethod_7 lk_X8_289 mw_X8_requireMethod mst_X8_requireMethod (k_X8_requireMethod hmm) rfl (by first | decide | exact Nat.le_of_ble_eq_true rfl) ⟨by decide, by decide, by decide, by decide⟩ (fun X M' h => by obtain ⟨rfl, rfl, h⟩ := h; exact z_out C hQ (by decide) (by decide) (fX.o2 (.rf hc0) ((zqR_t g2).trans (zq2_f h)))) (fun v M' hp => ?_)
  obtain ⟨rfl, rfl, g7⟩ := hp
  refine z_aload_n C dX8_setEscapeMethod_10 rfl ?_
  refine z_callV C dX8_setEscapeMethod_11 lk_X8_136 mw_X8_remember mi_X8_remember ms_X8_remember rfl (by first | assumption | ((repeat (first | assumption | exact va_up_self _ _ _ | refine (va_up_ne _ _ (by assumption)).trans ?_)); done) | (simp [va_up, *] <;> rfl)) (k_X8_remember hc0 hk) rfl (by first | decide | exact Nat.le_of_ble_eq_true rfl) ⟨by decide, by decide, by decide, by decide⟩ (fun _ _ h => False.elim h) (fun v M' hp => ?_)
  obtain ⟨rfl, f11, hc11⟩ := hp
  have hk11 := hk.rem
  obtain ⟨-, pn11, Z11, iF11, oF11, hZ11, hF11, hX11, hi11, ho11⟩ := id hc11
  have ob11 := id hF11
  unfold hFo at ob11
  have hD11 : hSt γ _ (zUb U 0) (yS Y) := hZ11.2.1 ▸ hX11.st0
  have hst11 := hD11.ob
  have hro11 := fOk.mk' f11 hc11
  have hR11 := hD11.rd (i := rr.toNat) (by omega) (by omega)
  have hRo11 := hD11.rdo (i := rr.toNat) (by omega) (by omega)
  obtain ⟨cn11, hco11, hcz11, hcr11⟩ := hD11.rdc (i := rr.toNat) (by omega) (by omega)
  refine z_aload_n C dX8_setEscapeMethod_14 rfl ?_
  refine z_get C dX8_setEscapeMethod_15 fl_X8_164 (by first | assumption | ((repeat (first | assumption | exact va_up_self _ _ _ | refine (va_up_ne _ _ (by assumption)).trans ?_)); done) | (simp [va_up, *] <;> rfl)) rfl ?_
  refine z_istore C dX8_setEscapeMethod_18 (by decide) ?_
  refine z_aload_n C dX8_setEscapeMethod_20 rfl ?_
  refine z_iload_n C dX8_setEscapeMethod_21 rfl ?_
  refine z_put C dX8_setEscapeMethod_22 fl_X8_164 (by first | assumption | ((repeat (first | assumption | exact va_up_self _ _ _ | refine (va_up_ne _ _ (by assumption)).trans ?_)); done) | (simp [va_up, *] <;> rfl)) rfl rfl (by simp) ?_
  refine z_iload C dX8_setEscapeMethod_25 rfl ?_
  refine z_iret C hQ dX8_setEscapeMethod_27 rfl (by decide) (by decide) ?_
  obtain ⟨n1, n2, n3, n4, n5, -⟩ := hR11.ne
  obtain ⟨b0, ⟨ga, b1, b1'⟩, b2, gb, b5, b5'⟩ := id hR11
  have f22 : ∀ e, zFr M' (va_up M' (zUb U 0 (3 + 6 * rr.toNat)) e) [dRa (zUb U 0) rr.toNat 0] := fun e => zFr.up (List.mem_singleton.mpr rfl)
  have f23 : ∀ e, zFr M' (va_up M' (zUb U 0 (3 + 6 * rr.toNat)) e) (zFA (dRa (zUb U 0) rr.toNat)) := fun e => zFr.up (List.mem_cons_self)
  refine fI'.of (hro11.tr (.st hI hZ11 hF11 hX11 hi11 ho11 ((f23 _).tr zFr.rf (zFA_sub (zUb U 0) (by omega)) (fun _ h => h)) (hD11.setR (hI.b (by decide)) (by omega) (f23 _) ⟨va_up_self _ _ _, ⟨ga, (f22 _).at (by simp [n1.symm]) b1, b1'⟩, b2.fr (f22 _) (by simp [n2.symm]) (by simp [n3.symm]) (by simp [n4.symm]), gb, (f22 _).at (by simp [n5.symm]) b5, b5'⟩))) ((zqR_t g2).trans (zq2_t g7))
noncomputable def q_train (Y : zSys) (rr dd : Int) : Int × Int := zqR (yS Y) rr (zqD (yS Y) dd (0, zgf (zdoc (rC (sRd (yS Y) rr.toNat)) (sDc (yS Y) dd.toNat)) (sDc (yS Y) dd.toNat)))
noncomputable def y_train (Y : zSys) (rr dd : Int) : zSys := ySet (yRem Y) (sTrn (yS Y) rr dd)
set_option maxHeartbeats 4000000 in
set_option maxRecDepth 100000 in
theorem k_X8_train {l : Launch} {γ : zG} {M : zM} {U : Nat → Nat} {Y : zSys} {rr dd : Int} (hc : hFc γ M U Y) (hk : yOk Y) (hrr : zR rr) (hdd : zR dd) :
    zCon l γ yX8_train cX8_train 5 (some .int) [.ref (U 0), .int (zi rr), .int (zi dd)] M 7 145 2 12 (fI' γ M U (y_train Y rr dd) (q_train Y rr dd)) (fX γ M U Y (q_train Y rr dd) xIOB xIAE) := by
  have hc0 := hc
  obtain ⟨hI, pn, Z, iF, oF, hZ, hF, hX, hi1, ho1⟩ := hc
  have hob := id hF
  unfold hFo at hob
  have hD : hSt γ M (zUb U 0) (yS Y) := hZ.2.1 ▸ hX.st0
  have hst := hD.ob
  have hkn := hk.1.1
  have hkk := hk.1.nk
  have hRQ := hX.2.2.2.2.2.2.1
  have hok := fun M' => @fOk.rk γ M M' U Y pn Z iF oF hI hZ hF hX hi1 ho1
  refine zEnter [some (.ref (U 0)), some (.int (zi rr)), some (.int (zi dd)), none, none] (by decide +kernel) rfl rfl (Nat.le_of_ble_eq_true rfl) ?_
  intro p e s m args below meth c Q C hin hQ
  refine z_aload_n C dX8_train_0 rfl ?_
  refine z_iload_n C dX8_train_1 rfl ?_
  refine z_callV C dX8_train_2 lk_X8_149 mw_X8_existingReader mi_X8_existingReader ms_X8_existingReader rfl (by first | assumption | ((repeat (first | assumption | exact va_up_self _ _ _ | refine (va_up_ne _ _ (by assumption)).trans ?_)); done) | (simp [va_up, *] <;> rfl)) (k_X8_existingReader hF hD hkk hrr) rfl (by first | decide | exact Nat.le_of_ble_eq_true rfl) ⟨by decide, by decide, by decide, by decide⟩ (fun X M' h => by obtain ⟨rfl, rfl, h⟩ := h; exact z_out C hQ (by decide) (by decide) (fX.o1 (.rf hc0) (zqR_f h))) (fun v M' hp => ?_)
  obtain ⟨rfl, g2, rfl⟩ := hp
  have hro := hD.rdo (i := rr.toNat) (by omega) (by omega)
  have hR := hD.rd (i := rr.toNat) (by omega) (by omega)
  obtain ⟨cn, hco, hcz, hcr⟩ := hD.rdc (i := rr.toNat) (by omega) (by omega)
  have hrk := (hk.1.2.2 rr.toNat (by omega)).1
  refine z_astore_n C dX8_train_5 (by decide) ?_
  refine z_aload_n C dX8_train_6 rfl ?_
  refine z_iload_n C dX8_train_7 rfl ?_
  refine z_callV C dX8_train_8 lk_X8_170 mw_X8_existingDocument mi_X8_existingDocument ms_X8_existingDocument rfl (by first | assumption | ((repeat (first | assumption | exact va_up_self _ _ _ | refine (va_up_ne _ _ (by assumption)).trans ?_)); done) | (simp [va_up, *] <;> rfl)) (k_X8_existingDocument hF hD hkk hdd) rfl (by first | decide | exact Nat.le_of_ble_eq_true rfl) ⟨by decide, by decide, by decide, by decide⟩ (fun X M' h => by obtain ⟨rfl, rfl, h⟩ := h; exact z_out C hQ (by decide) (by decide) (fX.o1 (.rf hc0) ((zqR_t g2).trans (zqD_f h)))) (fun v M' hp => ?_)
  obtain ⟨rfl, g8, rfl⟩ := hp
  obtain ⟨sy, hX8, hXk8, hXv8⟩ := hD.dk (d := dd.toNat) (by omega) (by omega)
  have obd8 := hX8.1
  refine z_astore C dX8_train_11 (by decide) ?_
  refine z_aload_n C dX8_train_13 rfl ?_
  refine z_callV C dX8_train_14 lk_X8_136 mw_X8_remember mi_X8_remember ms_X8_remember rfl (by first | assumption | ((repeat (first | assumption | exact va_up_self _ _ _ | refine (va_up_ne _ _ (by assumption)).trans ?_)); done) | (simp [va_up, *] <;> rfl)) (k_X8_remember hc0 hk) rfl (by first | decide | exact Nat.le_of_ble_eq_true rfl) ⟨by decide, by decide, by decide, by decide⟩ (fun _ _ h => False.elim h) (fun v M' hp => ?_)
  obtain ⟨rfl, f14, hc14⟩ := hp
  have hk14 := hk.rem
  obtain ⟨-, pn14, Z14, iF14, oF14, hZ14, hF14, hX14, hi14, ho14⟩ := id hc14
  have ob14 := id hF14
  unfold hFo at ob14
  have hD14 : hSt γ _ (zUb U 0) (yS Y) := hZ14.2.1 ▸ hX14.st0
  have hst14 := hD14.ob
  have hro14 := fOk.mk' f14 hc14
  have hR14 := hD14.rd (i := rr.toNat) (by omega) (by omega)
  have hRo14 := hD14.rdo (i := rr.toNat) (by omega) (by omega)
  obtain ⟨cn14, hco14, hcz14, hcr14⟩ := hD14.rdc (i := rr.toNat) (by omega) (by omega)
  obtain ⟨sy14, hY14, hYk14, hYv14⟩ := hD14.dk (d := dd.toNat) (by omega) (by omega)
  have hYo14 := hY14.1
  refine z_aload_n C dX8_train_17 rfl ?_
  refine z_get C dX8_train_18 fl_X8_188 (by first | assumption | ((repeat (first | assumption | exact va_up_self _ _ _ | refine (va_up_ne _ _ (by assumption)).trans ?_)); done) | (simp [va_up, *] <;> rfl)) rfl ?_
  refine z_aload C dX8_train_21 rfl ?_
  refine z_callV C dX8_train_23 lk_X8_274 mw_X2_countDocument mi_X2_countDocument ms_X2_countDocument rfl hco14 (k_X2_countDocument hR14.2.2.1 hY14 hYk14 ⟨zI_ne (hI.b (k := 0) (by decide)) (by omega) (by omega) (by omega), zI_ne (hI.b (k := 0) (by decide)) (by omega) (by omega) (by omega)⟩ (hk.1.rm (by omega)) (hKy_of (m := (sDn (yS Y)).toNat) (i := dd.toNat) (by omega) (hk.1.2.1 dd.toNat (by omega)) hYv14)) rfl (by first | decide | exact Nat.le_of_ble_eq_true rfl) ⟨by decide, by decide, by decide, by decide⟩ (fun _ _ h => False.elim h) (fun v M' hp => ?_)
  obtain ⟨rfl, f23, hC23⟩ := hp
  rw [zdoc_eq hYv14] at hC23
  have hR23 := hR14.setC f23 hC23
  have g23 := zF3_fa (dRa (zUb U 0) rr.toNat) f23
  have hY23 := hY14.fr g23 (zA_nin (hI.b (k := 0) (by decide)) (by omega) (by omega) (by omega)) (zA_nin (hI.b (k := 0) (by decide)) (by omega) (by omega) (by omega))
  have hYo23 := hY23.1
  have hRo23 := hR23.1
  rw [show dRa (zUb U 0) rr.toNat 0 = zUb U 0 (3 + 6 * rr.toNat) from rfl] at hRo23
  refine z_aload_n C dX8_train_26 rfl ?_
  refine z_iload_n C dX8_train_27 rfl ?_
  refine z_aload C dX8_train_28 rfl ?_
  refine z_get C dX8_train_30 fl_X8_174 (by first | assumption | ((repeat (first | assumption | exact va_up_self _ _ _ | refine (va_up_ne _ _ (by assumption)).trans ?_)); done) | (simp [va_up, *] <;> rfl)) rfl ?_
  refine z_callV C dX8_train_33 lk_X8_319 mw_X6_recordTraining mi_X6_recordTraining ms_X6_recordTraining rfl hRo23 (k_X6_recordTraining (i := dd) (len := dLe (sDc (yS Y) dd.toNat)) hR23 (by omega)) rfl (by first | decide | exact Nat.le_of_ble_eq_true rfl) ⟨by decide, by decide, by decide, by decide⟩ (fun _ _ h => False.elim h) (fun v M' hp => ?_)
  obtain ⟨rfl, f33, hR33⟩ := hp
  have f34 := g23.tr f33 (fun _ h => h) (fun _ h => h) (S := zFA (dRa (zUb U 0) rr.toNat))
  have f35 := f34.tr zFr.rf (zFA_sub (zUb U 0) (by omega)) (fun _ h => h) (S := zFD (zUb U 0))
  have hD33 : hSt γ _ (zUb U 0) (sTrn (yS Y) rr dd) := hD14.setR (hI.b (by decide)) (by omega) f34 hR33
  have hok33 := fOk.st hI hZ14 hF14 hX14 hi14 ho14 f35 hD33
  obtain ⟨-, -, pn33, Z33, iF33, oF33, hZ33, hF33, hX33, hi33, ho33⟩ := id hok33
  have ob33 := id hF33
  unfold hFo at ob33
  have hY33 := hY23.fr f33 (zA_nin (hI.b (k := 0) (by decide)) (by omega) (by omega) (by omega)) (zA_nin (hI.b (k := 0) (by decide)) (by omega) (by omega) (by omega))
  have hRo33 := hR33.1
  rw [show dRa (zUb U 0) rr.toNat 0 = zUb U 0 (3 + 6 * rr.toNat) from rfl] at hRo33
  refine z_aload_n C dX8_train_36 rfl ?_
  refine z_aload_n C dX8_train_37 rfl ?_
  refine z_get C dX8_train_38 fl_X8_188 (by first | assumption | ((repeat (first | assumption | exact va_up_self _ _ _ | refine (va_up_ne _ _ (by assumption)).trans ?_)); done) | (simp [va_up, *] <;> rfl)) rfl ?_
  refine z_aload C dX8_train_41 rfl ?_
  refine z_callV C dX8_train_43 lk_X8_257 mw_X8_guessesFor mi_X8_guessesFor ms_X8_guessesFor rfl (by first | assumption | ((repeat (first | assumption | exact va_up_self _ _ _ | refine (va_up_ne _ _ (by assumption)).trans ?_)); done) | (simp [va_up, *] <;> rfl)) (k_X8_guessesFor hF33 hX33.2.2.2.2.2.2.1 hR33.2.2.1 hY33 hYk14) rfl (by first | decide | exact Nat.le_of_ble_eq_true rfl) ⟨by decide, by decide, by decide, by decide⟩ (fun _ _ h => False.elim h) (fun v M' hp => ?_)
  obtain ⟨r43, rfl, f43, hQ43, hr43, hz43⟩ := hp
  refine z_iret C hQ dX8_train_46 rfl (by decide) (by decide) ?_
  rw [hr43, zgf_eq hYv14]
  exact fI'.of ((hro14.tr hok33).tr (.rk hI hZ33 hF33 hX33 hi33 ho33 f43 hQ43)) ((zqR_t g2).trans (zqD_t g8))
noncomputable def q_learn (Y : zSys) (rr dd : Int) : Int × Int := zqR (yS Y) rr (zqD (yS Y) dd (0, zla (rC (sRd (yS Y) rr.toNat)) (sDc (yS Y) dd.toNat)))
noncomputable def y_learn (Y : zSys) (rr dd : Int) : zSys := ySet (yRem Y) (sTrn (yS Y) rr dd)
set_option maxHeartbeats 4000000 in
set_option maxRecDepth 100000 in
theorem k_X8_learn {l : Launch} {γ : zG} {M : zM} {U : Nat → Nat} {Y : zSys} {rr dd : Int} (hc : hFc γ M U Y) (hk : yOk Y) (hrr : zR rr) (hdd : zR dd) :
    zCon l γ yX8_learn cX8_learn 5 (some .int) [.ref (U 0), .int (zi rr), .int (zi dd)] M 7 145 2 12 (fI' γ M U (y_learn Y rr dd) (q_learn Y rr dd)) (fX γ M U Y (q_learn Y rr dd) xIOB xIAE) := by
  have hc0 := hc
  obtain ⟨hI, pn, Z, iF, oF, hZ, hF, hX, hi1, ho1⟩ := hc
  have hob := id hF
  unfold hFo at hob
  have hD : hSt γ M (zUb U 0) (yS Y) := hZ.2.1 ▸ hX.st0
  have hst := hD.ob
  have hkn := hk.1.1
  have hkk := hk.1.nk
  have hRQ := hX.2.2.2.2.2.2.1
  have hok := fun M' => @fOk.rk γ M M' U Y pn Z iF oF hI hZ hF hX hi1 ho1
  refine zEnter [some (.ref (U 0)), some (.int (zi rr)), some (.int (zi dd)), none, none] (by decide +kernel) rfl rfl (Nat.le_of_ble_eq_true rfl) ?_
  intro p e s m args below meth c Q C hin hQ
  refine z_aload_n C dX8_learn_0 rfl ?_
  refine z_iload_n C dX8_learn_1 rfl ?_
  refine z_callV C dX8_learn_2 lk_X8_149 mw_X8_existingReader mi_X8_existingReader ms_X8_existingReader rfl (by first | assumption | ((repeat (first | assumption | exact va_up_self _ _ _ | refine (va_up_ne _ _ (by assumption)).trans ?_)); done) | (simp [va_up, *] <;> rfl)) (k_X8_existingReader hF hD hkk hrr) rfl (by first | decide | exact Nat.le_of_ble_eq_true rfl) ⟨by decide, by decide, by decide, by decide⟩ (fun X M' h => by obtain ⟨rfl, rfl, h⟩ := h; exact z_out C hQ (by decide) (by decide) (fX.o1 (.rf hc0) (zqR_f h))) (fun v M' hp => ?_)
  obtain ⟨rfl, g2, rfl⟩ := hp
  have hro := hD.rdo (i := rr.toNat) (by omega) (by omega)
  have hR := hD.rd (i := rr.toNat) (by omega) (by omega)
  obtain ⟨cn, hco, hcz, hcr⟩ := hD.rdc (i := rr.toNat) (by omega) (by omega)
  have hrk := (hk.1.2.2 rr.toNat (by omega)).1
  refine z_astore_n C dX8_learn_5 (by decide) ?_
  refine z_aload_n C dX8_learn_6 rfl ?_
  refine z_iload_n C dX8_learn_7 rfl ?_
  refine z_callV C dX8_learn_8 lk_X8_170 mw_X8_existingDocument mi_X8_existingDocument ms_X8_existingDocument rfl (by first | assumption | ((repeat (first | assumption | exact va_up_self _ _ _ | refine (va_up_ne _ _ (by assumption)).trans ?_)); done) | (simp [va_up, *] <;> rfl)) (k_X8_existingDocument hF hD hkk hdd) rfl (by first | decide | exact Nat.le_of_ble_eq_true rfl) ⟨by decide, by decide, by decide, by decide⟩ (fun X M' h => by obtain ⟨rfl, rfl, h⟩ := h; exact z_out C hQ (by decide) (by decide) (fX.o1 (.rf hc0) ((zqR_t g2).trans (zqD_f h)))) (fun v M' hp => ?_)
  obtain ⟨rfl, g8, rfl⟩ := hp
  obtain ⟨sy, hX8, hXk8, hXv8⟩ := hD.dk (d := dd.toNat) (by omega) (by omega)
  have obd8 := hX8.1
  refine z_astore C dX8_learn_11 (by decide) ?_
  refine z_aload_n C dX8_learn_13 rfl ?_
  refine z_callV C dX8_learn_14 lk_X8_136 mw_X8_remember mi_X8_remember ms_X8_remember rfl (by first | assumption | ((repeat (first | assumption | exact va_up_self _ _ _ | refine (va_up_ne _ _ (by assumption)).trans ?_)); done) | (simp [va_up, *] <;> rfl)) (k_X8_remember hc0 hk) rfl (by first | decide | exact Nat.le_of_ble_eq_true rfl) ⟨by decide, by decide, by decide, by decide⟩ (fun _ _ h => False.elim h) (fun v M' hp => ?_)
  obtain ⟨rfl, f14, hc14⟩ := hp
  have hk14 := hk.rem
  obtain ⟨-, pn14, Z14, iF14, oF14, hZ14, hF14, hX14, hi14, ho14⟩ := id hc14
  have ob14 := id hF14
  unfold hFo at ob14
  have hD14 : hSt γ _ (zUb U 0) (yS Y) := hZ14.2.1 ▸ hX14.st0
  have hst14 := hD14.ob
  have hro14 := fOk.mk' f14 hc14
  have hR14 := hD14.rd (i := rr.toNat) (by omega) (by omega)
  have hRo14 := hD14.rdo (i := rr.toNat) (by omega) (by omega)
  obtain ⟨cn14, hco14, hcz14, hcr14⟩ := hD14.rdc (i := rr.toNat) (by omega) (by omega)
  obtain ⟨sy14, hY14, hYk14, hYv14⟩ := hD14.dk (d := dd.toNat) (by omega) (by omega)
  have hYo14 := hY14.1
  refine z_aload_n C dX8_learn_17 rfl ?_
  refine z_iload_n C dX8_learn_18 rfl ?_
  refine z_aload C dX8_learn_19 rfl ?_
  refine z_get C dX8_learn_21 fl_X8_174 (by first | assumption | ((repeat (first | assumption | exact va_up_self _ _ _ | refine (va_up_ne _ _ (by assumption)).trans ?_)); done) | (simp [va_up, *] <;> rfl)) rfl ?_
  refine z_callV C dX8_learn_24 lk_X8_319 mw_X6_recordTraining mi_X6_recordTraining ms_X6_recordTraining rfl hRo14 (k_X6_recordTraining (i := dd) (len := dLe (sDc (yS Y) dd.toNat)) hR14 (by omega)) rfl (by first | decide | exact Nat.le_of_ble_eq_true rfl) ⟨by decide, by decide, by decide, by decide⟩ (fun _ _ h => False.elim h) (fun v M' hp => ?_)
  obtain ⟨rfl, f24, hR24⟩ := hp
  have f25 := f24.tr zFr.rf (zFA_sub (zUb U 0) (by omega)) (fun _ h => h) (S := zFD (zUb U 0))
  have hD24 := hD14.setR (hI.b (by decide)) (by omega) f24 hR24
  have hok24 := fOk.st hI hZ14 hF14 hX14 hi14 ho14 f25 hD24
  obtain ⟨-, -, pn24, Z24, iF24, oF24, hZ24, hF24, hX24, hi24, ho24⟩ := id hok24
  have ob24 := id hF24
  unfold hFo at ob24
  have hY24 := hY14.fr f24 (zA_nin (hI.b (k := 0) (by decide)) (by omega) (by omega) (by omega)) (zA_nin (hI.b (k := 0) (by decide)) (by omega) (by omega) (by omega))
  have hRo24 := hR24.1
  rw [show dRa (zUb U 0) rr.toNat 0 = zUb U 0 (3 + 6 * rr.toNat) from rfl] at hRo24
  have dn : ∀ a, a < 16 → U a ∉ [dRa (zUb U 0) rr.toNat 2, dRa (zUb U 0) rr.toNat 3, dRa (zUb U 0) rr.toNat 4] := fun a ha w => zUd hI (a := a) (k := 0) ha (by decide) (zFA_sub (zUb U 0) (by omega) _ (zF3_sub _ _ w))
  refine z_aload_n C dX8_learn_27 rfl ?_
  refine z_aload_n C dX8_learn_28 rfl ?_
  refine z_get C dX8_learn_29 fl_X8_188 (by first | assumption | ((repeat (first | assumption | exact va_up_self _ _ _ | refine (va_up_ne _ _ (by assumption)).trans ?_)); done) | (simp [va_up, *] <;> rfl)) rfl ?_
  refine z_aload C dX8_learn_32 rfl ?_
  refine z_callV C dX8_learn_34 lk_X8_264 mw_X8_guessesWhileLearning mi_X8_guessesWhileLearning ms_X8_guessesWhileLearning rfl (by first | assumption | ((repeat (first | assumption | exact va_up_self _ _ _ | refine (va_up_ne _ _ (by assumption)).trans ?_)); done) | (simp [va_up, *] <;> rfl)) (k_X8_guessesWhileLearning hF24 hX24.2.2.2.2.2.2.1 hR24.2.2.1 hY24 hYk14 ⟨zI_ne (hI.b (k := 0) (by decide)) (by omega) (by omega) (by omega), zI_ne (hI.b (k := 0) (by decide)) (by omega) (by omega) (by omega)⟩ (dn 0 (by decide)) (hk.1.rm (by omega)) (hKy_of (m := (sDn (yS Y)).toNat) (i := dd.toNat) (by omega) (hk.1.2.1 dd.toNat (by omega)) hYv14)) rfl (by first | decide | exact Nat.le_of_ble_eq_true rfl) ⟨by decide, by decide, by decide, by decide⟩ (fun _ _ h => False.elim h) (fun v M' hp => ?_)
  obtain ⟨r34, rfl, f34, hQ34, hr34, hC34⟩ := hp
  refine z_iret C hQ dX8_learn_37 rfl (by decide) (by decide) ?_
  obtain ⟨M3, h3⟩ := zFr.split (L1 := [U 11, U 12, U 13]) (L2 := [dRa (zUb U 0) rr.toNat 2, dRa (zUb U 0) rr.toNat 3, dRa (zUb U 0) rr.toNat 4]) f34
  obtain ⟨p1, p2, p3⟩ := h3.resolve_right id
  have hQ3 := hQ34.fr p3 (dn 11 (by decide)) (dn 12 (by decide)) (dn 13 (by decide))
  have hok3 := fOk.rk hI hZ24 hF24 hX24 hi24 ho24 p1 hQ3
  obtain ⟨-, -, pn3, Z3, iF3, oF3, hZ3, hF3, hX3, hi3, ho3⟩ := id hok3
  have hD3 := hZ3.2.1 ▸ hX3.st0
  have hR3 := hR24.fr p1 (fun j hj => zUn hI (L := [11, 12, 13]) (a := 16 + 43 * 0 + (3 + 6 * rr.toNat + j)) (by omega) (by decide) (by simp; omega))
  rw [zdoc_eq hYv14] at hC34
  have hR4 := hR3.setC p2 hC34
  have hS4 := hD3.setR (hI.b (k := 0) (by decide)) (i := rr.toNat) (by omega) (zF3_fa (dRa (zUb U 0) rr.toNat) p2) hR4
  have e4 : sSetR (sSetR (yS Y) rr.toNat (rRec (sRd (yS Y) rr.toNat) dd (dLe (sDc (yS Y) dd.toNat)))) rr.toNat (rSetC (rRec (sRd (yS Y) rr.toNat) dd (dLe (sDc (yS Y) dd.toNat))) (zdoc (rC (sRd (yS Y) rr.toNat)) (sDc (yS Y) dd.toNat))) = sTrn (yS Y) rr dd := by
    unfold sTrn sSetR
    rw [rTrn_eq]
    congr 4
    funext j
    show va_up (va_up (sRd (yS Y)) rr.toNat _) rr.toNat _ j = va_up (sRd (yS Y)) rr.toNat _ j
    unfold va_up
    split
    · rfl
    · rfl
  have hok4 := fOk.st hI hZ3 hF3 hX3 hi3 ho3 ((zF3_fa (dRa (zUb U 0) rr.toNat) p2).tr zFr.rf (zFA_sub (zUb U 0) (by omega)) (fun _ h => h)) hS4
  rw [hr34, zlan_cg hYv14]
  refine fI'.of (((hro14.tr hok24).tr hok3).tr ?_) ((zqR_t g2).trans (zqD_t g8))
  have e5 : ySet (ySet (yRem Y) (sSetR (yS Y) rr.toNat (rRec (sRd (yS Y) rr.toNat) dd (dLe (sDc (yS Y) dd.toNat))))) (sSetR (sSetR (yS Y) rr.toNat (rRec (sRd (yS Y) rr.toNat) dd (dLe (sDc (yS Y) dd.toNat)))) rr.toNat (rSetC (rRec (sRd (yS Y) rr.toNat) dd (dLe (sDc (yS Y) dd.toNat))) (zdoc (rC (sRd (yS Y) rr.toNat)) (sDc (yS Y) dd.toNat)))) = ySet (yRem Y) (sTrn (yS Y) rr dd) := by
    rw [e4]
    rfl
  exact Eq.mp (congrArg (fun Y' => fOk γ _ _ U Y') e5) hok4
noncomputable def q_merge (Y : zSys) (rr oo : Int) : Int × Int := zqR (yS Y) rr (zqR (yS Y) oo (zq2 (rr ≠ oo) (0, zsum (zind (zmrg (rC (sRd (yS Y) oo.toNat)) (rC (sRd (yS Y) rr.toNat)))) 0 20439)))
noncomputable def y_merge (Y : zSys) (rr oo : Int) : zSys := ySet (yRem Y) (sSetR (yS Y) oo.toNat (rMrg (sRd (yS Y) oo.toNat) (sRd (yS Y) rr.toNat)))
set_option maxHeartbeats 4000000 in
set_option maxRecDepth 100000 in
theorem k_X8_merge {l : Launch} {γ : zG} {M : zM} {U : Nat → Nat} {Y : zSys} {rr oo : Int} (hc : hFc γ M U Y) (hk : yOk Y) (hrr : zR rr) (hoo : zR oo) :
    zCon l γ yX8_merge cX8_merge 5 (some .int) [.ref (U 0), .int (zi rr), .int (zi oo)] M 7 104 3 18 (fI' γ M U (y_merge Y rr oo) (q_merge Y rr oo)) (fX γ M U Y (q_merge Y rr oo) xIOB xIAE) := by
  have hc0 := hc
  obtain ⟨hI, pn, Z, iF, oF, hZ, hF, hX, hi1, ho1⟩ := hc
  have hob := id hF
  unfold hFo at hob
  have hD : hSt γ M (zUb U 0) (yS Y) := hZ.2.1 ▸ hX.st0
  have hst := hD.ob
  have hkn := hk.1.1
  have hkk := hk.1.nk
  have hRQ := hX.2.2.2.2.2.2.1
  have hok := fun M' => @fOk.rk γ M M' U Y pn Z iF oF hI hZ hF hX hi1 ho1
  refine zEnter [some (.ref (U 0)), some (.int (zi rr)), some (.int (zi oo)), none, none] (by decide +kernel) rfl rfl (Nat.le_of_ble_eq_true rfl) ?_
  intro p e s m args below meth c Q C hin hQ
  refine z_aload_n C dX8_merge_0 rfl ?_
  refine z_iload_n C dX8_merge_1 rfl ?_
  refine z_callV C dX8_merge_2 lk_X8_149 mw_X8_existingReader mi_X8_existingReader ms_X8_existingReader rfl (by first | assumption | ((repeat (first | assumption | exact va_up_self _ _ _ | refine (va_up_ne _ _ (by assumption)).trans ?_)); done) | (simp [va_up, *] <;> rfl)) (k_X8_existingReader hF hD hkk hrr) rfl (by first | decide | exact Nat.le_of_ble_eq_true rfl) ⟨by decide, by decide, by decide, by decide⟩ (fun X M' h => by obtain ⟨rfl, rfl, h⟩ := h; exact z_out C hQ (by decide) (by decide) (fX.o1 (.rf hc0) (zqR_f h))) (fun v M' hp => ?_)
  obtain ⟨rfl, g2, rfl⟩ := hp
  have hro := hD.rdo (i := rr.toNat) (by omega) (by omega)
  have hR := hD.rd (i := rr.toNat) (by omega) (by omega)
  obtain ⟨cn, hco, hcz, hcr⟩ := hD.rdc (i := rr.toNat) (by omega) (by omega)
  have hrk := (hk.1.2.2 rr.toNat (by omega)).1
  refine z_astore_n C dX8_merge_5 (by decide) ?_
  refine z_aload_n C dX8_merge_6 rfl ?_
  refine z_iload_n C dX8_merge_7 rfl ?_
  refine z_callV C dX8_merge_8 lk_X8_149 mw_X8_existingReader mi_X8_existingReader ms_X8_existingReader rfl (by first | assumption | ((repeat (first | assumption | exact va_up_self _ _ _ | refine (va_up_ne _ _ (by assumption)).trans ?_)); done) | (simp [va_up, *] <;> rfl)) (k_X8_existingReader hF hD hkk hoo) rfl (by first | decide | exact Nat.le_of_ble_eq_true rfl) ⟨by decide, by decide, by decide, by decide⟩ (fun X M' h => by obtain ⟨rfl, rfl, h⟩ := h; exact z_out C hQ (by decide) (by decide) (fX.o1 (.rf hc0) ((zqR_t g2).trans (zqR_f h)))) (fun v M' hp => ?_)
  obtain ⟨rfl, g8, rfl⟩ := hp
  have hro2 := hD.rdo (i := oo.toNat) (by omega) (by omega)
  have hR2 := hD.rd (i := oo.toNat) (by omega) (by omega)
  obtain ⟨cn2, hco2, hcz2, hcr2⟩ := hD.rdc (i := oo.toNat) (by omega) (by omega)
  have hrk2 := (hk.1.2.2 oo.toNat (by omega)).1
  refine z_astore C dX8_merge_11 (by decide) ?_
  refine z_iload_n C dX8_merge_13 rfl ?_
  refine z_iload_n C dX8_merge_14 rfl ?_
  refine z_icmp_neZ (tgt := 29) C dX8_merge_15 (by decide) (by omega) (by omega) (fun h15 => ?_) (fun h15 => ?_)
  · refine z_aload_n C dX8_merge_29 rfl ?_
    refine z_callV C dX8_merge_30 lk_X8_136 mw_X8_remember mi_X8_remember ms_X8_remember rfl (by first | assumption | ((repeat (first | assumption | exact va_up_self _ _ _ | refine (va_up_ne _ _ (by assumption)).trans ?_)); done) | (simp [va_up, *] <;> rfl)) (k_X8_remember hc0 hk) rfl (by first | decide | exact Nat.le_of_ble_eq_true rfl) ⟨by decide, by decide, by decide, by decide⟩ (fun _ _ h => False.elim h) (fun v M' hp => ?_)
    obtain ⟨rfl, f30, hc30⟩ := hp
    have hk30 := hk.rem
    obtain ⟨-, pn30, Z30, iF30, oF30, hZ30, hF30, hX30, hi30, ho30⟩ := id hc30
    have ob30 := id hF30
    unfold hFo at ob30
    have hD30 : hSt γ _ (zUb U 0) (yS Y) := hZ30.2.1 ▸ hX30.st0
    have hst30 := hD30.ob
    have hro30 := fOk.mk' f30 hc30
    have hR30 := hD30.rd (i := rr.toNat) (by omega) (by omega)
    have hRo30 := hD30.rdo (i := rr.toNat) (by omega) (by omega)
    obtain ⟨cn30, hco30, hcz30, hcr30⟩ := hD30.rdc (i := rr.toNat) (by omega) (by omega)
    have hRo30q := hD30.rd (i := oo.toNat) (by omega) (by omega)
    have hRoo30 := hD30.rdo (i := oo.toNat) (by omega) (by omega)
    obtain ⟨cno30, hcoo30, hczo30, hcro30⟩ := hD30.rdc (i := oo.toNat) (by omega) (by omega)
    refine z_aload C dX8_merge_33 rfl ?_
    refine z_aload_n C dX8_merge_35 rfl ?_
    refine z_callV C dX8_merge_36 lk_X8_328 mw_X6_takeIn mi_X6_takeIn ms_X6_takeIn rfl hRoo30 (k_X6_takeIn hRo30q hR30 (fun i j hi hj => zI_ne (hI.b (k := 0) (by decide)) (i := 3 + 6 * oo.toNat + i) (j := 3 + 6 * rr.toNat + j) (by omega) (by omega) (by omega)) (hk.1.rm (by omega)) (hk.1.2.2 rr.toNat (by omega)).2) rfl (by first | decide | exact Nat.le_of_ble_eq_true rfl) ⟨by decide, by decide, by decide, by decide⟩ (fun _ _ h => False.elim h) (fun v M' hp => ?_)
    obtain ⟨rfl, f36, hR36⟩ := hp
    have hD36 := hD30.setR (hI.b (by decide)) (by omega) f36 hR36
    have hRo36 := hR36.1
    rw [show dRa (zUb U 0) oo.toNat 0 = zUb U 0 (3 + 6 * oo.toNat) from rfl] at hRo36
    obtain ⟨cn36, hco36, hcz36, -⟩ := hD36.rdc (i := oo.toNat) (by omega) (by show (oo.toNat : Int) < sRn (yS Y); omega)
    refine z_aload C dX8_merge_39 rfl ?_
    refine z_get C dX8_merge_41 fl_X8_188 (by first | assumption | ((repeat (first | assumption | exact va_up_self _ _ _ | refine (va_up_ne _ _ (by assumption)).trans ?_)); done) | (simp [va_up, *] <;> rfl)) rfl ?_
    refine z_get C dX8_merge_44 fl_X8_215 (by first | assumption | ((repeat (first | assumption | exact va_up_self _ _ _ | refine (va_up_ne _ _ (by assumption)).trans ?_)); done) | (simp [va_up, *] <;> rfl)) rfl ?_
    refine z_iret C hQ dX8_merge_47 rfl (by decide) (by decide) ?_
    rw [hcz36]
    refine fI'.of (hro30.tr (.st hI hZ30 hF30 hX30 hi30 ho30 (f36.tr zFr.rf (zFA_sub (zUb U 0) (by omega)) (fun _ h => h)) hD36)) ((zqR_t g2).trans ((zqR_t g8).trans ((zq2_t (by omega)).trans ?_)))
    show (0, _) = (0, zsum (zind (rC (va_up (sRd (yS Y)) oo.toNat (rMrg (sRd (yS Y) oo.toNat) (sRd (yS Y) rr.toNat)) oo.toNat))) 0 20439)
    rw [va_up_self]
    rfl
  · refine z_throwW C hQ xt_IAE (si := 17) rfl dX8_merge_18 dX8_merge_21 dX8_merge_22 dX8_merge_25 dX8_merge_28 ⟨by decide, by decide, by decide, by decide⟩ (by decide) (by decide) ?_
    exact fX.o2 (.rf hc0) ((zqR_t g2).trans ((zqR_t g8).trans (zq2_f fun w => w (by omega))))

