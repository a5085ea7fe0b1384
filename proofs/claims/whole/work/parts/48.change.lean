/-! the face's changing calls: slots, undo, readers and documents added -/
def ySav (Y : zSys) (k : Nat) : zSys := (Y.1, Y.2.1, Y.2.2.1, va_up (yUs Y) k 1, va_up (ySl Y) k (yS Y), Y.2.2.2.2.2)
def yUnd (Y : zSys) : zSys := (yPs Y 0, yPc Y - 1, (fun i => yPs Y (i + 1)), Y.2.2.2)
def zqS (i : Int) (q : Int × Int) : Int × Int := if 0 ≤ i ∧ i < 2 then q else (1, 0)
theorem zqS_t {i : Int} {q : Int × Int} (h : 0 ≤ i ∧ i < 2) : zqS i q = q := if_pos h
theorem zqS_f {i : Int} {q : Int × Int} (h : ¬ (0 ≤ i ∧ i < 2)) : zqS i q = (1, 0) := if_neg h
noncomputable def zq1 (P : Prop) (q : Int × Int) : Int × Int := zif P q (1, 0)
theorem zq1_t {P : Prop} {q : Int × Int} (h : P) : zq1 P q = q := zif_t h
theorem zq1_f {P : Prop} {q : Int × Int} (h : ¬ P) : zq1 P q = (1, 0) := zif_f h
theorem zaZ_up (us : Nat → Int) (k : Nat) : (fun j => zi (va_up us k 1 j)) = va_up (fun j => zi (us j)) k (vp_nar .boolean 1) := by
  funext j
  unfold va_up
  split <;> rfl
theorem zZk.sav {Y : zSys} {pn : Int} {Z : Nat → zSt} (h : zZk Y pn Z) {k : Nat} (hk : k < 2) : zZk (ySav Y k) pn (va_up Z (10 + k) (Z 0)) := by
  obtain ⟨h1, h2, h3, h4⟩ := h
  refine ⟨h1, ?_, fun i hi => ?_, fun j hj hu => ?_⟩
  · rw [va_up_ne _ _ (by omega)]
    exact h2
  · rw [va_up_ne _ _ (by unfold zPi; omega)]
    exact h3 i hi
  · have hu : va_up (yUs Y) k 1 j ≠ 0 := hu
    show va_up Z (10 + k) (Z 0) (10 + j) = va_up (ySl Y) k (yS Y) j
    by_cases e : j = k
    · subst e
      rw [va_up_self, va_up_self]
      exact h2
    · rw [va_up_ne _ _ e] at hu ⊢
      rw [va_up_ne _ _ (by omega)]
      exact h4 j hj hu
theorem zZk.und {Y : zSys} {pn : Int} {Z : Nat → zSt} (h : zZk Y pn Z) (hc : 0 < yPc Y ∧ yPc Y ≤ 8) : zZk (yUnd Y) ((pn + 8 - 1) % 8) (va_up Z 0 (Z (2 + ((pn + 8 - 1) % 8).toNat))) := by
  obtain ⟨h1, h2, h3, h4⟩ := h
  refine ⟨by omega, ?_, fun i hi => ?_, fun k hk hu => ?_⟩
  · rw [va_up_self]
    have := h3 0 (by omega)
    rw [show zPi pn 0 = 2 + ((pn + 8 - 1) % 8).toNat by unfold zPi; omega] at this
    exact this
  · have hi : (i : Int) < yPc Y - 1 := hi
    rw [va_up_ne _ _ (by unfold zPi; omega)]
    have := h3 (i + 1) (by omega)
    rw [show zPi pn (i + 1) = zPi ((pn + 8 - 1) % 8) i by unfold zPi; omega] at this
    exact this
  · rw [va_up_ne _ _ (by omega)]
    exact h4 k hk hu
theorem fOk.sav {γ : zG} {M M1 : zM} {U : Nat → Nat} {Y : zSys} {pn : Int} {Z : Nat → zSt} {iF oF : Nat → Int} {k : Nat} (hI : zIU U) (hZ : zZk Y pn Z) (hF : hFo γ M U pn (yPc Y) (yEc Y) (yEp Y)) (hX : hFx γ M U (yUs Y) iF (yIn Y) oF (yOn Y) Z) (hi1 : ∀ j : Nat, j < yIn Y → iF j = yIf Y j) (ho1 : ∀ j : Nat, j < yOn Y → oF j = yOf Y j) (hk : k < 2) (f : zFr M M1 (zFD (zUb U (10 + k)))) (q : hSt γ M1 (zUb U (10 + k)) (Z 0)) : fOk γ M (va_up M1 (U 3) (some (zaZ γ 2 (va_up (fun j => zi (yUs Y j)) k (vp_nar .boolean 1))))) U (ySav Y k) :=
  ⟨(f.ub (by omega)).uu (zFr.us (L := [3]) (zFr.up (by simp)) (by decide)), hI, pn, _, iF, oF, hZ.sav hk, (hF.fr f (zUd hI (by decide) (by omega))).fr (zFr.up (List.mem_singleton.mpr rfl)) (zUn hI (L := [3]) (by decide) (by decide) (by decide)), ((hX.st hI f (by omega) q).us (us' := va_up (yUs Y) k 1) hI (zFr.up (by simp)) (by rw [va_up_self, zaZ_up])), hi1, ho1⟩
theorem fOk.und {γ : zG} {M M1 M' : zM} {U : Nat → Nat} {Y : zSys} {pn : Int} {Z : Nat → zSt} {iF oF : Nat → Int} (hI : zIU U) (hZ : zZk Y pn Z) (hX : hFx γ M U (yUs Y) iF (yIn Y) oF (yOn Y) Z) (hi1 : ∀ j : Nat, j < yIn Y → iF j = yIf Y j) (ho1 : ∀ j : Nat, j < yOn Y → oF j = yOf Y j) (hc : 0 < yPc Y ∧ yPc Y ≤ 8) (f1 : zFr M M1 [U 0]) (h1 : hFo γ M1 U ((pn + 8 - 1) % 8) (yPc Y - 1) (yEc Y) (yEp Y)) (f : zFr M1 M' (zFD (zUb U 0))) (q : hSt γ M' (zUb U 0) (Z (2 + ((pn + 8 - 1) % 8).toNat))) : fOk γ M M' U (yUnd Y) :=
  ⟨(zFr.us (L := [0]) f1 (by decide)).uu (f.ub (by decide)), hI, _, _, iF, oF, hZ.und hc, h1.fr f (zUd hI (by decide) (by decide)), (hX.obj hI f1).st hI f (by decide) q, hi1, ho1⟩
theorem hAt_cgf {f g : Nat → Int} {n : Int} (h : ∀ j : Nat, j < n → f j = g j) : hAt f n = hAt g n := funext (hAt_cg h)
theorem rNew_cg {f g : Nat → Int} {n b e me : Int} (h : hAt f n = hAt g n) : rNew f n b e me = rNew g n b e me := by
  unfold rNew
  rw [h]
theorem dNew_cg {f g : Nat → Int} {n b e yr : Int} (h : hAt f n = hAt g n) : dNew f n b e yr = dNew g n b e yr := by
  unfold dNew
  rw [h]
theorem hNm_cg {f g : Nat → Int} {n b e : Int} (h : hAt f n = hAt g n) : hNm f n b e = hNm g n b e := by
  unfold hNm
  rw [h]
theorem hDm_cg {f g : Nat → Int} {n b e : Int} (h : hAt f n = hAt g n) : hDm f n b e = hDm g n b e := by
  unfold hDm
  rw [h]
theorem hNa_cg {S : zSt} {f g : Nat → Int} {n b e : Int} {i : Nat} (h : hAt f n = hAt g n) : hNa S f n b e i = hNa S g n b e i := by
  unfold hNa hIs
  rw [h]
/-- a name is taken -/
def zNT (S : zSt) (f : Nat → Int) (n : Int) : Prop := ∃ i : Nat, i < sRn S ∧ hNa S f n 0 n i
noncomputable def q_save (Y : zSys) (ss : Int) : Int × Int := zqS ss (0, sYr (yS Y))
noncomputable def y_save (Y : zSys) (ss : Int) : zSys := ySav Y ss.toNat
set_option maxHeartbeats 4000000 in
set_option maxRecDepth 100000 in
theorem k_X8_save {l : Launch} {γ : zG} {M : zM} {U : Nat → Nat} {Y : zSys} {ss : Int} (hc : hFc γ M U Y) (hk : yOk Y) (hss : zR ss) :
    zCon l γ yX8_save cX8_save 2 (some .int) [.ref (U 0), .int (zi ss)] M 7 104 1 6 (fI' γ M U (y_save Y ss) (q_save Y ss)) (fX γ M U Y (q_save Y ss) xIOB xIAE) := by
  have hc0 := hc
  obtain ⟨hI, pn, Z, iF, oF, hZ, hF, hX, hi1, ho1⟩ := hc
  have hob := id hF
  unfold hFo at hob
  have hD : hSt γ M (zUb U 0) (yS Y) := hZ.2.1 ▸ hX.st0
  have hst := hD.ob
  have hkn := hk.1.1
  have hkk := hk.1.nk
  have hRQ := hX.2.2.2.2.2.2.1
  have hok := fun M' => @fOk.rk γ M M' U Y pn Z iF oF hI hZ hF hX hi1 ho1
  refine zEnter [some (.ref (U 0)), some (.int (zi ss))] (by decide +kernel) rfl rfl (Nat.le_of_ble_eq_true rfl) ?_
  intro p e s m args below meth c Q C hin hQ
  refine z_iload_n C dX8_save_0 rfl ?_
  refine z_callS C dX8_save_1 lk_X8_349 mw_X8_requireSlot mst_X8_requireSlot (k_X8_requireSlot hss) rfl (by first | decide | exact Nat.le_of_ble_eq_true rfl) ⟨by decide, by decide, by decide, by decide⟩ (fun X M' h => by obtain ⟨rfl, rfl, h⟩ := h; exact z_out C hQ (by decide) (by decide) (fX.o1 (.rf hc0) (zqS_f h))) (fun v M' hp => ?_)
  obtain ⟨rfl, rfl, g1⟩ := hp
  have hs1 := hX.2.2.2.2.2.2.2.2.2 (10 + ss.toNat) (by omega)
  have ob1 := hs1.ob
  have hs0 := hX.st0
  have hkz := hkk
  rw [← hZ.2.1] at hkz
  refine z_aload_n C dX8_save_4 rfl ?_
  refine z_get C dX8_save_5 fl_X8_34 (by first | assumption | ((repeat (first | assumption | exact va_up_self _ _ _ | refine (va_up_ne _ _ (by assumption)).trans ?_)); done) | (simp [va_up, *] <;> rfl)) rfl ?_
  refine z_iload_n C dX8_save_8 rfl ?_
  refine z_aldR C dX8_save_9 hX.2.1 (by decide) (by omega) (by omega) ?_
  refine z_aload_n C dX8_save_10 rfl ?_
  refine z_get C dX8_save_11 fl_X8_13 (by first | assumption | ((repeat (first | assumption | exact va_up_self _ _ _ | refine (va_up_ne _ _ (by assumption)).trans ?_)); done) | (simp [va_up, *] <;> rfl)) rfl ?_
  refine z_callV C dX8_save_14 lk_X8_139 mw_X7_copyFrom mi_X7_copyFrom ms_X7_copyFrom rfl ob1 (k_X7_copyFrom (hI.b (k := 10 + ss.toNat) (by omega)) hs1 hs0 hkz (fun i j hi hj q => by
  have := hI (16 + 43 * (10 + ss.toNat) + i) (16 + 43 * (0) + j) (by omega) (by omega) q
  omega)) rfl (by first | decide | exact Nat.le_of_ble_eq_true rfl) ⟨by decide, by decide, by decide, by decide⟩ (fun _ _ h => False.elim h) (fun v M' hp => ?_)
  obtain ⟨rfl, f14, hS14⟩ := hp
  have ob14 := hF.fr f14 (zUd hI (by decide) (by omega))
  unfold hFo at ob14
  have us14 := f14.at (zUd hI (a := 3) (by decide) (by omega)) hX.2.2.1
  have st14 := (hX.st hI f14 (by omega) hS14).st0
  rw [va_up_ne _ _ (show 0 ≠ 10 + ss.toNat by omega), hZ.2.1] at st14
  have st14 := st14.ob
  have f23 : ∀ e, zFr M' (va_up M' (U 3) e) [U 3] := fun e => zFr.up (List.mem_singleton.mpr rfl)
  refine z_aload_n C dX8_save_17 rfl ?_
  refine z_get C dX8_save_18 fl_X8_37 (by first | assumption | ((repeat (first | assumption | exact va_up_self _ _ _ | refine (va_up_ne _ _ (by assumption)).trans ?_)); done) | (simp [va_up, *] <;> rfl)) rfl ?_
  refine z_iload_n C dX8_save_21 rfl ?_
  refine z_iconst C dX8_save_22 ?_
  refine z_astZ C dX8_save_23 us14 (by omega) (by decide) ?_
  refine z_aload_n C dX8_save_24 rfl ?_
  refine z_get C dX8_save_25 fl_X8_13 ((f23 _).at (zUn hI (a := 0) (L := [3]) (by decide) (by decide) (by decide)) ob14) rfl ?_
  refine z_get C dX8_save_28 fl_X8_146 ((f23 _).at (zUn hI (a := 16) (L := [3]) (by decide) (by decide) (by decide)) st14) rfl ?_
  refine z_iret C hQ dX8_save_31 rfl (by decide) (by decide) ?_
  exact fI'.of (.sav hI hZ hF hX hi1 ho1 (by omega) f14 hS14) (zqS_t g1)
noncomputable def q_restore (Y : zSys) (ss : Int) : Int × Int := zqS ss (zq2 (yUs Y ss.toNat ≠ 0) (0, sYr (ySl Y ss.toNat)))
noncomputable def y_restore (Y : zSys) (ss : Int) : zSys := ySet (yRem Y) (ySl Y ss.toNat)
set_option maxHeartbeats 4000000 in
set_option maxRecDepth 100000 in
theorem k_X8_restore {l : Launch} {γ : zG} {M : zM} {U : Nat → Nat} {Y : zSys} {ss : Int} (hc : hFc γ M U Y) (hk : yOk Y) (hss : zR ss) :
    zCon l γ yX8_restore cX8_restore 2 (some .int) [.ref (U 0), .int (zi ss)] M 7 104 2 12 (fI' γ M U (y_restore Y ss) (q_restore Y ss)) (fX γ M U Y (q_restore Y ss) xIOB xISE) := by
  have hc0 := hc
  obtain ⟨hI, pn, Z, iF, oF, hZ, hF, hX, hi1, ho1⟩ := hc
  have hob := id hF
  unfold hFo at hob
  have hD : hSt γ M (zUb U 0) (yS Y) := hZ.2.1 ▸ hX.st0
  have hst := hD.ob
  have hkn := hk.1.1
  have hkk := hk.1.nk
  have hRQ := hX.2.2.2.2.2.2.1
  have hok := fun M' => @fOk.rk γ M M' U Y pn Z iF oF hI hZ hF hX hi1 ho1
  refine zEnter [some (.ref (U 0)), some (.int (zi ss))] (by decide +kernel) rfl rfl (Nat.le_of_ble_eq_true rfl) ?_
  intro p e s m args below meth c Q C hin hQ
  refine z_iload_n C dX8_restore_0 rfl ?_
  refine z_callS C dX8_restore_1 lk_X8_349 mw_X8_requireSlot mst_X8_requireSlot (k_X8_requireSlot hss) rfl (by first | decide | exact Nat.le_of_ble_eq_true rfl) ⟨by decide, by decide, by decide, by decide⟩ (fun X M' h => by obtain ⟨rfl, rfl, h⟩ := h; exact z_out C hQ (by decide) (by decide) (fX.o1 (.rf hc0) (zqS_f h))) (fun v M' hp => ?_)
  obtain ⟨rfl, rfl, g1⟩ := hp
  have hu := (hk.2.2.2 ss.toNat (by omega)).1
  refine z_aload_n C dX8_restore_4 rfl ?_
  refine z_get C dX8_restore_5 fl_X8_37 (by first | assumption | ((repeat (first | assumption | exact va_up_self _ _ _ | refine (va_up_ne _ _ (by assumption)).trans ?_)); done) | (simp [va_up, *] <;> rfl)) rfl ?_
  refine z_iload_n C dX8_restore_8 rfl ?_
  refine z_aldZ C dX8_restore_9 hX.2.2.1 (by omega) (by decide) ?_
  refine z_if_neZ (tgt := 24) C dX8_restore_10 (by decide) (by omega) (fun h10 => ?_) (fun h10 => ?_)
  · refine z_aload_n C dX8_restore_24 rfl ?_
    refine z_callV C dX8_restore_25 lk_X8_136 mw_X8_remember mi_X8_remember ms_X8_remember rfl (by first | assumption | ((repeat (first | assumption | exact va_up_self _ _ _ | refine (va_up_ne _ _ (by assumption)).trans ?_)); done) | (simp [va_up, *] <;> rfl)) (k_X8_remember hc0 hk) rfl (by first | decide | exact Nat.le_of_ble_eq_true rfl) ⟨by decide, by decide, by decide, by decide⟩ (fun _ _ h => False.elim h) (fun v M' hp => ?_)
    obtain ⟨rfl, f24, hc24⟩ := hp
    have hk24 := hk.rem
    obtain ⟨-, pn24, Z24, iF24, oF24, hZ24, hF24, hX24, hi24, ho24⟩ := id hc24
    have ob24 := id hF24
    unfold hFo at ob24
    have hD24 : hSt γ _ (zUb U 0) (yS Y) := hZ24.2.1 ▸ hX24.st0
    have hst24 := hD24.ob
    have hro24 := fOk.mk' f24 hc24
    have hs24 := hX24.2.2.2.2.2.2.2.2.2 (10 + ss.toNat) (by omega)
    rw [hZ24.2.2.2 ss.toNat (by omega) h10] at hs24
    have hkz := ((hk.2.2.2 ss.toNat (by omega)).2 h10).nk
    refine z_aload_n C dX8_restore_28 rfl ?_
    refine z_get C dX8_restore_29 fl_X8_13 (by first | assumption | ((repeat (first | assumption | exact va_up_self _ _ _ | refine (va_up_ne _ _ (by assumption)).trans ?_)); done) | (simp [va_up, *] <;> rfl)) rfl ?_
    refine z_aload_n C dX8_restore_32 rfl ?_
    refine z_get C dX8_restore_33 fl_X8_34 (by first | assumption | ((repeat (first | assumption | exact va_up_self _ _ _ | refine (va_up_ne _ _ (by assumption)).trans ?_)); done) | (simp [va_up, *] <;> rfl)) rfl ?_
    refine z_iload_n C dX8_restore_36 rfl ?_
    refine z_aldR C dX8_restore_37 hX24.2.1 (by decide) (by omega) (by omega) ?_
    refine z_callV C dX8_restore_38 lk_X8_139 mw_X7_copyFrom mi_X7_copyFrom ms_X7_copyFrom rfl hst24 (k_X7_copyFrom (hI.b (by decide)) hD24 hs24 hkz (fun i j hi hj q => by
  have := hI (16 + 43 * (0) + i) (16 + 43 * (10 + ss.toNat) + j) (by omega) (by omega) q
  omega)) rfl (by first | decide | exact Nat.le_of_ble_eq_true rfl) ⟨by decide, by decide, by decide, by decide⟩ (fun _ _ h => False.elim h) (fun v M' hp => ?_)
    obtain ⟨rfl, f38, hS38⟩ := hp
    have hst38 := hS38.ob
    have ob38 := hF24.fr f38 (zUd hI (by decide) (by decide))
    unfold hFo at ob38
    refine z_aload_n C dX8_restore_41 rfl ?_
    refine z_get C dX8_restore_42 fl_X8_13 (by first | assumption | ((repeat (first | assumption | exact va_up_self _ _ _ | refine (va_up_ne _ _ (by assumption)).trans ?_)); done) | (simp [va_up, *] <;> rfl)) rfl ?_
    refine z_get C dX8_restore_45 fl_X8_146 (by first | assumption | ((repeat (first | assumption | exact va_up_self _ _ _ | refine (va_up_ne _ _ (by assumption)).trans ?_)); done) | (simp [va_up, *] <;> rfl)) rfl ?_
    refine z_iret C hQ dX8_restore_48 rfl (by decide) (by decide) ?_
    exact fI'.of (hro24.tr (.st hI hZ24 hF24 hX24 hi24 ho24 f38 hS38)) ((zqS_t g1).trans (zq2_t h10))
  · refine z_throwW C hQ xt_ISE (si := 28) rfl dX8_restore_13 dX8_restore_16 dX8_restore_17 dX8_restore_20 dX8_restore_23 ⟨by decide, by decide, by decide, by decide⟩ (by decide) (by decide) ?_
    exact fX.o2 (.rf hc0) ((zqS_t g1).trans (zq2_f fun w => w (by omega)))
noncomputable def q_undo (Y : zSys) : Int × Int := if yPc Y = 0 then (1, 0) else (0, yPc Y - 1)
noncomputable def y_undo (Y : zSys) : zSys := if yPc Y = 0 then Y else yUnd Y
set_option maxHeartbeats 4000000 in
set_option maxRecDepth 100000 in
theorem k_X8_undo {l : Launch} {γ : zG} {M : zM} {U : Nat → Nat} {Y : zSys} (hc : hFc γ M U Y) (hk : yOk Y)  :
    zCon l γ yX8_undo cX8_undo 1 (some .int) [.ref (U 0)] M 6 104 1 6 (fI' γ M U (y_undo Y) (q_undo Y)) (fX γ M U Y (q_undo Y) xISE xISE) := by
  have hc0 := hc
  obtain ⟨hI, pn, Z, iF, oF, hZ, hF, hX, hi1, ho1⟩ := hc
  have hob := id hF
  unfold hFo at hob
  have hD : hSt γ M (zUb U 0) (yS Y) := hZ.2.1 ▸ hX.st0
  have hst := hD.ob
  have hkn := hk.1.1
  have hkk := hk.1.nk
  have hRQ := hX.2.2.2.2.2.2.1
  have hok := fun M' => @fOk.rk γ M M' U Y pn Z iF oF hI hZ hF hX hi1 ho1
  have fu : ∀ e e', zFr M (va_up (va_up M (U 0) e) (U 0) e') [U 0] := fun e e' => zFr.u1 (zFr.u1 zFr.rf (by simp)) (by simp)
  have hpn := hZ.1
  have hcn := hk.2.1
  have n1 := zUn hI (a := 1) (L := [0]) (by decide) (by decide) (by decide)
  have n16 := zUn hI (a := 16) (L := [0]) (by decide) (by decide) (by decide)
  refine zEnter [some (.ref (U 0))] (by decide +kernel) rfl rfl (Nat.le_of_ble_eq_true rfl) ?_
  intro p e s m args below meth c Q C hin hQ
  refine z_aload_n C dX8_undo_0 rfl ?_
  refine z_get C dX8_undo_1 fl_X8_31 (by first | assumption | ((repeat (first | assumption | exact va_up_self _ _ _ | refine (va_up_ne _ _ (by assumption)).trans ?_)); done) | (simp [va_up, *] <;> rfl)) rfl ?_
  refine z_if_neZ (tgt := 18) C dX8_undo_4 (by decide) (by omega) (fun h4 => ?_) (fun h4 => ?_)
  · refine z_aload_n C dX8_undo_18 rfl ?_
    refine z_aload_n C dX8_undo_19 rfl ?_
    refine z_get C dX8_undo_20 fl_X8_27 (by first | assumption | ((repeat (first | assumption | exact va_up_self _ _ _ | refine (va_up_ne _ _ (by assumption)).trans ?_)); done) | (simp [va_up, *] <;> rfl)) rfl ?_
    refine z_bipush C dX8_undo_23 (by decide) ?_
    refine z_iaddZ C dX8_undo_25 ?_
    refine z_iconst C dX8_undo_26 ?_
    refine z_isubZ C dX8_undo_27 ?_
    refine z_bipush C dX8_undo_28 (by decide) ?_
    refine z_iremZ C dX8_undo_30 (by omega) (by omega) ?_
    refine z_put C dX8_undo_31 fl_X8_27 (by first | assumption | ((repeat (first | assumption | exact va_up_self _ _ _ | refine (va_up_ne _ _ (by assumption)).trans ?_)); done) | (simp [va_up, *] <;> rfl)) rfl rfl (by simp) ?_
    refine z_aload_n C dX8_undo_34 rfl ?_
    refine z_dup C dX8_undo_35 rfl ?_
    refine z_get C dX8_undo_36 fl_X8_31 (by first | assumption | ((repeat (first | assumption | exact va_up_self _ _ _ | refine (va_up_ne _ _ (by assumption)).trans ?_)); done) | (simp [va_up, *] <;> rfl)) rfl ?_
    refine z_iconst C dX8_undo_39 ?_
    refine z_isubZ C dX8_undo_40 ?_
    refine z_put C dX8_undo_41 fl_X8_31 (by first | assumption | ((repeat (first | assumption | exact va_up_self _ _ _ | refine (va_up_ne _ _ (by assumption)).trans ?_)); done) | (simp [va_up, *] <;> rfl)) rfl rfl (by simp) ?_
    refine z_aload_n C dX8_undo_44 rfl ?_
    refine z_get C dX8_undo_45 fl_X8_13 (by first | assumption | ((repeat (first | assumption | exact va_up_self _ _ _ | refine (va_up_ne _ _ (by assumption)).trans ?_)); done) | (simp [va_up, *] <;> rfl)) rfl ?_
    refine z_aload_n C dX8_undo_48 rfl ?_
    refine z_get C dX8_undo_49 fl_X8_23 (by first | assumption | ((repeat (first | assumption | exact va_up_self _ _ _ | refine (va_up_ne _ _ (by assumption)).trans ?_)); done) | (simp [va_up, *] <;> rfl)) rfl ?_
    refine z_aload_n C dX8_undo_52 rfl ?_
    refine z_get C dX8_undo_53 fl_X8_27 (by first | assumption | ((repeat (first | assumption | exact va_up_self _ _ _ | refine (va_up_ne _ _ (by assumption)).trans ?_)); done) | (simp [va_up, *] <;> rfl)) rfl ?_
    refine z_aldR C dX8_undo_56 ((fu _ _).at n1 hX.1) (by decide) (by omega) (by omega) ?_
    have hkz : zNk (Z (2 + ((pn + 8 - 1) % 8).toNat)) := by
      have := hZ.2.2.1 0 (by omega)
      rw [show zPi pn 0 = 2 + ((pn + 8 - 1) % 8).toNat by unfold zPi; omega] at this
      rw [this]
      exact (hk.2.2.1 0 (by omega)).nk
    refine z_callV C dX8_undo_57 lk_X8_139 mw_X7_copyFrom mi_X7_copyFrom ms_X7_copyFrom rfl ((fu _ _).at n16 hst) (k_X7_copyFrom (hI.b (k := 0) (by decide)) (hX.obj hI (fu _ _)).st0 ((hX.obj hI (fu _ _)).2.2.2.2.2.2.2.2.2 (2 + ((pn + 8 - 1) % 8).toNat) (by omega)) hkz (fun i j hi hj q => by
  have := hI (16 + 43 * (0) + i) (16 + 43 * (2 + ((pn + 8 - 1) % 8).toNat) + j) (by omega) (by omega) q
  omega)) rfl (by first | decide | exact Nat.le_of_ble_eq_true rfl) ⟨by decide, by decide, by decide, by decide⟩ (fun _ _ h => False.elim h) (fun v M' hp => ?_)
    obtain ⟨rfl, f57, hS57⟩ := hp
    refine z_aload_n C dX8_undo_60 rfl ?_
    refine z_get C dX8_undo_61 fl_X8_31 (f57.at (zUd hI (a := 0) (by decide) (by decide)) (va_up_self _ _ _)) rfl ?_
    refine z_iret C hQ dX8_undo_64 rfl (by decide) (by decide) ?_
    rw [y_undo, if_neg (by omega)]
    exact fI'.of (.und hI hZ hX hi1 ho1 (by omega) (fu _ _) (va_up_self _ _ _) f57 hS57) (if_neg (by omega))
  · refine z_throwW C hQ xt_ISE (si := 29) rfl dX8_undo_7 dX8_undo_10 dX8_undo_11 dX8_undo_14 dX8_undo_17 ⟨by decide, by decide, by decide, by decide⟩ (by decide) (by decide) ?_
    exact fX.o1 (.rf hc0) (if_pos (by omega))
noncomputable def q_addReader (Y : zSys) (mm : Int) : Int × Int := zq1 (0 ≤ mm ∧ mm ≤ 2) (zq1 (0 < yIn Y ∧ yIn Y - 0 ≤ 4 ∧ hNm (yIf Y) (yIn Y) 0 (yIn Y)) (zq2 (sRn (yS Y) < 4 ∧ ¬ zNT (yS Y) (yIf Y) (yIn Y)) (0, sRn (yS Y))))
noncomputable def y_addReader (Y : zSys) (mm : Int) : zSys := ySI (ySet (yRem Y) (sAddR (yS Y) (rNew (yIf Y) (yIn Y) 0 (yIn Y) mm))) (yIf Y) 0
set_option maxHeartbeats 4000000 in
set_option maxRecDepth 100000 in
theorem k_X8_addReader {l : Launch} {γ : zG} {M : zM} {U : Nat → Nat} {Y : zSys} {mm : Int} (hc : hFc γ M U Y) (hk : yOk Y) (hmm : zR mm) :
    zCon l γ yX8_addReader cX8_addReader 2 (some .int) [.ref (U 0), .int (zi mm)] M 7 104 2 12 (fI' γ M U (y_addReader Y mm) (q_addReader Y mm)) (fX γ M U Y (q_addReader Y mm) xIAE xISE) := by
  have hc0 := hc
  obtain ⟨hI, pn, Z, iF, oF, hZ, hF, hX, hi1, ho1⟩ := hc
  have hob := id hF
  unfold hFo at hob
  have hD : hSt γ M (zUb U 0) (yS Y) := hZ.2.1 ▸ hX.st0
  have hst := hD.ob
  have hkn := hk.1.1
  have hkk := hk.1.nk
  have hRQ := hX.2.2.2.2.2.2.1
  have hok := fun M' => @fOk.rk γ M M' U Y pn Z iF oF hI hZ hF hX hi1 ho1
  have hip := hX.2.2.2.1
  have hip1 := hip.1.1
  have hipr := hip.2.1
  have n45 : U 0 ∉ [U 4, U 5] := zUn hI (L := [4, 5]) (by decide) (by decide) (by decide)
  have eAt := hAt_cgf hi1
  refine zEnter [some (.ref (U 0)), some (.int (zi mm))] (by decide +kernel) rfl rfl (Nat.le_of_ble_eq_true rfl) ?_
  intro p e s m args below meth c Q C hin hQ
  have lo : List (Option Value) := []
  have tt : (0 ≤ mm ∧ mm ≤ 2) → (0 < yIn Y ∧ yIn Y - 0 ≤ 4 ∧ hNm (yIf Y) (yIn Y) 0 (yIn Y)) → ¬ (sRn (yS Y) < 4 ∧ ¬ zNT (yS Y) (yIf Y) (yIn Y)) → zAW p l e { frames := 7, cells := 2, slots := 12, locals := 104 } s m args below meth c γ 2 Q M 1 6 66 [some (.ref (U 0)), some (.int (zi mm))] [] := by
    intro g1 g2 g3
    refine z_throwW C hQ xt_ISE (si := 22) rfl dX8_addReader_66 dX8_addReader_69 dX8_addReader_70 dX8_addReader_73 dX8_addReader_76 ⟨by decide, by decide, by decide, by decide⟩ (by decide) (by decide) ?_
    exact fX.o2 (.rf hc0) ((zq1_t g1).trans ((zq1_t g2).trans (zq2_f g3)))
  have tn : (0 ≤ mm ∧ mm ≤ 2) → (0 < yIn Y ∧ yIn Y - 0 ≤ 4 ∧ hNm (yIf Y) (yIn Y) 0 (yIn Y)) → (sRn (yS Y) < 4 ∧ ¬ zNT (yS Y) (yIf Y) (yIn Y)) → zAW p l e { frames := 7, cells := 2, slots := 12, locals := 104 } s m args below meth c γ 2 Q M 1 6 77 [some (.ref (U 0)), some (.int (zi mm))] [] := by
    intro g1 g2 g3
    refine z_aload_n C dX8_addReader_77 rfl ?_
    refine z_callV C dX8_addReader_78 lk_X8_136 mw_X8_remember mi_X8_remember ms_X8_remember rfl (by first | assumption | ((repeat (first | assumption | exact va_up_self _ _ _ | refine (va_up_ne _ _ (by assumption)).trans ?_)); done) | (simp [va_up, *] <;> rfl)) (k_X8_remember hc0 hk) rfl (by first | decide | exact Nat.le_of_ble_eq_true rfl) ⟨by decide, by decide, by decide, by decide⟩ (fun _ _ h => False.elim h) (fun v M' hp => ?_)
    obtain ⟨rfl, f78, hc78⟩ := hp
    have hk78 := hk.rem
    obtain ⟨-, pn78, Z78, iF78, oF78, hZ78, hF78, hX78, hi78, ho78⟩ := id hc78
    have ob78 := id hF78
    unfold hFo at ob78
    have hD78 : hSt γ _ (zUb U 0) (yS Y) := hZ78.2.1 ▸ hX78.st0
    have hst78 := hD78.ob
    have hro78 := fOk.mk' f78 hc78
    have hip78 := hX78.2.2.2.1
    have oi78 := hip78.1.1
    have e78 : hAt iF78 (yIn (yRem Y)) = hAt (yIf Y) (yIn (yRem Y)) := hAt_cgf hi78
    refine z_aload_n C dX8_addReader_81 rfl ?_
    refine z_get C dX8_addReader_82 fl_X8_13 (by first | assumption | ((repeat (first | assumption | exact va_up_self _ _ _ | refine (va_up_ne _ _ (by assumption)).trans ?_)); done) | (simp [va_up, *] <;> rfl)) rfl ?_
    refine z_aload_n C dX8_addReader_85 rfl ?_
    refine z_get C dX8_addReader_86 fl_X8_44 (by first | assumption | ((repeat (first | assumption | exact va_up_self _ _ _ | refine (va_up_ne _ _ (by assumption)).trans ?_)); done) | (simp [va_up, *] <;> rfl)) rfl ?_
    refine z_iconst C dX8_addReader_89 ?_
    refine z_aload_n C dX8_addReader_90 rfl ?_
    refine z_get C dX8_addReader_91 fl_X8_44 (by first | assumption | ((repeat (first | assumption | exact va_up_self _ _ _ | refine (va_up_ne _ _ (by assumption)).trans ?_)); done) | (simp [va_up, *] <;> rfl)) rfl ?_
    refine z_get C dX8_addReader_94 fl_X8_107 (by first | assumption | ((repeat (first | assumption | exact va_up_self _ _ _ | refine (va_up_ne _ _ (by assumption)).trans ?_)); done) | (simp [va_up, *] <;> rfl)) rfl ?_
    refine z_iload_n C dX8_addReader_97 rfl ?_
    refine z_callV C dX8_addReader_98 lk_X8_304 mw_X7_putReader mi_X7_putReader ms_X7_putReader rfl hst78 (k_X7_putReader (hI.b (by decide)) hD78 ⟨by omega, by omega⟩ hip78.1 hip78.2 ⟨zUd hI (by decide) (by decide), zUd hI (by decide) (by decide)⟩ (b := 0) (e0 := yIn Y) (by omega)) rfl (by first | decide | exact Nat.le_of_ble_eq_true rfl) ⟨by decide, by decide, by decide, by decide⟩ (fun _ _ h => False.elim h) (fun v M' hp => ?_)
    obtain ⟨rfl, f98, hS98⟩ := hp
    rw [rNew_cg e78] at hS98
    have hok98 := fOk.st hI hZ78 hF78 hX78 hi78 ho78 f98 hS98
    obtain ⟨-, -, pn98, Z98, iF98, oF98, hZ98, hF98, hX98, hi98, ho98⟩ := id hok98
    have ob98 := id hF98
    unfold hFo at ob98
    have hst98 := hS98.ob
    have hip98 := hX98.2.2.2.1
    have oi98 := hip98.1.1
    refine z_aload_n C dX8_addReader_101 rfl ?_
    refine z_get C dX8_addReader_102 fl_X8_44 (by first | assumption | ((repeat (first | assumption | exact va_up_self _ _ _ | refine (va_up_ne _ _ (by assumption)).trans ?_)); done) | (simp [va_up, *] <;> rfl)) rfl ?_
    refine z_callV C dX8_addReader_105 lk_X8_127 mw_X0_clear mi_X0_clear ms_X0_clear rfl oi98 (k_X0_clear hip98.1) rfl (by first | decide | exact Nat.le_of_ble_eq_true rfl) ⟨by decide, by decide, by decide, by decide⟩ (fun _ _ h => False.elim h) (fun v M' hp => ?_)
    obtain ⟨rfl, hB105, f105⟩ := hp
    have ob105 := f105.at (zUn hI (a := 0) (L := [4]) (by decide) (by decide) (by decide)) ob98
    have hst105 := f105.at (zUn hI (a := 16) (L := [4]) (by decide) (by decide) (by decide)) hst98
    refine z_aload_n C dX8_addReader_108 rfl ?_
    refine z_get C dX8_addReader_109 fl_X8_13 (by first | assumption | ((repeat (first | assumption | exact va_up_self _ _ _ | refine (va_up_ne _ _ (by assumption)).trans ?_)); done) | (simp [va_up, *] <;> rfl)) rfl ?_
    refine z_get C dX8_addReader_112 fl_X8_143 (by first | assumption | ((repeat (first | assumption | exact va_up_self _ _ _ | refine (va_up_ne _ _ (by assumption)).trans ?_)); done) | (simp [va_up, *] <;> rfl)) rfl ?_
    refine z_iconst C dX8_addReader_115 ?_
    refine z_isubZ C dX8_addReader_116 ?_
    refine z_iret C hQ dX8_addReader_117 rfl (by decide) (by decide) ?_
    exact fI'.of ((hro78.tr hok98).tr (.inp hI hZ98 hF98 hX98 ho98 (f105.tr zFr.rf (fun b hb => by rw [List.mem_singleton.mp hb]; simp) (fun _ h => h)) hB105 ⟨by omega, hip98.2.2.1, fun j hj => by omega⟩ (fun j hj => by omega))) ((zq1_t g1).trans ((zq1_t g2).trans ((zq2_t g3).trans (congrArg (Prod.mk 0) (Int.add_sub_cancel (sRn (yS Y)) 1).symm))))
  refine z_iload_n C dX8_addReader_0 rfl ?_
  refine z_callS C dX8_addReader_1 lk_X8_289 mw_X8_requireMethod mst_X8_requireMethod (k_X8_requireMethod hmm) rfl (by first | decide | exact Nat.le_of_ble_eq_true rfl) ⟨by decide, by decide, by decide, by decide⟩ (fun X M' h => by obtain ⟨rfl, rfl, h⟩ := h; exact z_out C hQ (by decide) (by decide) (fX.o1 (.rf hc0) (zq1_f h))) (fun v M' hp => ?_)
  obtain ⟨rfl, rfl, g1⟩ := hp
  refine z_aload_n C dX8_addReader_4 rfl ?_
  refine z_get C dX8_addReader_5 fl_X8_44 (by first | assumption | ((repeat (first | assumption | exact va_up_self _ _ _ | refine (va_up_ne _ _ (by assumption)).trans ?_)); done) | (simp [va_up, *] <;> rfl)) rfl ?_
  refine z_iconst C dX8_addReader_8 ?_
  refine z_aload_n C dX8_addReader_9 rfl ?_
  refine z_get C dX8_addReader_10 fl_X8_44 (by first | assumption | ((repeat (first | assumption | exact va_up_self _ _ _ | refine (va_up_ne _ _ (by assumption)).trans ?_)); done) | (simp [va_up, *] <;> rfl)) rfl ?_
  refine z_get C dX8_addReader_13 fl_X8_107 (by first | assumption | ((repeat (first | assumption | exact va_up_self _ _ _ | refine (va_up_ne _ _ (by assumption)).trans ?_)); done) | (simp [va_up, *] <;> rfl)) rfl ?_
  refine z_callV C dX8_addReader_16 lk_X8_292 mw_X0_isName mi_X0_isName ms_X0_isName rfl (by first | assumption | ((repeat (first | assumption | exact va_up_self _ _ _ | refine (va_up_ne _ _ (by assumption)).trans ?_)); done) | (simp [va_up, *] <;> rfl)) (k_X0_isName hip.1 hip.2 (b := 0) (e0 := yIn Y) (by omega) (by omega)) rfl (by first | decide | exact Nat.le_of_ble_eq_true rfl) ⟨by decide, by decide, by decide, by decide⟩ (fun _ _ h => False.elim h) (fun v M' hp => ?_)
  obtain ⟨r16, rfl, rfl, hr16⟩ := hp
  have q16 := hr16.rng
  rw [hNm_cg eAt] at hr16
  refine z_if_neZ (tgt := 33) C dX8_addReader_19 (by decide) (by omega) (fun h19 => ?_) (fun h19 => ?_)
  · refine z_aload_n C dX8_addReader_33 rfl ?_
    refine z_get C dX8_addReader_34 fl_X8_13 (by first | assumption | ((repeat (first | assumption | exact va_up_self _ _ _ | refine (va_up_ne _ _ (by assumption)).trans ?_)); done) | (simp [va_up, *] <;> rfl)) rfl ?_
    refine z_get C dX8_addReader_37 fl_X8_143 (by first | assumption | ((repeat (first | assumption | exact va_up_self _ _ _ | refine (va_up_ne _ _ (by assumption)).trans ?_)); done) | (simp [va_up, *] <;> rfl)) rfl ?_
    refine z_iconst C dX8_addReader_40 ?_
    refine z_icmp_geZ (tgt := 66) C dX8_addReader_41 (by decide) (by omega) (by omega) (fun h41 => ?_) (fun h41 => ?_)
    · exact tt g1 (hr16.t h19) (fun w => by omega)
    · refine z_aload_n C dX8_addReader_44 rfl ?_
      refine z_get C dX8_addReader_45 fl_X8_13 (by first | assumption | ((repeat (first | assumption | exact va_up_self _ _ _ | refine (va_up_ne _ _ (by assumption)).trans ?_)); done) | (simp [va_up, *] <;> rfl)) rfl ?_
      refine z_aload_n C dX8_addReader_48 rfl ?_
      refine z_get C dX8_addReader_49 fl_X8_44 (by first | assumption | ((repeat (first | assumption | exact va_up_self _ _ _ | refine (va_up_ne _ _ (by assumption)).trans ?_)); done) | (simp [va_up, *] <;> rfl)) rfl ?_
      refine z_iconst C dX8_addReader_52 ?_
      refine z_aload_n C dX8_addReader_53 rfl ?_
      refine z_get C dX8_addReader_54 fl_X8_44 (by first | assumption | ((repeat (first | assumption | exact va_up_self _ _ _ | refine (va_up_ne _ _ (by assumption)).trans ?_)); done) | (simp [va_up, *] <;> rfl)) rfl ?_
      refine z_get C dX8_addReader_57 fl_X8_107 (by first | assumption | ((repeat (first | assumption | exact va_up_self _ _ _ | refine (va_up_ne _ _ (by assumption)).trans ?_)); done) | (simp [va_up, *] <;> rfl)) rfl ?_
      refine z_callV C dX8_addReader_60 lk_X8_298 mw_X7_readerNamed mi_X7_readerNamed ms_X7_readerNamed rfl hst (k_X7_readerNamed hD hkk hip.1 hip.2 (b := 0) (e0 := yIn Y) (by omega)) rfl (by first | decide | exact Nat.le_of_ble_eq_true rfl) ⟨by decide, by decide, by decide, by decide⟩ (fun _ _ h => False.elim h) (fun v M' hp => ?_)
      obtain ⟨rfl, hq60⟩ := hp
      rcases hq60 with ⟨i60, hi60, rfl, h60, -⟩ | ⟨rfl, h60⟩
      · refine z_ifnull C dX8_addReader_63 ?_
        exact tt g1 (hr16.t h19) (fun w => w.2 ⟨i60, hi60, by rw [hNa_cg eAt] at h60; exact h60⟩)
      · refine z_ifnullN (tgt := 77) C dX8_addReader_63 (by decide) ?_
        exact tn g1 (hr16.t h19) ⟨by omega, fun w => by obtain ⟨i, h1, h2⟩ := w; rw [← hNa_cg eAt] at h2; exact h60 i h1 h2⟩
  · refine z_throwW C hQ xt_IAE (si := 21) rfl dX8_addReader_22 dX8_addReader_25 dX8_addReader_26 dX8_addReader_29 dX8_addReader_32 ⟨by decide, by decide, by decide, by decide⟩ (by decide) (by decide) ?_
    exact fX.o1 (.rf hc0) ((zq1_t g1).trans (zq1_f (hr16.f h19)))
noncomputable def q_addDocument (Y : zSys) : Int × Int := zq1 (0 < yIn Y ∧ yIn Y - 0 ≤ 40 ∧ hDm (yIf Y) (yIn Y) 0 (yIn Y)) (zq2 (sDn (yS Y) < 8) (0, sDn (yS Y)))
noncomputable def y_addDocument (Y : zSys) : zSys := ySI (ySet (yRem Y) (sAddD (yS Y) (dNew (yIf Y) (yIn Y) 0 (yIn Y) (sYr (yS Y))))) (yIf Y) 0
set_option maxHeartbeats 4000000 in
set_option maxRecDepth 100000 in
theorem k_X8_addDocument {l : Launch} {γ : zG} {M : zM} {U : Nat → Nat} {Y : zSys} (hc : hFc γ M U Y) (hk : yOk Y)  :
    zCon l γ yX8_addDocument cX8_addDocument 1 (some .int) [.ref (U 0)] M 7 104 1 6 (fI' γ M U (y_addDocument Y) (q_addDocument Y)) (fX γ M U Y (q_addDocument Y) xIAE xISE) := by
  have hc0 := hc
  obtain ⟨hI, pn, Z, iF, oF, hZ, hF, hX, hi1, ho1⟩ := hc
  have hob := id hF
  unfold hFo at hob
  have hD : hSt γ M (zUb U 0) (yS Y) := hZ.2.1 ▸ hX.st0
  have hst := hD.ob
  have hkn := hk.1.1
  have hkk := hk.1.nk
  have hRQ := hX.2.2.2.2.2.2.1
  have hok := fun M' => @fOk.rk γ M M' U Y pn Z iF oF hI hZ hF hX hi1 ho1
  have hip := hX.2.2.2.1
  have hip1 := hip.1.1
  have hipr := hip.2.1
  have n45 : U 0 ∉ [U 4, U 5] := zUn hI (L := [4, 5]) (by decide) (by decide) (by decide)
  have eAt := hAt_cgf hi1
  refine zEnter [some (.ref (U 0))] (by decide +kernel) rfl rfl (Nat.le_of_ble_eq_true rfl) ?_
  intro p e s m args below meth c Q C hin hQ
  refine z_aload_n C dX8_addDocument_0 rfl ?_
  refine z_get C dX8_addDocument_1 fl_X8_44 (by first | assumption | ((repeat (first | assumption | exact va_up_self _ _ _ | refine (va_up_ne _ _ (by assumption)).trans ?_)); done) | (simp [va_up, *] <;> rfl)) rfl ?_
  refine z_iconst C dX8_addDocument_4 ?_
  refine z_aload_n C dX8_addDocument_5 rfl ?_
  refine z_get C dX8_addDocument_6 fl_X8_44 (by first | assumption | ((repeat (first | assumption | exact va_up_self _ _ _ | refine (va_up_ne _ _ (by assumption)).trans ?_)); done) | (simp [va_up, *] <;> rfl)) rfl ?_
  refine z_get C dX8_addDocument_9 fl_X8_107 (by first | assumption | ((repeat (first | assumption | exact va_up_self _ _ _ | refine (va_up_ne _ _ (by assumption)).trans ?_)); done) | (simp [va_up, *] <;> rfl)) rfl ?_
  refine z_callV C dX8_addDocument_12 lk_X8_308 mw_X0_isDocument mi_X0_isDocument ms_X0_isDocument rfl (by first | assumption | ((repeat (first | assumption | exact va_up_self _ _ _ | refine (va_up_ne _ _ (by assumption)).trans ?_)); done) | (simp [va_up, *] <;> rfl)) (k_X0_isDocument hip.1 hip.2 (b := 0) (e0 := yIn Y) (by omega) (by omega)) rfl (by first | decide | exact Nat.le_of_ble_eq_true rfl) ⟨by decide, by decide, by decide, by decide⟩ (fun _ _ h => False.elim h) (fun v M' hp => ?_)
  obtain ⟨r12, rfl, rfl, hr12⟩ := hp
  have q12 := hr12.rng
  rw [hDm_cg eAt] at hr12
  refine z_if_neZ (tgt := 29) C dX8_addDocument_15 (by decide) (by omega) (fun h15 => ?_) (fun h15 => ?_)
  · refine z_aload_n C dX8_addDocument_29 rfl ?_
    refine z_get C dX8_addDocument_30 fl_X8_13 (by first | assumption | ((repeat (first | assumption | exact va_up_self _ _ _ | refine (va_up_ne _ _ (by assumption)).trans ?_)); done) | (simp [va_up, *] <;> rfl)) rfl ?_
    refine z_get C dX8_addDocument_33 fl_X8_167 (by first | assumption | ((repeat (first | assumption | exact va_up_self _ _ _ | refine (va_up_ne _ _ (by assumption)).trans ?_)); done) | (simp [va_up, *] <;> rfl)) rfl ?_
    refine z_bipush C dX8_addDocument_36 (by decide) ?_
    refine z_icmp_ltZ (tgt := 52) C dX8_addDocument_38 (by decide) (by omega) (by omega) (fun h38 => ?_) (fun h38 => ?_)
    · refine z_aload_n C dX8_addDocument_52 rfl ?_
      refine z_callV C dX8_addDocument_53 lk_X8_136 mw_X8_remember mi_X8_remember ms_X8_remember rfl (by first | assumption | ((repeat (first | assumption | exact va_up_self _ _ _ | refine (va_up_ne _ _ (by assumption)).trans ?_)); done) | (simp [va_up, *] <;> rfl)) (k_X8_remember hc0 hk) rfl (by first | decide | exact Nat.le_of_ble_eq_true rfl) ⟨by decide, by decide, by decide, by decide⟩ (fun _ _ h => False.elim h) (fun v M' hp => ?_)
      obtain ⟨rfl, f53, hc53⟩ := hp
      have hk53 := hk.rem
      obtain ⟨-, pn53, Z53, iF53, oF53, hZ53, hF53, hX53, hi53, ho53⟩ := id hc53
      have ob53 := id hF53
      unfold hFo at ob53
      have hD53 : hSt γ _ (zUb U 0) (yS Y) := hZ53.2.1 ▸ hX53.st0
      have hst53 := hD53.ob
      have hro53 := fOk.mk' f53 hc53
      have hip53 := hX53.2.2.2.1
      have oi53 := hip53.1.1
      have e53 : hAt iF53 (yIn (yRem Y)) = hAt (yIf Y) (yIn (yRem Y)) := hAt_cgf hi53
      have t53 := hr12.t h15
      refine z_aload_n C dX8_addDocument_56 rfl ?_
      refine z_get C dX8_addDocument_57 fl_X8_13 (by first | assumption | ((repeat (first | assumption | exact va_up_self _ _ _ | refine (va_up_ne _ _ (by assumption)).trans ?_)); done) | (simp [va_up, *] <;> rfl)) rfl ?_
      refine z_aload_n C dX8_addDocument_60 rfl ?_
      refine z_get C dX8_addDocument_61 fl_X8_44 (by first | assumption | ((repeat (first | assumption | exact va_up_self _ _ _ | refine (va_up_ne _ _ (by assumption)).trans ?_)); done) | (simp [va_up, *] <;> rfl)) rfl ?_
      refine z_iconst C dX8_addDocument_64 ?_
      refine z_aload_n C dX8_addDocument_65 rfl ?_
      refine z_get C dX8_addDocument_66 fl_X8_44 (by first | assumption | ((repeat (first | assumption | exact va_up_self _ _ _ | refine (va_up_ne _ _ (by assumption)).trans ?_)); done) | (simp [va_up, *] <;> rfl)) rfl ?_
      refine z_get C dX8_addDocument_69 fl_X8_107 (by first | assumption | ((repeat (first | assumption | exact va_up_self _ _ _ | refine (va_up_ne _ _ (by assumption)).trans ?_)); done) | (simp [va_up, *] <;> rfl)) rfl ?_
      refine z_callV C dX8_addDocument_72 lk_X8_315 mw_X7_putDocument mi_X7_putDocument ms_X7_putDocument rfl hst53 (k_X7_putDocument (hI.b (by decide)) hD53 ⟨by omega, by omega⟩ hip53.1 hip53.2 ⟨zUd hI (by decide) (by decide), zUd hI (by decide) (by decide)⟩ (b := 0) (e0 := yIn Y) (by omega)) rfl (by first | decide | exact Nat.le_of_ble_eq_true rfl) ⟨by decide, by decide, by decide, by decide⟩ (fun _ _ h => False.elim h) (fun v M' hp => ?_)
      obtain ⟨rfl, f72, hS72⟩ := hp
      rw [dNew_cg e53] at hS72
      have hok72 := fOk.st hI hZ53 hF53 hX53 hi53 ho53 f72 hS72
      obtain ⟨-, -, pn72, Z72, iF72, oF72, hZ72, hF72, hX72, hi72, ho72⟩ := id hok72
      have ob72 := id hF72
      unfold hFo at ob72
      have hst72 := hS72.ob
      have hip72 := hX72.2.2.2.1
      have oi72 := hip72.1.1
      refine z_aload_n C dX8_addDocument_75 rfl ?_
      refine z_get C dX8_addDocument_76 fl_X8_44 (by first | assumption | ((repeat (first | assumption | exact va_up_self _ _ _ | refine (va_up_ne _ _ (by assumption)).trans ?_)); done) | (simp [va_up, *] <;> rfl)) rfl ?_
      refine z_callV C dX8_addDocument_79 lk_X8_127 mw_X0_clear mi_X0_clear ms_X0_clear rfl oi72 (k_X0_clear hip72.1) rfl (by first | decide | exact Nat.le_of_ble_eq_true rfl) ⟨by decide, by decide, by decide, by decide⟩ (fun _ _ h => False.elim h) (fun v M' hp => ?_)
      obtain ⟨rfl, hB79, f79⟩ := hp
      have ob79 := f79.at (zUn hI (a := 0) (L := [4]) (by decide) (by decide) (by decide)) ob72
      have hst79 := f79.at (zUn hI (a := 16) (L := [4]) (by decide) (by decide) (by decide)) hst72
      refine z_aload_n C dX8_addDocument_82 rfl ?_
      refine z_get C dX8_addDocument_83 fl_X8_13 (by first | assumption | ((repeat (first | assumption | exact va_up_self _ _ _ | refine (va_up_ne _ _ (by assumption)).trans ?_)); done) | (simp [va_up, *] <;> rfl)) rfl ?_
      refine z_get C dX8_addDocument_86 fl_X8_167 (by first | assumption | ((repeat (first | assumption | exact va_up_self _ _ _ | refine (va_up_ne _ _ (by assumption)).trans ?_)); done) | (simp [va_up, *] <;> rfl)) rfl ?_
      refine z_iconst C dX8_addDocument_89 ?_
      refine z_isubZ C dX8_addDocument_90 ?_
      refine z_iret C hQ dX8_addDocument_91 rfl (by decide) (by decide) ?_
      exact fI'.of ((hro53.tr hok72).tr (.inp hI hZ72 hF72 hX72 ho72 (f79.tr zFr.rf (fun b hb => by rw [List.mem_singleton.mp hb]; simp) (fun _ h => h)) hB79 ⟨by omega, hip72.2.2.1, fun j hj => by omega⟩ (fun j hj => by omega))) ((zq1_t t53).trans ((zq2_t (by omega)).trans (congrArg (Prod.mk 0) (Int.add_sub_cancel (sDn (yS Y)) 1).symm)))
    · refine z_throwW C hQ xt_ISE (si := 24) rfl dX8_addDocument_41 dX8_addDocument_44 dX8_addDocument_45 dX8_addDocument_48 dX8_addDocument_51 ⟨by decide, by decide, by decide, by decide⟩ (by decide) (by decide) ?_
      exact fX.o2 (.rf hc0) ((zq1_t (hr12.t h15)).trans (zq2_f (by omega)))
  · refine z_throwW C hQ xt_IAE (si := 23) rfl dX8_addDocument_18 dX8_addDocument_21 dX8_addDocument_22 dX8_addDocument_25 dX8_addDocument_28 ⟨by decide, by decide, by decide, by decide⟩ (by decide) (by decide) ?_
    exact fX.o1 (.rf hc0) (zq1_f (hr12.f h15))

