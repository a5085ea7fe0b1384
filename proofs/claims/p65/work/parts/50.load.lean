/-! the face: load -/
theorem zsk_cg {f g : Nat → Int} {n : Int} (h : hAt f n = hAt g n) : ∀ (t : Nat) (q : Int), zsk f n t q = zsk g n t q
  | 0, _ => rfl
  | t + 1, q => by
    unfold zsk
    rw [h, zsk_cg h t]
theorem zrn_cg {f g : Nat → Int} {n : Int} (h : hAt f n = hAt g n) (k : Int) : ∀ (t : Nat) (q : Int), zrn f n k t q = zrn g n k t q
  | 0, _ => rfl
  | t + 1, q => by
    unfold zrn
    rw [h, zrn_cg h k t]
theorem znv_cg {f g : Nat → Int} {n : Int} (h : hAt f n = hAt g n) : ∀ (t : Nat) (i v : Int), znv f n t i v = znv g n t i v
  | 0, _, _ => rfl
  | t + 1, i, v => by
    unfold znv
    rw [h, znv_cg h t]
theorem ztS_cg {f g : Nat → Int} {n : Int} (h : hAt f n = hAt g n) : ztS f n = ztS g n := funext fun e => zsk_cg h _ _
theorem ztK_cg {f g : Nat → Int} {n : Int} (h : hAt f n = hAt g n) : ztK f n = ztK g n := by
  funext e
  unfold ztK
  rw [h, ztS_cg h]
theorem ztE_cg {f g : Nat → Int} {n : Int} (h : hAt f n = hAt g n) : ztE f n = ztE g n := by
  funext e
  unfold ztE
  rw [ztK_cg h, ztS_cg h, zrn_cg h]
theorem zWd_cg {f g : Nat → Int} {n : Int} (h : hAt f n = hAt g n) : zWd f n = zWd g n := by
  funext i S E
  unfold zWd
  rw [h]
theorem zMw_cg {f g : Nat → Int} {n : Int} (h : hAt f n = hAt g n) : zMw f n = zMw g n := by
  funext S E
  unfold zMw
  rw [zWd_cg h]
theorem zNo_cg {S : zSt} {f g : Nat → Int} {n : Int} (h : hAt f n = hAt g n) : zNo S f n = zNo S g n := by
  funext b e
  unfold zNo
  rw [show hNa S f n b e = hNa S g n b e from funext fun i => hNa_cg h]
theorem zpY_cg {f g : Nat → Int} {n : Int} (h : hAt f n = hAt g n) : zpY f n = zpY g n := by
  funext S e
  unfold zpY
  rw [h, ztS_cg h, ztE_cg h]
theorem zpD_cg {f g : Nat → Int} {n : Int} (h : hAt f n = hAt g n) : zpD f n = zpD g n := by
  have h3 : zpD3 f n = zpD3 g n := by
    funext S e e1 e2
    unfold zpD3
    rw [h, ztS_cg h, ztE_cg h, dNew_cg h]
  funext S e
  unfold zpD
  rw [ztS_cg h, ztK_cg h, ztE_cg h, h3]
theorem zpR_cg {f g : Nat → Int} {n : Int} (h : hAt f n = hAt g n) : zpR f n = zpR g n := by
  have h3 : zpR3 f n = zpR3 g n := by
    funext S e e1 e2 e3
    unfold zpR3
    rw [h, ztS_cg h, ztE_cg h, zMw_cg h, rNew_cg h]
  funext S e
  unfold zpR
  rw [ztS_cg h, ztK_cg h, ztE_cg h, h3, hNm_cg h, zNo_cg h]
theorem zpT_cg {f g : Nat → Int} {n : Int} (h : hAt f n = hAt g n) : zpT f n = zpT g n := by
  have h3 : zpT3 f n = zpT3 g n := by
    funext S e r v e3
    unfold zpT3
    rw [h, ztS_cg h, ztE_cg h]
  have h2 : zpT2 f n = zpT2 g n := by
    funext S e r e2 e3 v
    unfold zpT2
    rw [ztS_cg h, ztK_cg h, h3]
  have h1 : zpT1 f n = zpT1 g n := by
    funext S e e1 e2 r
    unfold zpT1
    rw [ztS_cg h, ztK_cg h, ztE_cg h, h2, znv_cg h]
  funext S e
  unfold zpT
  rw [ztS_cg h, ztE_cg h, h1, zNo_cg h]
theorem zpS_cg {f g : Nat → Int} {n : Int} (h : hAt f n = hAt g n) : zpS f n = zpS g n := by
  funext S e
  unfold zpS
  rw [ztS_cg h, ztE_cg h, zWd_cg h, zpR_cg h, zpD_cg h, zpT_cg h, zpY_cg h]
theorem zpA_cg {f g : Nat → Int} {n : Int} (h : hAt f n = hAt g n) : ∀ (t : Nat) (S : zSt) (e : Int), zpA f n t S e = zpA g n t S e
  | 0, _, _ => rfl
  | t + 1, S, e => by
    unfold zpA
    rw [ztK_cg h, zpS_cg h]
    simp only [zpA_cg h t]
/-- all cells of the face are there -/
theorem hFx.dom {γ : zG} {M : zM} {U : Nat → Nat} {us iF oF : Nat → Int} {iN oN pn cnt ec ep : Int} {Z : Nat → zSt} (hF : hFo γ M U pn cnt ec ep) (h : hFx γ M U us iF iN oF oN Z) : ∀ i, i < 532 → ∃ x, M (U i) = some x := fun i hi => by
  obtain ⟨h0, h1, h2, h3, h4, ⟨c, -, n, ks, vs, ⟨t1, t2, t3⟩, -⟩, ⟨f, g, sz, mk, ⟨-, r1, r2, r3⟩, -⟩, ⟨T, B, E, mk2, h7⟩, ⟨g2, h8, -⟩, h9⟩ := h
  by_cases q : i < 16
  · match i, q with
    | 0, _ => exact ⟨_, hF⟩
    | 1, _ => exact ⟨_, h0⟩
    | 2, _ => exact ⟨_, h1⟩
    | 3, _ => exact ⟨_, h2⟩
    | 4, _ => exact ⟨_, h3.1.1⟩
    | 5, _ => exact ⟨_, h3.1.2⟩
    | 6, _ => exact ⟨_, h4.1.1⟩
    | 7, _ => exact ⟨_, h4.1.2⟩
    | 8, _ => exact ⟨_, t1⟩
    | 9, _ => exact ⟨_, t2⟩
    | 10, _ => exact ⟨_, t3⟩
    | 11, _ => exact ⟨_, r1⟩
    | 12, _ => exact ⟨_, r2⟩
    | 13, _ => exact ⟨_, r3⟩
    | 14, _ => exact ⟨_, h7⟩
    | 15, _ => exact ⟨_, h8⟩
    | k + 16, q => exact absurd q (by omega)
  · have := (h9 ((i - 16) / 43) (by omega)).dom ((i - 16) % 43) (by omega)
    unfold zUb at this
    rw [show 16 + 43 * ((i - 16) / 43) + (i - 16) % 43 = i by omega] at this
    exact this
theorem va_up_tw {α : Type} (f : Nat → α) (k : Nat) (v w : α) : va_up (va_up f k v) k w = va_up f k w := by
  funext j
  unfold va_up
  split <;> rfl
/-- a cell forgotten -/
theorem zFr.fgt {M M2 : zM} {q : Nat} {S : List Nat} (h : zFr M M2 (q :: S)) (hq : M q = none) : zFr M (va_up M2 q none) S := fun b hb => by
  unfold va_up
  split
  · rename_i e
    rw [e, hq]
  · rename_i e
    exact h b fun w => (List.mem_cons.mp w).elim e hb
theorem zFr.fg2 {M M2 : zM} {q : Nat} {S : List Nat} (h : zFr M M2 S) : zFr (va_up M q none) (va_up M2 q none) S := fun b hb => by
  unfold va_up
  split
  · rfl
  · exact h b hb
section ZR50
variable {p : Program} {l : Launch} {e : Env} {R : Room} {s : State} {m : MethodId} {args : Array Value} {below : List Frame} {meth : Method} {c : Code} {γ : zG} {nL : Nat} {Q : State → Prop} {M : zM} {k n pc : Nat} {L : zL} {st : List Value}
theorem z_fgt {q : Nat} (kk : zAW p l e R s m args below meth c γ nL Q (va_up M q none) k n pc L st) : zAW p l e R s m args below meth c γ nL Q M k n pc L st := z_sub (fun a x h => by
  unfold va_up at h
  split at h
  · cases h
  · exact h) kk
end ZR50
theorem zPa.uni {γ : zG} {M : zM} {a ta : Nat} {D : Nat → Nat} {q : zPR} {r : Int} (h : zPa γ M a ta D q r) : ∃ S' K s E, hSt γ M D S' ∧ hPt γ M a ta (D 0) K s E q.1 (if q.1 = 0 then -1 else q.2.1) ∧ ((q.1 = 0 ∧ r = 1 ∧ S' = q.2.2.1 ∧ zOk q.2.2.1) ∨ (q.1 ≠ 0 ∧ r = 0)) := by
  rcases h with ⟨h1, h2, h3, h4, K, s, E, h5⟩ | ⟨h1, h2, ⟨S', h3⟩, K, s, E, h5⟩
  · refine ⟨_, K, s, E, h3, ?_, .inl ⟨h1, h2, rfl, h4⟩⟩
    rw [if_pos h1, h1]
    exact h5
  · refine ⟨_, K, s, E, h3, ?_, .inr ⟨h1, h2⟩⟩
    rw [if_neg h1]
    exact h5
theorem hSt.s0 {γ : zG} {M : zM} {D : Nat → Nat} {S : zSt} (h : hSt γ M D (sClr S)) : hSt γ M D zS0 := by
  obtain ⟨Rs, Ds, h, -, -⟩ := h
  exact ⟨Rs, Ds, h, fun i hi => absurd hi (by show ¬ (i : Int) < 0; omega), fun i hi => absurd hi (by show ¬ (i : Int) < 0; omega)⟩
theorem zZk.ld {Y : zSys} {pn : Int} {Z : Nat → zSt} (h : zZk Y pn Z) (f : Nat → Int) (c p : Int) (S : zSt) : zZk (ySE (ySI Y f 0) c p) pn (va_up Z 1 S) := by
  obtain ⟨h1, h2, h3, h4⟩ := h
  refine ⟨h1, ?_, fun i hi => ?_, fun k hk hu => ?_⟩
  · rw [va_up_ne _ _ (by omega)]
    exact h2
  · rw [va_up_ne _ _ (by unfold zPi; omega)]
    exact h3 i hi
  · rw [va_up_ne _ _ (by omega)]
    exact h4 k hk hu
theorem yOk.ld {Y : zSys} (h : yOk Y) (f : Nat → Int) (c p : Int) : yOk (ySE (ySI Y f 0) c p) := h
set_option maxHeartbeats 4000000 in
set_option maxRecDepth 100000 in
theorem k_X8_remember_x {l : Launch} {γ : zG} {M : zM} {U : Nat → Nat} {us iF oF : Nat → Int} {iN oN pn cnt ec ep : Int} {Z : Nat → zSt} (hI : zIU U) (hpn : 0 ≤ pn ∧ pn < 8) (hcn : 0 ≤ cnt ∧ cnt ≤ 8) (hF : hFo γ M U pn cnt ec ep) (hX : hFx γ M U us iF iN oF oN Z) (hkn : zNk (Z 0)) :
    zCon l γ yX8_remember cX8_remember 1 none [.ref (U 0)] M 4 82 0 0 (fun v' M' => v' = none ∧ zFr M M' (zFU U) ∧ hFo γ M' U ((pn + 1) % 8) (min (cnt + 1) 8) ec ep ∧ hFx γ M' U us iF iN oF oN (va_up Z (2 + pn.toNat) (Z 0))) (fun _ _ => False) := by
  have hob := id hF
  unfold hFo at hob
  have hps := hX.1
  have hs0 := hX.st0
  have hs1 := hX.2.2.2.2.2.2.2.2.2 (2 + pn.toNat) (by omega)
  have ob1 := hs1.ob
  refine zEnter [some (.ref (U 0))] (by decide +kernel) rfl rfl (Nat.le_of_ble_eq_true rfl) ?_
  intro p e s m args below meth c Q C hin hQ
  refine z_aload_n C dX8_remember_0 rfl ?_
  refine z_get C dX8_remember_1 fl_X8_23 (by first | assumption | ((repeat (first | assumption | exact va_up_self _ _ _ | refine (va_up_ne _ _ (by assumption)).trans ?_)); done) | (simp [va_up, *] <;> rfl)) rfl ?_
  refine z_aload_n C dX8_remember_4 rfl ?_
  refine z_get C dX8_remember_5 fl_X8_27 (by first | assumption | ((repeat (first | assumption | exact va_up_self _ _ _ | refine (va_up_ne _ _ (by assumption)).trans ?_)); done) | (simp [va_up, *] <;> rfl)) rfl ?_
  refine z_aldR C dX8_remember_8 (by first | assumption | ((repeat (first | assumption | exact va_up_self _ _ _ | refine (va_up_ne _ _ (by assumption)).trans ?_)); done) | (simp [va_up, *] <;> rfl)) (by decide) (by omega) (by omega) ?_
  refine z_aload_n C dX8_remember_9 rfl ?_
  refine z_get C dX8_remember_10 fl_X8_13 (by first | assumption | ((repeat (first | assumption | exact va_up_self _ _ _ | refine (va_up_ne _ _ (by assumption)).trans ?_)); done) | (simp [va_up, *] <;> rfl)) rfl ?_
  refine z_callV C dX8_remember_13 lk_X8_139 mw_X7_copyFrom mi_X7_copyFrom ms_X7_copyFrom rfl ob1 (k_X7_copyFrom (hI.b (k := 2 + pn.toNat) (by omega)) hs1 hs0 hkn (fun i j hi hj q => by
  have := hI (16 + 43 * (2 + pn.toNat) + i) (16 + 43 * 0 + j) (by omega) (by omega) q
  omega)) rfl (by first | decide | exact Nat.le_of_ble_eq_true rfl) ⟨by decide, by decide, by decide, by decide⟩ (fun _ _ h => False.elim h) (fun v M' hp => ?_)
  obtain ⟨rfl, f1, hS1⟩ := hp
  have hob1 := f1.at (zUd hI (a := 0) (by omega) (by omega)) hob
  have hX1 := hX.st hI f1 (by omega) hS1
  refine z_aload_n C dX8_remember_16 rfl ?_
  refine z_aload_n C dX8_remember_17 rfl ?_
  refine z_get C dX8_remember_18 fl_X8_27 (by first | assumption | ((repeat (first | assumption | exact va_up_self _ _ _ | refine (va_up_ne _ _ (by assumption)).trans ?_)); done) | (simp [va_up, *] <;> rfl)) rfl ?_
  refine z_iconst C dX8_remember_21 ?_
  refine z_iaddZ C dX8_remember_22 ?_
  refine z_bipush C dX8_remember_23 (by decide) ?_
  refine z_iremZ C dX8_remember_25 (by omega) (by omega) ?_
  refine z_put C dX8_remember_26 fl_X8_27 (by first | assumption | ((repeat (first | assumption | exact va_up_self _ _ _ | refine (va_up_ne _ _ (by assumption)).trans ?_)); done) | (simp [va_up, *] <;> rfl)) rfl rfl (by simp) ?_
  refine z_aload_n C dX8_remember_29 rfl ?_
  refine z_aload_n C dX8_remember_30 rfl ?_
  refine z_get C dX8_remember_31 fl_X8_31 (by first | assumption | ((repeat (first | assumption | exact va_up_self _ _ _ | refine (va_up_ne _ _ (by assumption)).trans ?_)); done) | (simp [va_up, *] <;> rfl)) rfl ?_
  refine z_iconst C dX8_remember_34 ?_
  refine z_iaddZ C dX8_remember_35 ?_
  refine z_bipush C dX8_remember_36 (by decide) ?_
  refine z_min C dX8_remember_38 lk_X8_356 mmin_st ma_in mmin_co (by omega) (by omega) ⟨by decide, (by first | decide | exact Nat.le_of_ble_eq_true rfl), by decide, by decide⟩ ?_
  refine z_put C dX8_remember_41 fl_X8_31 (by first | assumption | ((repeat (first | assumption | exact va_up_self _ _ _ | refine (va_up_ne _ _ (by assumption)).trans ?_)); done) | (simp [va_up, *] <;> rfl)) rfl rfl (by simp) ?_
  refine z_vret C hQ dX8_remember_44 (by decide) (by decide) ?_
  exact ⟨rfl, (f1.ub (by omega)).uu (zFr.u2 zFr.rf (zU_in U (by omega)) (zU_in U (by omega))), va_up_self _ _ _, hX1.obj hI (zFr.u2 zFr.rf (by simp) (by simp))⟩
noncomputable def q_load (Y : zSys) : Int × Int := if (zpA (yIf Y) (yIn Y) 501 zS0 0).1 = 0 then (0, sRn (zpA (yIf Y) (yIn Y) 501 zS0 0).2.2.1) else (1, 0)
noncomputable def y_load (Y : zSys) : zSys := if (zpA (yIf Y) (yIn Y) 501 zS0 0).1 = 0 then ySet (yRem (ySE (ySI Y (yIf Y) 0) (zpA (yIf Y) (yIn Y) 501 zS0 0).1 (if (zpA (yIf Y) (yIn Y) 501 zS0 0).1 = 0 then -1 else (zpA (yIf Y) (yIn Y) 501 zS0 0).2.1))) (zpA (yIf Y) (yIn Y) 501 zS0 0).2.2.1 else (ySE (ySI Y (yIf Y) 0) (zpA (yIf Y) (yIn Y) 501 zS0 0).1 (if (zpA (yIf Y) (yIn Y) 501 zS0 0).1 = 0 then -1 else (zpA (yIf Y) (yIn Y) 501 zS0 0).2.1))
set_option maxHeartbeats 4000000 in
set_option maxRecDepth 100000 in
theorem k_X8_load {l : Launch} {γ : zG} {M : zM} {U : Nat → Nat} {Y : zSys} (hc : hFc γ M U Y) (hk : yOk Y)  :
    zCon l γ yX8_load cX8_load 3 (some .int) [.ref (U 0)] M 8 175 2 13 (fI' γ M U (y_load Y) (q_load Y)) (fX γ M U (y_load Y) (q_load Y) xIAE xIAE) := by
  have hc0 := hc
  obtain ⟨hI, pn, Z, iF, oF, hZ, hF, hX, hi1, ho1⟩ := hc
  have hob := id hF
  unfold hFo at hob
  have hD : hSt γ M (zUb U 0) (yS Y) := hZ.2.1 ▸ hX.st0
  have hst := hD.ob
  have hkn := hk.1.1
  have hkk := hk.1.nk
  have hRQ := hX.2.2.2.2.2.2.1
  have hok := fun M' => @fOk.rk γ M M' U Y pn Z iF oF hI hZ hF hX hi1 ho1
  have hip := hX.2.2.2.1
  have hip1 := hip.1.1
  have hipr := hip.2.1
  have n45 : U 0 ∉ [U 4, U 5] := zUn hI (L := [4, 5]) (by decide) (by decide) (by decide)
  have eAt := hAt_cgf hi1
  have hs1 := hX.2.2.2.2.2.2.2.2.2 1 (by decide)
  refine zEnter [some (.ref (U 0)), none, none] (by decide +kernel) rfl rfl (Nat.le_of_ble_eq_true rfl) ?_
  intro p e s m args below meth c Q C hin hQ
  have rest : ∀ (M1 : zM) (S1 : zSt) (r1 : Int) (x1 : Option Value), (((zpA (yIf Y) (yIn Y) 501 zS0 0).1 = 0 ∧ r1 = 1 ∧ S1 = (zpA (yIf Y) (yIn Y) 501 zS0 0).2.2.1 ∧ zOk (zpA (yIf Y) (yIn Y) 501 zS0 0).2.2.1) ∨ ((zpA (yIf Y) (yIn Y) 501 zS0 0).1 ≠ 0 ∧ r1 = 0)) → zFr M M1 (zFU U) → hFo γ M1 U pn (yPc Y) (zpA (yIf Y) (yIn Y) 501 zS0 0).1 (if (zpA (yIf Y) (yIn Y) 501 zS0 0).1 = 0 then -1 else (zpA (yIf Y) (yIn Y) 501 zS0 0).2.1) → hFx γ M1 U (yUs Y) iF 0 oF (yOn Y) (va_up (va_up Z 1 (sClr (Z 1))) 1 S1) → zAW p l e { frames := 8, cells := 2, slots := 13, locals := 175 } s m args below meth c γ 3 Q M1 1 7 51 [some (.ref (U 0)), x1, some (.int (zi r1))] [] := by
    intro M1 S1 r1 x1 hr hf hF1 hX1
    have hZ1 := hZ.ld (yIf Y) (zpA (yIf Y) (yIn Y) 501 zS0 0).1 (if (zpA (yIf Y) (yIn Y) 501 zS0 0).1 = 0 then -1 else (zpA (yIf Y) (yIn Y) 501 zS0 0).2.1) S1
    have hX1 : hFx γ M1 U (yUs Y) iF 0 oF (yOn Y) (va_up Z 1 S1) := by
      rw [va_up_tw] at hX1
      exact hX1
    have hr1 : r1 = 0 ∨ r1 = 1 := by omega
    have ob1 := id hF1
    unfold hFo at ob1
    have hok1 : fOk γ M M1 U (ySE (ySI Y (yIf Y) 0) (zpA (yIf Y) (yIn Y) 501 zS0 0).1 (if (zpA (yIf Y) (yIn Y) 501 zS0 0).1 = 0 then -1 else (zpA (yIf Y) (yIn Y) 501 zS0 0).2.1)) := ⟨hf, hI, pn, _, iF, oF, hZ1, hF1, hX1, fun j hj => absurd hj (by show ¬ (j : Int) < 0; omega), ho1⟩
    refine z_iload_n C dX8_load_51 rfl ?_
    refine z_if_neZ (tgt := 65) C dX8_load_52 (by decide) (by omega) (fun h52 => ?_) (fun h52 => ?_)
    · refine z_aload_n C dX8_load_65 rfl ?_
      refine z_callV C dX8_load_66 lk_X8_136 mw_X8_remember mi_X8_remember ms_X8_remember rfl (by first | assumption | ((repeat (first | assumption | exact va_up_self _ _ _ | refine (va_up_ne _ _ (by assumption)).trans ?_)); done) | (simp [va_up, *] <;> rfl)) (k_X8_remember_x hI hZ.1 hk.2.1 hF1 hX1 (by rw [hZ1.2.1]; exact hk.1.nk)) rfl (by first | decide | exact Nat.le_of_ble_eq_true rfl) ⟨by decide, by decide, by decide, by decide⟩ (fun _ _ h => False.elim h) (fun v M' hp => ?_)
      obtain ⟨rfl, f66, hF66, hX66⟩ := hp
      have he : (zpA (yIf Y) (yIn Y) 501 zS0 0).1 = 0 := by omega
      obtain ⟨-, -, e1, k1⟩ := hr.resolve_right (fun w => w.1 he)
      have ob66 := id hF66
      unfold hFo at ob66
      have hs0 := hX66.st0
      have hs1 := hX66.2.2.2.2.2.2.2.2.2 1 (by decide)
      rw [va_up_ne _ _ (show 1 ≠ 2 + pn.toNat by omega), va_up_self, e1] at hs1
      have ost := hs0.ob
      refine z_aload_n C dX8_load_69 rfl ?_
      refine z_get C dX8_load_70 fl_X8_13 (by first | assumption | ((repeat (first | assumption | exact va_up_self _ _ _ | refine (va_up_ne _ _ (by assumption)).trans ?_)); done) | (simp [va_up, *] <;> rfl)) rfl ?_
      refine z_aload_n C dX8_load_73 rfl ?_
      refine z_get C dX8_load_74 fl_X8_20 (by first | assumption | ((repeat (first | assumption | exact va_up_self _ _ _ | refine (va_up_ne _ _ (by assumption)).trans ?_)); done) | (simp [va_up, *] <;> rfl)) rfl ?_
      refine z_callV C dX8_load_77 lk_X8_139 mw_X7_copyFrom mi_X7_copyFrom ms_X7_copyFrom rfl ost (k_X7_copyFrom (hI.b (by decide)) hs0 hs1 k1.nk (fun i j hi hj q => by
  have := hI (16 + 43 * 0 + i) (16 + 43 * 1 + j) (by omega) (by omega) q
  omega)) rfl (by first | decide | exact Nat.le_of_ble_eq_true rfl) ⟨by decide, by decide, by decide, by decide⟩ (fun _ _ h => False.elim h) (fun v M' hp => ?_)
      obtain ⟨rfl, f77, hS77⟩ := hp
      have ob77 := hF66.fr f77 (zUd hI (by decide) (by decide))
      unfold hFo at ob77
      have hst77 := hS77.ob
      refine z_aload_n C dX8_load_80 rfl ?_
      refine z_get C dX8_load_81 fl_X8_13 (by first | assumption | ((repeat (first | assumption | exact va_up_self _ _ _ | refine (va_up_ne _ _ (by assumption)).trans ?_)); done) | (simp [va_up, *] <;> rfl)) rfl ?_
      refine z_get C dX8_load_84 fl_X8_143 (by first | assumption | ((repeat (first | assumption | exact va_up_self _ _ _ | refine (va_up_ne _ _ (by assumption)).trans ?_)); done) | (simp [va_up, *] <;> rfl)) rfl ?_
      refine z_iret C hQ dX8_load_87 rfl (by decide) (by decide) ?_
      refine fI'.of ?_ (if_pos he)
      rw [y_load, if_pos he]
      exact ⟨(hf.uu f66).uu (f77.ub (by decide)), hI, _, _, iF, oF, (hZ1.rem hk.2.1).set _, hF66.fr f77 (zUd hI (by decide) (by decide)), hX66.st hI f77 (by decide) hS77, fun j hj => absurd hj (by show ¬ (j : Int) < 0; omega), ho1⟩
    · refine z_throw C hQ xt_IAE (si := 10) rfl dX8_load_55 dX8_load_58 dX8_load_59 dX8_load_61 dX8_load_64 ⟨by decide, by decide, by decide, by decide⟩ (by decide) (by decide) ?_
      have hne : (zpA (yIf Y) (yIn Y) 501 zS0 0).1 ≠ 0 := by omega
      refine fX.o1 (e1 := xIAE) ?_ (if_neg hne)
      rw [y_load, if_neg hne]
      exact hok1
  refine z_aload_n C dX8_load_0 rfl ?_
  refine z_get C dX8_load_1 fl_X8_20 (by first | assumption | ((repeat (first | assumption | exact va_up_self _ _ _ | refine (va_up_ne _ _ (by assumption)).trans ?_)); done) | (simp [va_up, *] <;> rfl)) rfl ?_
  refine z_callV C dX8_load_4 lk_X8_124 mw_X7_clear mi_X7_clear ms_X7_clear rfl hs1.ob (k_X7_clear (hI.b (k := 1) (by decide)) hs1) rfl (by first | decide | exact Nat.le_of_ble_eq_true rfl) ⟨by decide, by decide, by decide, by decide⟩ (fun _ _ h => False.elim h) (fun v M' hp => ?_)
  obtain ⟨rfl, f4, hS4⟩ := hp
  have hF4 := hF.fr f4 (zUd hI (by decide) (by decide))
  have ob4 := id hF4
  unfold hFo at ob4
  have hX4 := hX.st hI f4 (by decide) hS4
  have dm4 := hFx.dom hF4 hX4
  have hS4' := hS4.s0
  refine z_new C dX8_load_7 nw_X8_98 ⟨by decide, by decide⟩ (fun q7 hq7 => ?_)
  have nq : ∀ i, i < 532 → U i ≠ q7 := fun i hi w => by
    obtain ⟨x, hx⟩ := dm4 i hi
    rw [w, hq7] at hx
    cases hx
  have nq0 := nq 0 (by decide)
  have nq0' := nq0.symm
  have nl : ∀ i, i < 532 → U i ∉ [q7] := fun i hi w => nq i hi (List.mem_singleton.mp w)
  refine z_dup C dX8_load_10 rfl ?_
  refine z_aload_n C dX8_load_11 rfl ?_
  refine z_get C dX8_load_12 fl_X8_44 (by first | assumption | ((repeat (first | assumption | exact va_up_self _ _ _ | refine (va_up_ne _ _ (by assumption)).trans ?_)); done) | (simp [va_up, *] <;> rfl)) rfl ?_
  refine z_aload_n C dX8_load_15 rfl ?_
  refine z_get C dX8_load_16 fl_X8_20 (by first | assumption | ((repeat (first | assumption | exact va_up_self _ _ _ | refine (va_up_ne _ _ (by assumption)).trans ?_)); done) | (simp [va_up, *] <;> rfl)) rfl ?_
  refine z_callI C dX8_load_19 lk_X8_100 mw_X4_init rfl mi_X4_init (k_X4_init (va_up_self _ _ _)) rfl (by first | decide | exact Nat.le_of_ble_eq_true rfl) ⟨by decide, by decide, by decide, by decide⟩ (fun _ _ h => False.elim h) (fun v M' hp => ?_)
  obtain ⟨rfl, f19, hP19⟩ := hp
  have f19' := (zFr.up (List.mem_singleton.mpr rfl)).tr f19 (fun _ h => h) (fun _ h => h)
  have hS19 := hS4'.fr f19' (fun j hj => nl _ (by omega))
  have hT19 := hX4.2.2.2.1.1.fr f19' (nl 4 (by decide)) (nl 5 (by decide))
  have oP19 := id hP19
  unfold hPt at oP19
  have hq7d : q7 ∉ zFD (zUb U 1) := zFD_nin fun j hj w => nq _ (by omega) w
  refine z_astore_n C dX8_load_22 (by decide) ?_
  refine z_aload_n C dX8_load_23 rfl ?_
  refine z_callV C dX8_load_24 lk_X8_103 mw_X4_parseAll mi_X4_parseAll ms_X4_parseAll rfl oP19 (k_X4_parseAll (S := zS0) hP19 hT19 hip.2 (hI.b (k := 1) (by decide)) hS19 zS0_ok hq7d ⟨zUd hI (by decide) (by decide), zUd hI (by decide) (by decide)⟩) rfl (by first | decide | exact Nat.le_of_ble_eq_true rfl) ⟨by decide, by decide, by decide, by decide⟩ (fun _ _ h => False.elim h) (fun v M' hp => ?_)
  obtain ⟨r24, rfl, f24, hz24⟩ := hp
  rw [zpA_cg eAt] at hz24
  obtain ⟨Sx, Kx, sx, Ex, hS24, hP24, hr24⟩ := hz24.uni
  have g24 := f19'.tr f24 (fun b hb => by rw [List.mem_singleton.mp hb]; exact List.mem_cons_self) (fun _ h => h)
  have ob24 := g24.at (fun w => (List.mem_cons.mp w).elim nq0 (zUd hI (a := 0) (by decide) (by decide))) ob4
  have hB24 := hX4.2.2.2.1.1.fr g24 (fun w => (List.mem_cons.mp w).elim (nq 4 (by decide)) (zUd hI (a := 4) (by decide) (by decide))) (fun w => (List.mem_cons.mp w).elim (nq 5 (by decide)) (zUd hI (a := 5) (by decide) (by decide)))
  refine z_istore_n C dX8_load_27 (by decide) ?_
  refine z_aload_n C dX8_load_28 rfl ?_
  refine z_get C dX8_load_29 fl_X8_44 (by first | assumption | ((repeat (first | assumption | exact va_up_self _ _ _ | refine (va_up_ne _ _ (by assumption)).trans ?_)); done) | (simp [va_up, *] <;> rfl)) rfl ?_
  refine z_callV C dX8_load_32 lk_X8_127 mw_X0_clear mi_X0_clear ms_X0_clear rfl hB24.1 (k_X0_clear hB24) rfl (by first | decide | exact Nat.le_of_ble_eq_true rfl) ⟨by decide, by decide, by decide, by decide⟩ (fun _ _ h => False.elim h) (fun v M' hp => ?_)
  obtain ⟨rfl, hB32, f32⟩ := hp
  have nq4 : q7 ∉ [U 4] := fun w => nq 4 (by decide) (List.mem_singleton.mp w).symm
  have oP32 := f32.at nq4 (hP24 : _ = _)
  have ob32 := f32.at (zUn hI (a := 0) (L := [4]) (by decide) (by decide) (by decide)) ob24
  refine z_aload_n C dX8_load_35 rfl ?_
  refine z_aload_n C dX8_load_36 rfl ?_
  refine z_get C dX8_load_37 fl_X8_128 (by first | assumption | ((repeat (first | assumption | exact va_up_self _ _ _ | refine (va_up_ne _ _ (by assumption)).trans ?_)); done) | (simp [va_up, *] <;> rfl)) rfl ?_
  refine z_put C dX8_load_40 fl_X8_51 (by first | assumption | ((repeat (first | assumption | exact va_up_self _ _ _ | refine (va_up_ne _ _ (by assumption)).trans ?_)); done) | (simp [va_up, *] <;> rfl)) rfl rfl (by simp) ?_
  refine z_aload_n C dX8_load_43 rfl ?_
  refine z_aload_n C dX8_load_44 rfl ?_
  refine z_get C dX8_load_45 fl_X8_131 (by first | assumption | ((repeat (first | assumption | exact va_up_self _ _ _ | refine (va_up_ne _ _ (by assumption)).trans ?_)); done) | (simp [va_up, *] <;> rfl)) rfl ?_
  refine z_put C dX8_load_48 fl_X8_54 (by first | assumption | ((repeat (first | assumption | exact va_up_self _ _ _ | refine (va_up_ne _ _ (by assumption)).trans ?_)); done) | (simp [va_up, *] <;> rfl)) rfl rfl (by simp) ?_
  have k24 := g24.fgt hq7
  have hS24' := hS24.fr (zFr.up (e := none) (List.mem_singleton.mpr rfl)) (fun j hj => nl _ (by omega))
  have hX24 := hX4.st hI k24 (by decide) hS24'
  have k32 := f32.fg2 (q := q7)
  have hB32' := hB32.fr (zFr.up (e := none) (List.mem_singleton.mpr rfl)) (nl 4 (by decide)) (nl 5 (by decide))
  have hX32 := hX24.inp hI (k32.tr zFr.rf (fun b hb => by rw [List.mem_singleton.mp hb]; simp) (fun _ h => h)) hB32' ⟨by omega, hip.2.2.1, fun j hj => by omega⟩
  have k51 : ∀ e e', zFr (va_up M' q7 none) (va_up (va_up (va_up M' (U 0) e) (U 0) e') q7 none) [U 0] := fun e e' => zFr.fg2 (zFr.u2 zFr.rf (by simp) (by simp))
  have kF : ∀ e e', zFr M (va_up (va_up (va_up M' (U 0) e) (U 0) e') q7 none) (zFU U) := fun e e' => ((f4.ub (by decide)).uu ((k24.ub (by decide)).uu ((zFr.us (L := [4]) k32 (by decide)).uu (zFr.us (L := [0]) (k51 e e') (by decide)))))
  refine z_fgt (q := q7) ?_
  exact rest _ Sx r24 _ hr24 (kF _ _) ((va_up_ne _ _ nq0).trans (va_up_self _ _ _)) (hX32.obj hI (k51 _ _))

