/-! the model's input, what it remembers -/
theorem z_sr (x : Int32) {k : Nat} (hk : k ≤ 24) : (x.toBitVec.sshiftRight k) &&& 255#32 = (x.toBitVec >>> k) &&& 255#32 := by
  apply BitVec.eq_of_getLsbD_eq
  intro i hi
  rw [BitVec.getLsbD_and, BitVec.getLsbD_and]
  by_cases h : i < 8
  · rw [BitVec.getLsbD_sshiftRight, BitVec.getLsbD_ushiftRight]
    have : k + i < 32 := by omega
    have h32 : ¬ 32 ≤ i := by omega
    simp [this, h32]
  · have : (255#32).getLsbD i = false := by
      have e : 255#32 = BitVec.ofNat 32 (2 ^ 8 - 1) := rfl
      rw [e, BitVec.getLsbD_ofNat, Nat.testBit_two_pow_sub_one]
      simp [h]
    rw [this, Bool.and_false, Bool.and_false]
theorem z_r24 (x : Int) : (zi x >>> (zi 24 &&& 31)) &&& zi 255 = zi (zby x 16777216) := by
  have h1 : (zi x >>> (zi 24 &&& 31)) &&& zi 255 = ((zi x).toUInt32 >>> ((zi 24).toUInt32 &&& Int32.toUInt32 31)).toInt32 &&& zi 255 := by
    apply Int32.toBitVec_inj.mp
    exact z_sr (zi x) (k := 24) (by decide)
  rw [h1]
  refine z_m255 _ ?_ (zby_rng _ _)
  rw [show (zi 24).toUInt32 &&& Int32.toUInt32 31 = 24 by decide, UInt32.toNat_shiftRight, zub]
  show (x % 4294967296).toNat >>> 24 % 256 = _
  rw [Nat.shiftRight_eq_div_pow]
  unfold zby
  omega
theorem z_r16 (x : Int) : (zi x >>> (zi 16 &&& 31)) &&& zi 255 = zi (zby x 65536) := by
  rw [← z_sh16]
  apply Int32.toBitVec_inj.mp
  exact z_sr (zi x) (k := 16) (by decide)
theorem z_r8 (x : Int) : (zi x >>> (zi 8 &&& 31)) &&& zi 255 = zi (zby x 256) := by
  rw [← z_sh8]
  apply Int32.toBitVec_inj.mp
  exact z_sr (zi x) (k := 8) (by decide)
theorem z_r0 (x : Int) : (zi x >>> (zi 0 &&& 31)) &&& zi 255 = zi (zby x 1) := by
  rw [← z_sh0]
  apply Int32.toBitVec_inj.mp
  exact z_sr (zi x) (k := 0) (by decide)
set_option maxHeartbeats 4000000 in
set_option maxRecDepth 100000 in
theorem k_X9_appendWord {l : Launch} {γ : zG} {M : zM} {A : Nat → Nat} {F f : Nat → Int} {n x : Int} (hA : mIA A) (hO : M (A 0) = some (mOb A F)) (hI : M (A 11) = some (zar γ 500 f)) (hn : F 19 = n) (hB : hBo f n) (hn4 : n + 4 ≤ 500) :
    zCon l γ yX9_appendWord cX9_appendWord 3 none [.ref (A 0), .int (zi x)] M 0 0 0 0 (fun v' M' => v' = none ∧ mF A M M' [0, 11] ∧ ∃ F', M' (A 0) = some (mOb A F') ∧ mKp [19] F F' ∧ F' 19 = n + 4 ∧ M' (A 11) = some (zar γ 500 (za4 f n x)) ∧ hBo (za4 f n x) (n + 4)) (fun _ _ => False) := by
  have hb := hB.1
  refine zEnter [some (.ref (A 0)), some (.int (zi x)), none] (by decide +kernel) rfl rfl (Nat.le_of_ble_eq_true rfl) ?_
  intro p e s m args below meth c Q C hin hQ
  have step : ∀ (M1 : zM) (F1 f1 : Nat → Int) (n1 sh b : Int), (zi x >>> (zi sh &&& 31)) &&& zi 255 = zi b → (0 ≤ b ∧ b ≤ 255) → (0 ≤ sh ∧ sh ≤ 24) → M1 (A 0) = some (mOb A F1) → M1 (A 11) = some (zar γ 500 f1) → F1 19 = n1 → hBo f1 n1 → n1 < 500 → (∀ (M2 : zM) (F2 : Nat → Int), mF A M1 M2 [0, 11] → mKp [19] F1 F2 → M2 (A 0) = some (mOb A F2) → M2 (A 11) = some (zar γ 500 (va_up f1 n1.toNat b)) → F2 19 = n1 + 1 → hBo (va_up f1 n1.toNat b) (n1 + 1) → zAW p l e { frames := 0, cells := 0, slots := 0, locals := 0 } s m args below meth c γ 3 Q M2 0 0 3 [some (.ref (A 0)), some (.int (zi x)), some (.int (zi (sh - 8)))] []) → zAW p l e { frames := 0, cells := 0, slots := 0, locals := 0 } s m args below meth c γ 3 Q M1 0 0 3 [some (.ref (A 0)), some (.int (zi x)), some (.int (zi sh))] [] := by
    intro M1 F1 f1 n1 sh b hsh rb rsh hO1 hI1 h19 hB1 hlt kk
    have hb1 := hB1.1
    refine z_iload_n C dX9_appendWord_3 rfl ?_
    refine z_if_ltZ (tgt := 39) C dX9_appendWord_4 (by decide) (by omega) (fun h4 => ?_) (fun h4 => ?_)
    · exact absurd h4 (by omega)
    · refine z_aload_n C dX9_appendWord_7 rfl ?_
      refine z_get C dX9_appendWord_8 fl_X9_42 (by first | assumption | ((repeat (first | assumption | exact va_up_self _ _ _ | refine (va_up_ne _ _ (by first | assumption | exact hA.ne (by decide) | exact hA.ne (by omega))).trans ?_)); done)) rfl ?_
      refine z_aload_n C dX9_appendWord_11 rfl ?_
      refine z_getM C dX9_appendWord_12 fl_X9_68 (by first | assumption | ((repeat (first | assumption | exact va_up_self _ _ _ | refine (va_up_ne _ _ (by first | assumption | exact hA.ne (by decide) | exact hA.ne (by omega))).trans ?_)); done)) rfl (by first | assumption | ((repeat (first | assumption | exact va_up_self _ _ _ | rewrite [va_up_ne _ _ (by decide)])); (first | done | exact rfl))) ?_
      refine z_iload_n C dX9_appendWord_15 rfl ?_
      refine z_iload_n C dX9_appendWord_16 rfl ?_
      refine z_ishr C dX9_appendWord_17 ?_
      refine z_sipush C dX9_appendWord_18 (by decide) ?_
      refine z_iand C dX9_appendWord_21 ?_
      rw [show zi 255 = zi 255 from rfl, hsh]
      refine z_astN C dX9_appendWord_22 (by first | assumption | ((repeat (first | assumption | exact va_up_self _ _ _ | refine (va_up_ne _ _ (by first | assumption | exact hA.ne (by decide) | exact hA.ne (by omega))).trans ?_)); done)) (by omega) (by omega) hB1.2.1 (by omega) (fun hr22 => ?_)
      refine z_aload_n C dX9_appendWord_23 rfl ?_
      refine z_dup C dX9_appendWord_24 rfl ?_
      refine z_getM C dX9_appendWord_25 fl_X9_68 (by first | assumption | ((repeat (first | assumption | exact va_up_self _ _ _ | refine (va_up_ne _ _ (by first | assumption | exact hA.ne (by decide) | exact hA.ne (by omega))).trans ?_)); done)) rfl (by first | assumption | ((repeat (first | assumption | exact va_up_self _ _ _ | rewrite [va_up_ne _ _ (by decide)])); (first | done | exact rfl))) ?_
      refine z_iconst C dX9_appendWord_28 ?_
      refine z_iaddZ C dX9_appendWord_29 ?_
      refine z_putM C dX9_appendWord_30 fl_X9_68 (by first | assumption | ((repeat (first | assumption | exact va_up_self _ _ _ | refine (va_up_ne _ _ (by first | assumption | exact hA.ne (by decide) | exact hA.ne (by omega))).trans ?_)); done)) rfl ?_
      refine z_iincZ C dX9_appendWord_33 rfl (by decide) ?_
      rw [show sh + -8 = sh - 8 by omega]
      refine z_goto (tgt := 3) C dX9_appendWord_36 (by decide) ?_
      exact kk _ _ ((mF.rf.up rfl).up rfl) (mKp.rf.up rfl) (va_up_self _ _ _) (by rw [va_up_ne _ _ (hA.ne (by decide))]; exact va_up_self _ _ _) (va_up_self _ _ _) (hB1.up hlt rb)
  refine z_bipush C dX9_appendWord_0 (by decide) ?_
  refine z_istore_n C dX9_appendWord_2 (by decide) ?_
  refine step M F f n 24 _ (z_r24 x) (zby_rng _ _) (by omega) hO hI hn hB (by omega) (fun M1 F1 f1 p1 a1 b1 c1 d1 => ?_)
  refine step M1 F1 _ _ 16 _ (z_r16 x) (zby_rng _ _) (by omega) a1 b1 c1 d1 (by omega) (fun M2 F2 f2 p2 a2 b2 c2 d2 => ?_)
  refine step M2 F2 _ _ 8 _ (z_r8 x) (zby_rng _ _) (by omega) a2 b2 c2 d2 (by omega) (fun M3 F3 f3 p3 a3 b3 c3 d3 => ?_)
  refine step M3 F3 _ _ 0 _ (z_r0 x) (zby_rng _ _) (by omega) a3 b3 c3 d3 (by omega) (fun M4 F4 f4 p4 a4 b4 c4 d4 => ?_)
  rw [show n + 1 + 1 = n + 2 by omega, show n + 2 + 1 = n + 3 by omega] at b4 d4 c4
  refine z_iload_n C dX9_appendWord_3 rfl ?_
  refine z_if_ltZ (tgt := 39) C dX9_appendWord_4 (by decide) (by omega) (fun h4 => ?_) (fun h4 => ?_)
  · refine z_vret C hQ dX9_appendWord_39 (by decide) (by decide) ?_
    refine ⟨rfl, ((f1.tr (K := [0, 11]) f2 ⟨rfl, rfl⟩).tr (K := [0, 11]) f3 ⟨rfl, rfl⟩).tr f4 ⟨rfl, rfl⟩, F4, a4, ((p1.tr (K := [19]) p2 ⟨rfl, rfl⟩).tr (K := [19]) p3 ⟨rfl, rfl⟩).tr p4 ⟨rfl, rfl⟩, by omega, b4, za4_ok hB hn4⟩
  · exact absurd h4 (by omega)
/-- the input replaced -/
theorem hMf.inp {γ : zG} {M M' : zM} {A : Nat → Nat} {F F' f' k : Nat → Int} {n' : Int} {Y : zSys} (hA : mIA A) (h : hMf γ M A F Y) (f : mF A M M' [0, 11]) (o : M' (A 0) = some (mOb A F')) (kp : mKp [8, 19] F F') (e19 : F' 19 = n') (h11 : M' (A 11) = some (zar γ 500 f')) (hb : hBo f' n') (ha : ∀ j : Nat, j < n' → f' j = k j) : hMf γ M' A F' (ySI Y k n') := by
  obtain ⟨⟨a, ⟨s7, b1, b2⟩, ⟨s8, c1, c2⟩, s9, d1, d2⟩, ⟨e1, e2⟩, u, w, -, q, r, t⟩ := h
  exact ⟨⟨o, ⟨s7, f.at hA (.of rfl) b1, b2⟩, ⟨s8, f.at hA (.of rfl) c1, c2⟩, s9, f.at hA (.of rfl) d1, d2⟩, ⟨(kp 25 (by decide)).trans e1, (kp 26 (by decide)).trans e2⟩, u.fr hA f (.of rfl) (kp 6 (by decide)) (kp 7 (by decide)), w.fr hA f (.of rfl) (.of rfl), ⟨e19, f', h11, hb, ha⟩, q.fr hA f (.of rfl) (kp 29 (by decide)), r.fr hA f (.of rfl), t.fr hA f (.of rfl) (.of rfl) (.of rfl) (.of rfl) (.of rfl)⟩
/-- a changing call answered: Y' if it went well -/
def mAnsY (γ : zG) (A : Nat → Nat) (M : zM) (Y Y' : zSys) (q : Int × Int) : Option Value → zM → Prop := fun v' M' => ∃ b : Int, v' = some (.int (zi b)) ∧ mAll A M M' ∧ (q.1 = 0 → hMo γ M' A Y' q.1 ∧ zi b = zi q.2) ∧ (q.1 ≠ 0 → hMo γ M' A Y q.1)
theorem mAnsY.no {γ : zG} {A : Nat → Nat} {M M' : zM} {F F' : Nat → Int} {Y Y' : zSys} {q : Int × Int} {th b : Int} (hA : mIA A) (hF : hMf γ M A F Y) (f : mF A M M' [0]) (o : M' (A 0) = some (mOb A F')) (p : mKp [8] F F') (e : F' 8 = th) (hn : th ≠ 0) (hq : q.1 = th) : mAnsY γ A M Y Y' q (some (.int (zi b))) M' := ⟨b, rfl, f.mo rfl, fun w => absurd (hq.symm.trans w) hn, fun _ => ⟨hA, F', e.trans hq.symm, hF.q0 hA f o p rfl⟩⟩
theorem mAnsY.ok {γ : zG} {A : Nat → Nat} {M M' : zM} {F' : Nat → Int} {Y Y' : zSys} {q : Int × Int} {b v : Int} (hA : mIA A) (hF : hMf γ M' A F' Y') (f : mAll A M M') (e : F' 8 = 0) (hq : q = (0, v)) (hb : zi b = zi v) : mAnsY γ A M Y Y' q (some (.int (zi b))) M' := ⟨b, rfl, f, fun _ => ⟨⟨hA, F', by rw [e, hq], hF⟩, by rw [hb, hq]⟩, fun w => absurd (by rw [hq]) w⟩

