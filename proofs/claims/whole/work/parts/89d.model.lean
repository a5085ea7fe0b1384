/-! the model's questions: contexts, rankings, fractions -/
section ZM4
variable {p : Program} {l : Launch} {e : Env} {R : Room} {s : State} {m : MethodId} {args : Array Value} {below : List Frame} {meth : Method} {c : Code} {γ : zG} {cc : ByteArray} {nL : Nat} {ret : Option FieldType} {own : String} {xt : List ExceptionTableEntry} {Q : State → Prop} {M : zM} {k n pc : Nat} {L : zL} {st : List Value}
theorem z_dconst (C : zC p l s m args meth c γ cc nL ret own xt) (hd : decode cc pc = .ok (.dconst 0, 1)) (kk : zAW p l e R s m args below meth c γ nL Q M k n (pc + 1) L (.double FP.dconst0 :: st)) : zAW p l e R s m args below meth c γ nL Q M k n pc L st := by
  intro H locs ls hH hl hL hz
  exact lv_dconst0 C.ex C.by hd (kk H locs ls hH hl hL hz)
theorem z_fconst (C : zC p l s m args meth c γ cc nL ret own xt) (hd : decode cc pc = .ok (.fconst 0, 1)) (kk : zAW p l e R s m args below meth c γ nL Q M k n (pc + 1) L (.float FP.fconst0 :: st)) : zAW p l e R s m args below meth c γ nL Q M k n pc L st := by
  intro H locs ls hH hl hL hz
  exact lv_fconst0 C.ex C.by hd (kk H locs ls hH hl hL hz)
end ZM4
theorem mC_2 {S : zSt} {r v : Int} {P P' : Prop} (z : (zqR S r (zq2 P (0, 0))).1 ≠ 0) (h : P' → P) : (zqR S r (zq2 P' (0, v))).1 = (zqR S r (zq2 P (0, 0))).1 := by
  by_cases w : 0 ≤ r ∧ r < sRn S
  · rw [mqR_t w] at z
    rw [mqR_t w, mqR_t w]
    by_cases w2 : P
    · exact absurd (by rw [mq2_t w2]) z
    · rw [mq2_f w2, mq2_f (fun q => w2 (h q))]
  · rw [mqR_f w, mqR_f w]
theorem mAns.q {γ : zG} {A : Nat → Nat} {M M1 M' : zM} {F1 F' : Nat → Int} {Y : zSys} {q : Int × Int} {b v : Int} {K : List Nat} (hA : mIA A) (hF : hMf γ M1 A F1 Y) (c : mF A M M1 [0]) (e : F1 8 = 0) (f : mF A M1 M' K) (hK : K.all (fun j => [0, 7, 8, 9].contains j) = true) (kp : mKp [10, 13] F1 F') (sc : mSc γ M' A F') (hq : q = (0, v)) (hb : zi b = zi v) : mAns γ A M Y q (some (.int (zi b))) M' := mAns.ok hA (hF.q1 hA f hK kp rfl sc) ((c.tr (K := [0, 7, 8, 9]) (f.mo (K := [0, 7, 8, 9]) hK) ⟨rfl, rfl⟩).mo rfl) ((kp 8 (by decide)).trans e) hq hb
theorem hMf.k {γ : zG} {A : Nat → Nat} {M M' : zM} {F F' : Nat → Int} {Y : zSys} (hA : mIA A) (h : hMf γ M A F Y) (f : mF A M M' [0, 7, 10]) (kp : mKp [10, 15, 16, 17] F F') (sc : mSc γ M' A F') (h10 : ∃ e, M' (A 10) = some (zaz γ 27 e)) : hMf γ M' A F' Y := by
  obtain ⟨⟨a, a1, a2⟩, ⟨b, b1, b2⟩, -, ⟨d, d1⟩, x, x1, x2⟩ := h.2.2.2.2.2.2.2
  exact h.q hA f rfl kp rfl sc ⟨⟨a, f.at hA (.of rfl) a1, a2⟩, ⟨b, f.at hA (.of rfl) b1, b2⟩, h10, ⟨d, f.at hA (.of rfl) d1⟩, x, f.at hA (.of rfl) x1, x2⟩
theorem mAns.k {γ : zG} {A : Nat → Nat} {M M1 M' : zM} {F1 F' : Nat → Int} {Y : zSys} {q : Int × Int} {b v : Int} (hA : mIA A) (hF : hMf γ M1 A F1 Y) (c : mF A M M1 [0]) (e : F1 8 = 0) (f : mF A M1 M' [0, 7, 10]) (kp : mKp [10, 15, 16, 17] F1 F') (sc : mSc γ M' A F') (h10 : ∃ e, M' (A 10) = some (zaz γ 27 e)) (hq : q = (0, v)) (hb : zi b = zi v) : mAns γ A M Y q (some (.int (zi b))) M' := mAns.ok hA (hF.k hA f kp sc h10) ((c.tr (K := [0, 7, 10]) f ⟨rfl, rfl⟩).mo rfl) ((kp 8 (by decide)).trans e) hq hb
/-- a long answer -/
def mAnsJ (γ : zG) (A : Nat → Nat) (M : zM) (Y : zSys) (q : Int × Int) : Option Value → zM → Prop := fun v' M' => ∃ b : Int, v' = some (.long (zl b)) ∧ mAll A M M' ∧ hMo γ M' A Y q.1 ∧ (q.1 = 0 → b = q.2)
/-- a double answer, a float answer -/
def mAnsD (γ : zG) (A : Nat → Nat) (M : zM) (Y : zSys) (q : Int × Int) (x : UInt64) : Option Value → zM → Prop := fun v' M' => ∃ b : UInt64, v' = some (.double b) ∧ mAll A M M' ∧ hMo γ M' A Y q.1 ∧ (q.1 = 0 → b = x)
def mAnsF (γ : zG) (A : Nat → Nat) (M : zM) (Y : zSys) (q : Int × Int) (x : UInt32) : Option Value → zM → Prop := fun v' M' => ∃ b : UInt32, v' = some (.float b) ∧ mAll A M M' ∧ hMo γ M' A Y q.1 ∧ (q.1 = 0 → b = x)
theorem mNo0 {γ : zG} {A : Nat → Nat} {M M' : zM} {F F' : Nat → Int} {Y : zSys} {q : Int × Int} {th : Int} (hA : mIA A) (hF : hMf γ M A F Y) (f : mF A M M' [0]) (o : M' (A 0) = some (mOb A F')) (p : mKp [8] F F') (e : F' 8 = th) (hn : th ≠ 0) (hq : q.1 = th) : mAll A M M' ∧ hMo γ M' A Y q.1 ∧ q.1 ≠ 0 := ⟨f.mo rfl, ⟨hA, F', e.trans hq.symm, hF.q0 hA f o p rfl⟩, by rw [hq]; exact hn⟩
theorem mOk0 {γ : zG} {A : Nat → Nat} {M M1 M' : zM} {F1 F' : Nat → Int} {Y : zSys} {q : Int × Int} {v : Int} (hA : mIA A) (hF : hMf γ M1 A F1 Y) (c : mF A M M1 [0]) (e : F1 8 = 0) (f : mF A M1 M' [0, 7, 10]) (kp : mKp [10, 15, 16, 17] F1 F') (sc : mSc γ M' A F') (h10 : ∃ e, M' (A 10) = some (zaz γ 27 e)) (hq : q = (0, v)) : mAll A M M' ∧ hMo γ M' A Y q.1 := ⟨(c.tr (K := [0, 7, 10]) f ⟨rfl, rfl⟩).mo rfl, hA, F', by rw [hq]; exact (kp 8 (by decide)).trans e, hF.k hA f kp sc h10⟩
theorem zsum_nl {f : Int → Int} {lo i : Int} (hi : 0 ≤ i) : zsum f lo (i + 1).toNat = zsum f lo i.toNat + f (lo + i) := by
  rw [show (i + 1).toNat = i.toNat + 1 by omega]
  show zsum f lo i.toNat + f (lo + (i.toNat : Int)) = _
  rw [show (i.toNat : Int) = i by omega]
theorem zCv_x {b p : Int} (h : zCv b p) : (-1 ≤ b ∧ b < 27) ∧ (-1 ≤ p ∧ p < 27) ∧ (b ≠ -1 → p ≠ -1) := by
  unfold zCv zSy at h
  omega
theorem mLk.top {c : Int → Int} {b p : Int} {h : Nat → Int} (q : mLk c b p h) (s : Int) (hs : 0 ≤ s ∧ s < 27) : h s.toNat = c (zCs (zFo b p) b p + s) := by
  have := zFo_rng b p
  have e := q (zFo b p) s this.1 (Int.le_refl _) hs.1 hs.2
  rw [show 27 * (zFo b p - zFo b p) + s = s by omega] at e
  exact e
set_option maxHeartbeats 4000000 in
set_option maxRecDepth 100000 in
theorem m_contextTotal {l : Launch} {γ : zG} {M : zM} {A : Nat → Nat} {Y : zSys} {t0 : Int} {rr bb pp : Int} (hMo0 : hMo γ M A Y t0) (hY : zOk (yS Y)) (r_rr : zR rr) (r_bb : zR bb) (r_pp : zR pp) :
    zCon l γ yX9_contextTotal cX9_contextTotal 6 (some .int) [.ref (A 0), .int (zi rr), .int (zi bb), .int (zi pp)] M 10 330 0 0 (mAns γ A M Y (q_contextTotal (yS Y) rr bb pp)) (fun _ _ => False) := by
  obtain ⟨hA, F, h8, hF⟩ := hMo0
  obtain ⟨hsc, hec, hun, hsl, hinp, hou, ⟨g, hM, hS⟩, hrs⟩ := id hF
  have hO := hsc.1
  have hg := hS.1
  have o1 := hY.1
  have z_rr := r_rr
  unfold zR at z_rr
  have z_bb := r_bb
  unfold zR at z_bb
  have z_pp := r_pp
  unfold zR at z_pp
  refine zEnter [some (.ref (A 0)), some (.int (zi rr)), some (.int (zi bb)), some (.int (zi pp)), none, none] (by decide +kernel) rfl rfl (Nat.le_of_ble_eq_true rfl) ?_
  intro p e s m args below meth c Q C hin hQ
  have loop : ∀ (t : Nat) (M1 : zM) (F1 c7 : Nat → Int) (i : Int), 27 - i = t → 0 ≤ i ∧ i ≤ 27 → M1 (A 0) = some (mOb A F1) → M1 (A 7) = some (zar γ 81 c7) → (∀ j, zR (c7 j)) → mLk (rC (sRd (yS Y) rr.toNat)) bb pp c7 → zcR (rC (sRd (yS Y) rr.toNat)) → mAns γ A M Y (q_contextTotal (yS Y) rr bb pp) (some (.int (zi (zsum (rC (sRd (yS Y) rr.toNat)) (zCs (zFo bb pp) bb pp) 27)))) M1 → zAW p l e { frames := 10, cells := 0, slots := 0, locals := 330 } s m args below meth c γ 6 Q M1 0 0 29 [some (.ref (A 0)), some (.int (zi rr)), some (.int (zi bb)), some (.int (zi pp)), some (.int (zi (zsum (rC (sRd (yS Y) rr.toNat)) (zCs (zFo bb pp) bb pp) i.toNat))), some (.int (zi i))] [] := by
    intro t
    induction t with
    | zero =>
      intro M1 F1 c7 i ht hi hO1 hH7 hh7 hK hc hfin
      obtain rfl : i = 27 := by omega
      refine z_iload C dX9_contextTotal_29 rfl ?_
      refine z_bipush C dX9_contextTotal_31 (by decide) ?_
      refine z_icmp_geZ (tgt := 54) C dX9_contextTotal_33 (by decide) (by omega) (by omega) (fun h33 => ?_) (fun h33 => ?_)
      · refine z_iload C dX9_contextTotal_54 rfl ?_
        refine z_iret C hQ dX9_contextTotal_56 rfl (by decide) (by decide) ?_
        exact hfin
      · exact absurd h33 (by omega)
    | succ t ih =>
      intro M1 F1 c7 i ht hi hO1 hH7 hh7 hK hc hfin
      have kx := hK.top i (by omega)
      have rc := hc (zCs (zFo bb pp) bb pp + i)
      have qq := ih M1 F1 c7 (i + 1) (by omega) (by omega) hO1 hH7 hh7 hK hc hfin
      rw [zsum_nl hi.1] at qq
      refine z_iload C dX9_contextTotal_29 rfl ?_
      refine z_bipush C dX9_contextTotal_31 (by decide) ?_
      refine z_icmp_geZ (tgt := 54) C dX9_contextTotal_33 (by decide) (by omega) (by omega) (fun h33 => ?_) (fun h33 => ?_)
      · exact absurd h33 (by omega)
      · refine z_iload C dX9_contextTotal_36 rfl ?_
        refine z_aload_n C dX9_contextTotal_38 rfl ?_
        refine z_get C dX9_contextTotal_39 fl_X9_30 (by first | assumption | ((repeat (first | assumption | exact va_up_self _ _ _ | refine (va_up_ne _ _ (by first | assumption | exact hA.ne (by decide) | exact hA.ne (by omega))).trans ?_)); done)) rfl ?_
        refine z_iload C dX9_contextTotal_42 rfl ?_
        refine z_aldN C dX9_contextTotal_44 (by first | assumption | ((repeat (first | assumption | exact va_up_self _ _ _ | refine (va_up_ne _ _ (by first | assumption | exact hA.ne (by decide) | exact hA.ne (by omega))).trans ?_)); done)) (by omega) (by omega) (by assumption) (fun hr44 => ?_)
        rw [kx]
        refine z_iaddZ C dX9_contextTotal_45 ?_
        refine z_istore C dX9_contextTotal_46 (by decide) ?_
        refine z_iincZ C dX9_contextTotal_48 rfl (by decide) ?_
        refine z_goto (tgt := 29) C dX9_contextTotal_51 (by decide) ?_
        exact qq
  refine z_aload_n C dX9_contextTotal_0 rfl ?_
  refine z_iload_n C dX9_contextTotal_1 rfl ?_
  refine z_iload_n C dX9_contextTotal_2 rfl ?_
  refine z_iload_n C dX9_contextTotal_3 rfl ?_
  refine z_callV C dX9_contextTotal_4 lk_X9_304 mw_X9_noContext mi_X9_noContext ms_X9_noContext rfl (by first | assumption | ((repeat (first | assumption | exact va_up_self _ _ _ | refine (va_up_ne _ _ (by first | assumption | exact hA.ne (by decide) | exact hA.ne (by omega))).trans ?_)); done)) (k_X9_noContext hA hO hM hS hY r_rr r_bb r_pp) rfl (by first | decide | exact Nat.le_of_ble_eq_true rfl) ⟨by decide, by decide, by decide, by decide⟩ (fun _ _ h => False.elim h) (fun v M' hp => ?_)
  obtain ⟨r1, F1, rfl, f1, ob1, p1, e1, z1⟩ := hp
  have s1 := z1.rng
  have cf1 := f1
  have cp1 := p1
  have hM1 := cf1.at hA (.of rfl) hM
  refine z_if_eqZ (tgt := 12) C dX9_contextTotal_7 (by decide) (by omega) (fun h7 => ?_) (fun h7 => ?_)
  · have t1 := Decidable.not_not.mp (z1.f h7)
    rw [t1] at e1
    obtain ⟨c1, c0⟩ := mqR_0 t1
    obtain ⟨c2, -⟩ := mq2_0 c0
    obtain ⟨x1, x2, x3⟩ := zCv_x c2
    have hSr := hS.r c1
    have hF1 := hF.q0 hA cf1 ob1 cp1 rfl
    have hs1 := hF1.1
    have hc := (hY.2.2 rr.toNat (by omega)).1.2.2.1
    refine z_aload_n C dX9_contextTotal_12 rfl ?_
    refine z_aload_n C dX9_contextTotal_13 rfl ?_
    refine z_get C dX9_contextTotal_14 fl_X9_7 (by first | assumption | ((repeat (first | assumption | exact va_up_self _ _ _ | refine (va_up_ne _ _ (by first | assumption | exact hA.ne (by decide) | exact hA.ne (by omega))).trans ?_)); done)) rfl ?_
    refine z_iload_n C dX9_contextTotal_17 rfl ?_
    refine z_iload_n C dX9_contextTotal_18 rfl ?_
    refine z_iload_n C dX9_contextTotal_19 rfl ?_
    refine z_callV C dX9_contextTotal_20 lk_X9_135 mw_X9_look mi_X9_look ms_X9_look rfl hs1.1 (k_X9_look hA hs1.1 (kq := 1) (.inl rfl) hM1 hg hs1.2.1.choose_spec.1 hs1.2.1.choose_spec.2 (r := rr) (by omega) x1 x2 x3 hSr.2.2.2.2 (fun x hx => sG_rng hx)) rfl (by first | decide | exact Nat.le_of_ble_eq_true rfl) ⟨by decide, by decide, by decide, by decide⟩ (fun _ _ h => False.elim h) (fun v M' hp => ?_)
    obtain ⟨rfl, a1, a2, c7, a3, a4, a5⟩ := hp
    obtain ⟨-, -, ⟨f8, s8, s8b⟩, f9, s9, s9b⟩ := hs1
    refine z_iconst C dX9_contextTotal_23 ?_
    refine z_istore C dX9_contextTotal_24 (by decide) ?_
    refine z_iconst C dX9_contextTotal_26 ?_
    refine z_istore C dX9_contextTotal_27 (by decide) ?_
    exact loop 27 _ _ c7 0 (by omega) (by omega) a2 a3 a4 a5 hc (mAns.q hA hF1 cf1 e1 a1 rfl (mKp.rf.up rfl) ⟨a2, ⟨_, a3, a4⟩, ⟨_, a1.at hA (.of rfl) s8, s8b⟩, ⟨_, a1.at hA (.of rfl) s9, s9b⟩⟩ (by rw [q_contextTotal, mqR_t c1, mq2_t c2]) rfl)
  · refine z_iconst C dX9_contextTotal_10 ?_
    refine z_iret C hQ dX9_contextTotal_11 rfl (by decide) (by decide) ?_
    exact mAns.no hA hF cf1 ob1 cp1 e1 (z1.t h7) (mqR_1 (mq2_1 rfl))
set_option maxHeartbeats 4000000 in
set_option maxRecDepth 100000 in
theorem m_contextSymbols {l : Launch} {γ : zG} {M : zM} {A : Nat → Nat} {Y : zSys} {t0 : Int} {rr bb pp : Int} (hMo0 : hMo γ M A Y t0) (hY : zOk (yS Y)) (r_rr : zR rr) (r_bb : zR bb) (r_pp : zR pp) :
    zCon l γ yX9_contextSymbols cX9_contextSymbols 6 (some .int) [.ref (A 0), .int (zi rr), .int (zi bb), .int (zi pp)] M 10 330 0 0 (mAns γ A M Y (q_contextSymbols (yS Y) rr bb pp)) (fun _ _ => False) := by
  obtain ⟨hA, F, h8, hF⟩ := hMo0
  obtain ⟨hsc, hec, hun, hsl, hinp, hou, ⟨g, hM, hS⟩, hrs⟩ := id hF
  have hO := hsc.1
  have hg := hS.1
  have o1 := hY.1
  have z_rr := r_rr
  unfold zR at z_rr
  have z_bb := r_bb
  unfold zR at z_bb
  have z_pp := r_pp
  unfold zR at z_pp
  refine zEnter [some (.ref (A 0)), some (.int (zi rr)), some (.int (zi bb)), some (.int (zi pp)), none, none] (by decide +kernel) rfl rfl (Nat.le_of_ble_eq_true rfl) ?_
  intro p e s m args below meth c Q C hin hQ
  have loop : ∀ (t : Nat) (M1 : zM) (F1 c7 : Nat → Int) (i : Int), 27 - i = t → 0 ≤ i ∧ i ≤ 27 → M1 (A 0) = some (mOb A F1) → M1 (A 7) = some (zar γ 81 c7) → (∀ j, zR (c7 j)) → mLk (rC (sRd (yS Y) rr.toNat)) bb pp c7 → zcR (rC (sRd (yS Y) rr.toNat)) → mAns γ A M Y (q_contextSymbols (yS Y) rr bb pp) (some (.int (zi (zsum (zind (rC (sRd (yS Y) rr.toNat))) (zCs (zFo bb pp) bb pp) 27)))) M1 → zAW p l e { frames := 10, cells := 0, slots := 0, locals := 330 } s m args below meth c γ 6 Q M1 0 0 29 [some (.ref (A 0)), some (.int (zi rr)), some (.int (zi bb)), some (.int (zi pp)), some (.int (zi (zsum (zind (rC (sRd (yS Y) rr.toNat))) (zCs (zFo bb pp) bb pp) i.toNat))), some (.int (zi i))] [] := by
    intro t
    induction t with
    | zero =>
      intro M1 F1 c7 i ht hi hO1 hH7 hh7 hK hc hfin
      obtain rfl : i = 27 := by omega
      refine z_iload C dX9_contextSymbols_29 rfl ?_
      refine z_bipush C dX9_contextSymbols_31 (by decide) ?_
      refine z_icmp_geZ (tgt := 62) C dX9_contextSymbols_33 (by decide) (by omega) (by omega) (fun h33 => ?_) (fun h33 => ?_)
      · refine z_iload C dX9_contextSymbols_62 rfl ?_
        refine z_iret C hQ dX9_contextSymbols_64 rfl (by decide) (by decide) ?_
        exact hfin
      · exact absurd h33 (by omega)
    | succ t ih =>
      intro M1 F1 c7 i ht hi hO1 hH7 hh7 hK hc hfin
      have kx := hK.top i (by omega)
      have rc := hc (zCs (zFo bb pp) bb pp + i)
      have qq := ih M1 F1 c7 (i + 1) (by omega) (by omega) hO1 hH7 hh7 hK hc hfin
      rw [zsum_nl hi.1] at qq
      unfold zind at qq
      refine z_iload C dX9_contextSymbols_29 rfl ?_
      refine z_bipush C dX9_contextSymbols_31 (by decide) ?_
      refine z_icmp_geZ (tgt := 62) C dX9_contextSymbols_33 (by decide) (by omega) (by omega) (fun h33 => ?_) (fun h33 => ?_)
      · exact absurd h33 (by omega)
      · refine z_iload C dX9_contextSymbols_36 rfl ?_
        refine z_aload_n C dX9_contextSymbols_38 rfl ?_
        refine z_get C dX9_contextSymbols_39 fl_X9_30 (by first | assumption | ((repeat (first | assumption | exact va_up_self _ _ _ | refine (va_up_ne _ _ (by first | assumption | exact hA.ne (by decide) | exact hA.ne (by omega))).trans ?_)); done)) rfl ?_
        refine z_iload C dX9_contextSymbols_42 rfl ?_
        refine z_aldN C dX9_contextSymbols_44 (by first | assumption | ((repeat (first | assumption | exact va_up_self _ _ _ | refine (va_up_ne _ _ (by first | assumption | exact hA.ne (by decide) | exact hA.ne (by omega))).trans ?_)); done)) (by omega) (by omega) (by assumption) (fun hr44 => ?_)
        rw [kx]
        refine z_if_leZ (tgt := 52) C dX9_contextSymbols_45 (by decide) (by omega) (fun h45 => ?_) (fun h45 => ?_)
        · refine z_iconst C dX9_contextSymbols_52 ?_
          refine z_iaddZ C dX9_contextSymbols_53 ?_
          refine z_istore C dX9_contextSymbols_54 (by decide) ?_
          refine z_iincZ C dX9_contextSymbols_56 rfl (by decide) ?_
          refine z_goto (tgt := 29) C dX9_contextSymbols_59 (by decide) ?_
          rw [if_pos (by omega)] at qq
          exact qq
        · refine z_iconst C dX9_contextSymbols_48 ?_
          refine z_goto (tgt := 53) C dX9_contextSymbols_49 (by decide) ?_
          refine z_iaddZ C dX9_contextSymbols_53 ?_
          refine z_istore C dX9_contextSymbols_54 (by decide) ?_
          refine z_iincZ C dX9_contextSymbols_56 rfl (by decide) ?_
          refine z_goto (tgt := 29) C dX9_contextSymbols_59 (by decide) ?_
          rw [if_neg (by omega)] at qq
          exact qq
  refine z_aload_n C dX9_contextSymbols_0 rfl ?_
  refine z_iload_n C dX9_contextSymbols_1 rfl ?_
  refine z_iload_n C dX9_contextSymbols_2 rfl ?_
  refine z_iload_n C dX9_contextSymbols_3 rfl ?_
  refine z_callV C dX9_contextSymbols_4 lk_X9_304 mw_X9_noContext mi_X9_noContext ms_X9_noContext rfl (by first | assumption | ((repeat (first | assumption | exact va_up_self _ _ _ | refine (va_up_ne _ _ (by first | assumption | exact hA.ne (by decide) | exact hA.ne (by omega))).trans ?_)); done)) (k_X9_noContext hA hO hM hS hY r_rr r_bb r_pp) rfl (by first | decide | exact Nat.le_of_ble_eq_true rfl) ⟨by decide, by decide, by decide, by decide⟩ (fun _ _ h => False.elim h) (fun v M' hp => ?_)
  obtain ⟨r1, F1, rfl, f1, ob1, p1, e1, z1⟩ := hp
  have s1 := z1.rng
  have cf1 := f1
  have cp1 := p1
  have hM1 := cf1.at hA (.of rfl) hM
  refine z_if_eqZ (tgt := 12) C dX9_contextSymbols_7 (by decide) (by omega) (fun h7 => ?_) (fun h7 => ?_)
  · have t1 := Decidable.not_not.mp (z1.f h7)
    rw [t1] at e1
    obtain ⟨c1, c0⟩ := mqR_0 t1
    obtain ⟨c2, -⟩ := mq2_0 c0
    obtain ⟨x1, x2, x3⟩ := zCv_x c2
    have hSr := hS.r c1
    have hF1 := hF.q0 hA cf1 ob1 cp1 rfl
    have hs1 := hF1.1
    have hc := (hY.2.2 rr.toNat (by omega)).1.2.2.1
    refine z_aload_n C dX9_contextSymbols_12 rfl ?_
    refine z_aload_n C dX9_contextSymbols_13 rfl ?_
    refine z_get C dX9_contextSymbols_14 fl_X9_7 (by first | assumption | ((repeat (first | assumption | exact va_up_self _ _ _ | refine (va_up_ne _ _ (by first | assumption | exact hA.ne (by decide) | exact hA.ne (by omega))).trans ?_)); done)) rfl ?_
    refine z_iload_n C dX9_contextSymbols_17 rfl ?_
    refine z_iload_n C dX9_contextSymbols_18 rfl ?_
    refine z_iload_n C dX9_contextSymbols_19 rfl ?_
    refine z_callV C dX9_contextSymbols_20 lk_X9_135 mw_X9_look mi_X9_look ms_X9_look rfl hs1.1 (k_X9_look hA hs1.1 (kq := 1) (.inl rfl) hM1 hg hs1.2.1.choose_spec.1 hs1.2.1.choose_spec.2 (r := rr) (by omega) x1 x2 x3 hSr.2.2.2.2 (fun x hx => sG_rng hx)) rfl (by first | decide | exact Nat.le_of_ble_eq_true rfl) ⟨by decide, by decide, by decide, by decide⟩ (fun _ _ h => False.elim h) (fun v M' hp => ?_)
    obtain ⟨rfl, a1, a2, c7, a3, a4, a5⟩ := hp
    obtain ⟨-, -, ⟨f8, s8, s8b⟩, f9, s9, s9b⟩ := hs1
    refine z_iconst C dX9_contextSymbols_23 ?_
    refine z_istore C dX9_contextSymbols_24 (by decide) ?_
    refine z_iconst C dX9_contextSymbols_26 ?_
    refine z_istore C dX9_contextSymbols_27 (by decide) ?_
    exact loop 27 _ _ c7 0 (by omega) (by omega) a2 a3 a4 a5 hc (mAns.q hA hF1 cf1 e1 a1 rfl (mKp.rf.up rfl) ⟨a2, ⟨_, a3, a4⟩, ⟨_, a1.at hA (.of rfl) s8, s8b⟩, ⟨_, a1.at hA (.of rfl) s9, s9b⟩⟩ (by rw [q_contextSymbols, mqR_t c1, mq2_t c2]) rfl)
  · refine z_iconst C dX9_contextSymbols_10 ?_
    refine z_iret C hQ dX9_contextSymbols_11 rfl (by decide) (by decide) ?_
    exact mAns.no hA hF cf1 ob1 cp1 e1 (z1.t h7) (mqR_1 (mq2_1 rfl))
set_option maxHeartbeats 4000000 in
set_option maxRecDepth 100000 in
theorem m_symbolAtRank {l : Launch} {γ : zG} {M : zM} {A : Nat → Nat} {Y : zSys} {t0 : Int} {rr bb pp kk : Int} (hMo0 : hMo γ M A Y t0) (hY : zOk (yS Y)) (r_rr : zR rr) (r_bb : zR bb) (r_pp : zR pp) (r_kk : zR kk) :
    zCon l γ yX9_symbolAtRank cX9_symbolAtRank 5 (some .int) [.ref (A 0), .int (zi rr), .int (zi bb), .int (zi pp), .int (zi kk)] M 10 330 0 0 (mAns γ A M Y (q_symbolAtRank (yS Y) rr bb pp kk)) (fun _ _ => False) := by
  obtain ⟨hA, F, h8, hF⟩ := hMo0
  obtain ⟨hsc, hec, hun, hsl, hinp, hou, ⟨g, hM, hS⟩, hrs⟩ := id hF
  have hO := hsc.1
  have hg := hS.1
  have o1 := hY.1
  have z_rr := r_rr
  unfold zR at z_rr
  have z_bb := r_bb
  unfold zR at z_bb
  have z_pp := r_pp
  unfold zR at z_pp
  have z_kk := r_kk
  unfold zR at z_kk
  refine zEnter [some (.ref (A 0)), some (.int (zi rr)), some (.int (zi bb)), some (.int (zi pp)), some (.int (zi kk))] (by decide +kernel) rfl rfl (Nat.le_of_ble_eq_true rfl) ?_
  intro p e s m args below meth c Q C hin hQ
  refine z_aload_n C dX9_symbolAtRank_0 rfl ?_
  refine z_iload_n C dX9_symbolAtRank_1 rfl ?_
  refine z_iload_n C dX9_symbolAtRank_2 rfl ?_
  refine z_iload_n C dX9_symbolAtRank_3 rfl ?_
  refine z_callV C dX9_symbolAtRank_4 lk_X9_304 mw_X9_noContext mi_X9_noContext ms_X9_noContext rfl (by first | assumption | ((repeat (first | assumption | exact va_up_self _ _ _ | refine (va_up_ne _ _ (by first | assumption | exact hA.ne (by decide) | exact hA.ne (by omega))).trans ?_)); done)) (k_X9_noContext hA hO hM hS hY r_rr r_bb r_pp) rfl (by first | decide | exact Nat.le_of_ble_eq_true rfl) ⟨by decide, by decide, by decide, by decide⟩ (fun _ _ h => False.elim h) (fun v M' hp => ?_)
  obtain ⟨r1, F1, rfl, f1, ob1, p1, e1, z1⟩ := hp
  have s1 := z1.rng
  have cf1 := f1
  have cp1 := p1
  have hM1 := cf1.at hA (.of rfl) hM
  refine z_if_neZ (tgt := 22) C dX9_symbolAtRank_7 (by decide) (by omega) (fun h7 => ?_) (fun h7 => ?_)
  · refine z_iconst C dX9_symbolAtRank_22 ?_
    refine z_iret C hQ dX9_symbolAtRank_23 rfl (by decide) (by decide) ?_
    exact mAns.no hA hF cf1 ob1 cp1 e1 (z1.t h7) (mC_2 (z1.t h7) (fun w => w.1))
  · have t1 := Decidable.not_not.mp (z1.f h7)
    rw [t1] at e1
    obtain ⟨c1, c0⟩ := mqR_0 t1
    obtain ⟨c2, -⟩ := mq2_0 c0
    obtain ⟨x1, x2, x3⟩ := zCv_x c2
    have hSr := hS.r c1
    have hc := (hY.2.2 rr.toNat (by omega)).1.2.2.1
    refine z_aload_n C dX9_symbolAtRank_10 rfl ?_
    refine z_iload C dX9_symbolAtRank_11 rfl ?_
    refine z_iconst C dX9_symbolAtRank_13 ?_
    refine z_bipush C dX9_symbolAtRank_14 (by decide) ?_
    refine z_callV C dX9_symbolAtRank_16 lk_X9_301 mw_X9_out mi_X9_out ms_X9_out rfl (by first | assumption | ((repeat (first | assumption | exact va_up_self _ _ _ | refine (va_up_ne _ _ (by first | assumption | exact hA.ne (by decide) | exact hA.ne (by omega))).trans ?_)); done)) (k_X9_out hA ob1 e1 (x := kk) (a := 1) (b := 27) r_kk (by unfold zR; omega) (by unfold zR; omega)) rfl (by first | decide | exact Nat.le_of_ble_eq_true rfl) ⟨by decide, by decide, by decide, by decide⟩ (fun _ _ h => False.elim h) (fun v M' hp => ?_)
    obtain ⟨r2, F2, rfl, f2, ob2, p2, e2, z2⟩ := hp
    have s2 := z2.rng
    have cf2 := cf1.tr (K := [0]) f2 ⟨rfl, rfl⟩
    have cp2 := cp1.tr (K := [8]) p2 ⟨rfl, rfl⟩
    have hM2 := cf2.at hA (.of rfl) hM
    refine z_if_eqZ (tgt := 24) C dX9_symbolAtRank_19 (by decide) (by omega) (fun h19 => ?_) (fun h19 => ?_)
    · have t2 := Decidable.not_not.mp (z2.f h19)
      rw [t2] at e2
      have t3 := mOut t2
      have hF1 := hF.q0 hA cf2 ob2 cp2 rfl
      have hs1 := hF1.1
      refine z_aload_n C dX9_symbolAtRank_24 rfl ?_
      refine z_aload_n C dX9_symbolAtRank_25 rfl ?_
      refine z_get C dX9_symbolAtRank_26 fl_X9_7 (by first | assumption | ((repeat (first | assumption | exact va_up_self _ _ _ | refine (va_up_ne _ _ (by first | assumption | exact hA.ne (by decide) | exact hA.ne (by omega))).trans ?_)); done)) rfl ?_
      refine z_iload_n C dX9_symbolAtRank_29 rfl ?_
      refine z_iload_n C dX9_symbolAtRank_30 rfl ?_
      refine z_iload_n C dX9_symbolAtRank_31 rfl ?_
      refine z_callV C dX9_symbolAtRank_32 lk_X9_145 mw_X9_rankAll mi_X9_rankAll ms_X9_rankAll rfl hs1.1 (k_X9_rankAll hA hs1 (kq := 1) (.inl rfl) hM2 hg (r := rr) (by omega) x1 x2 x3 hSr.2.2.2.2 (fun x hx => sG_rng hx) hc) rfl (by first | decide | exact Nat.le_of_ble_eq_true rfl) ⟨by decide, by decide, by decide, by decide⟩ (fun _ _ h => False.elim h) (fun v M' hp => ?_)
      obtain ⟨rfl, fa, Fa, pa, sa, ⟨ra, ra1, ra2, ra3⟩, rb, rb1, rb2, rb3⟩ := hp
      have oa := sa.1
      have gs := ra3.gs (i := (kk - 1).toNat) (by omega)
      rw [show (((kk - 1).toNat : Nat) : Int) + 1 = kk by omega] at gs
      refine z_aload_n C dX9_symbolAtRank_35 rfl ?_
      refine z_get C dX9_symbolAtRank_36 fl_X9_33 (by first | assumption | ((repeat (first | assumption | exact va_up_self _ _ _ | refine (va_up_ne _ _ (by first | assumption | exact hA.ne (by decide) | exact hA.ne (by omega))).trans ?_)); done)) rfl ?_
      refine z_iload C dX9_symbolAtRank_39 rfl ?_
      refine z_iconst C dX9_symbolAtRank_41 ?_
      refine z_isubZ C dX9_symbolAtRank_42 ?_
      refine z_aldN C dX9_symbolAtRank_43 (by first | assumption | ((repeat (first | assumption | exact va_up_self _ _ _ | refine (va_up_ne _ _ (by first | assumption | exact hA.ne (by decide) | exact hA.ne (by omega))).trans ?_)); done)) (by omega) (by omega) ra2 (fun hr43 => ?_)
      refine z_iret C hQ dX9_symbolAtRank_44 rfl (by decide) (by decide) ?_
      exact mAns.q hA hF1 cf2 e2 fa rfl pa sa (by rw [q_symbolAtRank, mqR_t c1, mq2_t ⟨c2, t3⟩]) (by rw [gs])
    · refine z_iconst C dX9_symbolAtRank_22 ?_
      refine z_iret C hQ dX9_symbolAtRank_23 rfl (by decide) (by decide) ?_
      exact mAns.no hA hF cf2 ob2 cp2 e2 (z2.t h19) (by rw [q_symbolAtRank, mqR_t c1]; exact mOut_q ⟨fun w => w.2, fun w => ⟨c2, w⟩⟩)
set_option maxHeartbeats 4000000 in
set_option maxRecDepth 100000 in
theorem m_rank {l : Launch} {γ : zG} {M : zM} {A : Nat → Nat} {Y : zSys} {t0 : Int} {rr bb pp ss : Int} (hMo0 : hMo γ M A Y t0) (hY : zOk (yS Y)) (r_rr : zR rr) (r_bb : zR bb) (r_pp : zR pp) (r_ss : zR ss) :
    zCon l γ yX9_rank cX9_rank 5 (some .int) [.ref (A 0), .int (zi rr), .int (zi bb), .int (zi pp), .int (zi ss)] M 10 330 0 0 (mAns γ A M Y (q_rank (yS Y) rr bb pp ss)) (fun _ _ => False) := by
  obtain ⟨hA, F, h8, hF⟩ := hMo0
  obtain ⟨hsc, hec, hun, hsl, hinp, hou, ⟨g, hM, hS⟩, hrs⟩ := id hF
  have hO := hsc.1
  have hg := hS.1
  have o1 := hY.1
  have z_rr := r_rr
  unfold zR at z_rr
  have z_bb := r_bb
  unfold zR at z_bb
  have z_pp := r_pp
  unfold zR at z_pp
  have z_ss := r_ss
  unfold zR at z_ss
  refine zEnter [some (.ref (A 0)), some (.int (zi rr)), some (.int (zi bb)), some (.int (zi pp)), some (.int (zi ss))] (by decide +kernel) rfl rfl (Nat.le_of_ble_eq_true rfl) ?_
  intro p e s m args below meth c Q C hin hQ
  refine z_aload_n C dX9_rank_0 rfl ?_
  refine z_iload_n C dX9_rank_1 rfl ?_
  refine z_iload_n C dX9_rank_2 rfl ?_
  refine z_iload_n C dX9_rank_3 rfl ?_
  refine z_iload C dX9_rank_4 rfl ?_
  refine z_callV C dX9_rank_6 lk_X9_331 mw_X9_noQuestion mi_X9_noQuestion ms_X9_noQuestion rfl (by first | assumption | ((repeat (first | assumption | exact va_up_self _ _ _ | refine (va_up_ne _ _ (by first | assumption | exact hA.ne (by decide) | exact hA.ne (by omega))).trans ?_)); done)) (k_X9_noQuestion hA hO hM hS hY r_rr r_bb r_pp r_ss) rfl (by first | decide | exact Nat.le_of_ble_eq_true rfl) ⟨by decide, by decide, by decide, by decide⟩ (fun _ _ h => False.elim h) (fun v M' hp => ?_)
  obtain ⟨r1, F1, rfl, f1, ob1, p1, e1, z1⟩ := hp
  have s1 := z1.rng
  have cf1 := f1
  have cp1 := p1
  have hM1 := cf1.at hA (.of rfl) hM
  refine z_if_eqZ (tgt := 14) C dX9_rank_9 (by decide) (by omega) (fun h9 => ?_) (fun h9 => ?_)
  · have t1 := Decidable.not_not.mp (z1.f h9)
    rw [t1] at e1
    obtain ⟨c1, c0⟩ := mqR_0 t1
    obtain ⟨⟨c2, c3⟩, -⟩ := mq2_0 c0
    obtain ⟨x1, x2, x3⟩ := zCv_x c2
    have x4 := c3
    unfold zSy at x4
    have hSr := hS.r c1
    have hF1 := hF.q0 hA cf1 ob1 cp1 rfl
    have hs1 := hF1.1
    have hc := (hY.2.2 rr.toNat (by omega)).1.2.2.1
    refine z_aload_n C dX9_rank_14 rfl ?_
    refine z_aload_n C dX9_rank_15 rfl ?_
    refine z_get C dX9_rank_16 fl_X9_7 (by first | assumption | ((repeat (first | assumption | exact va_up_self _ _ _ | refine (va_up_ne _ _ (by first | assumption | exact hA.ne (by decide) | exact hA.ne (by omega))).trans ?_)); done)) rfl ?_
    refine z_iload_n C dX9_rank_19 rfl ?_
    refine z_iload_n C dX9_rank_20 rfl ?_
    refine z_iload_n C dX9_rank_21 rfl ?_
    refine z_callV C dX9_rank_22 lk_X9_145 mw_X9_rankAll mi_X9_rankAll ms_X9_rankAll rfl hs1.1 (k_X9_rankAll hA hs1 (kq := 1) (.inl rfl) hM1 hg (r := rr) (by omega) x1 x2 x3 hSr.2.2.2.2 (fun x hx => sG_rng hx) hc) rfl (by first | decide | exact Nat.le_of_ble_eq_true rfl) ⟨by decide, by decide, by decide, by decide⟩ (fun _ _ h => False.elim h) (fun v M' hp => ?_)
    obtain ⟨rfl, fa, Fa, pa, sa, ⟨ra, ra1, ra2, ra3⟩, rb, rb1, rb2, rb3⟩ := hp
    have oa := sa.1
    refine z_aload_n C dX9_rank_25 rfl ?_
    refine z_get C dX9_rank_26 fl_X9_36 (by first | assumption | ((repeat (first | assumption | exact va_up_self _ _ _ | refine (va_up_ne _ _ (by first | assumption | exact hA.ne (by decide) | exact hA.ne (by omega))).trans ?_)); done)) rfl ?_
    refine z_iload C dX9_rank_29 rfl ?_
    refine z_aldN C dX9_rank_31 (by first | assumption | ((repeat (first | assumption | exact va_up_self _ _ _ | refine (va_up_ne _ _ (by first | assumption | exact hA.ne (by decide) | exact hA.ne (by omega))).trans ?_)); done)) (by omega) (by omega) rb2 (fun hr31 => ?_)
    refine z_iret C hQ dX9_rank_32 rfl (by decide) (by decide) ?_
    exact mAns.q hA hF1 cf1 e1 fa rfl pa sa (by rw [q_rank, mqR_t c1, mq2_t ⟨c2, c3⟩]) (by rw [rb3 ss (by omega) (by omega)])
  · refine z_iconst C dX9_rank_12 ?_
    refine z_iret C hQ dX9_rank_13 rfl (by decide) (by decide) ?_
    exact mAns.no hA hF cf1 ob1 cp1 e1 (z1.t h9) (mqR_1 (mq2_1 rfl))
set_option maxHeartbeats 4000000 in
set_option maxRecDepth 100000 in
theorem m_foundOrder {l : Launch} {γ : zG} {M : zM} {A : Nat → Nat} {Y : zSys} {t0 : Int} {rr bb pp ss : Int} (hMo0 : hMo γ M A Y t0) (hY : zOk (yS Y)) (r_rr : zR rr) (r_bb : zR bb) (r_pp : zR pp) (r_ss : zR ss) :
    zCon l γ yX9_foundOrder cX9_foundOrder 5 (some .int) [.ref (A 0), .int (zi rr), .int (zi bb), .int (zi pp), .int (zi ss)] M 10 330 0 0 (mAns γ A M Y (q_foundOrder (yS Y) rr bb pp ss)) (fun _ _ => False) := by
  obtain ⟨hA, F, h8, hF⟩ := hMo0
  obtain ⟨hsc, hec, hun, hsl, hinp, hou, ⟨g, hM, hS⟩, hrs⟩ := id hF
  have hO := hsc.1
  have hg := hS.1
  have o1 := hY.1
  have z_rr := r_rr
  unfold zR at z_rr
  have z_bb := r_bb
  unfold zR at z_bb
  have z_pp := r_pp
  unfold zR at z_pp
  have z_ss := r_ss
  unfold zR at z_ss
  refine zEnter [some (.ref (A 0)), some (.int (zi rr)), some (.int (zi bb)), some (.int (zi pp)), some (.int (zi ss))] (by decide +kernel) rfl rfl (Nat.le_of_ble_eq_true rfl) ?_
  intro p e s m args below meth c Q C hin hQ
  refine z_aload_n C dX9_foundOrder_0 rfl ?_
  refine z_iload_n C dX9_foundOrder_1 rfl ?_
  refine z_iload_n C dX9_foundOrder_2 rfl ?_
  refine z_iload_n C dX9_foundOrder_3 rfl ?_
  refine z_iload C dX9_foundOrder_4 rfl ?_
  refine z_callV C dX9_foundOrder_6 lk_X9_331 mw_X9_noQuestion mi_X9_noQuestion ms_X9_noQuestion rfl (by first | assumption | ((repeat (first | assumption | exact va_up_self _ _ _ | refine (va_up_ne _ _ (by first | assumption | exact hA.ne (by decide) | exact hA.ne (by omega))).trans ?_)); done)) (k_X9_noQuestion hA hO hM hS hY r_rr r_bb r_pp r_ss) rfl (by first | decide | exact Nat.le_of_ble_eq_true rfl) ⟨by decide, by decide, by decide, by decide⟩ (fun _ _ h => False.elim h) (fun v M' hp => ?_)
  obtain ⟨r1, F1, rfl, f1, ob1, p1, e1, z1⟩ := hp
  have s1 := z1.rng
  have cf1 := f1
  have cp1 := p1
  have hM1 := cf1.at hA (.of rfl) hM
  refine z_if_eqZ (tgt := 16) C dX9_foundOrder_9 (by decide) (by omega) (fun h9 => ?_) (fun h9 => ?_)
  · have t1 := Decidable.not_not.mp (z1.f h9)
    rw [t1] at e1
    obtain ⟨c1, c0⟩ := mqR_0 t1
    obtain ⟨⟨c2, c3⟩, -⟩ := mq2_0 c0
    obtain ⟨x1, x2, x3⟩ := zCv_x c2
    have x4 := c3
    unfold zSy at x4
    have hSr := hS.r c1
    have hF1 := hF.q0 hA cf1 ob1 cp1 rfl
    have hs1 := hF1.1
    have hc := (hY.2.2 rr.toNat (by omega)).1.2.2.1
    refine z_aload_n C dX9_foundOrder_16 rfl ?_
    refine z_aload_n C dX9_foundOrder_17 rfl ?_
    refine z_get C dX9_foundOrder_18 fl_X9_7 (by first | assumption | ((repeat (first | assumption | exact va_up_self _ _ _ | refine (va_up_ne _ _ (by first | assumption | exact hA.ne (by decide) | exact hA.ne (by omega))).trans ?_)); done)) rfl ?_
    refine z_iload_n C dX9_foundOrder_21 rfl ?_
    refine z_iload_n C dX9_foundOrder_22 rfl ?_
    refine z_iload_n C dX9_foundOrder_23 rfl ?_
    refine z_iload C dX9_foundOrder_24 rfl ?_
    refine z_callV C dX9_foundOrder_26 lk_X9_335 mw_X9_found mi_X9_found ms_X9_found rfl hs1.1 (k_X9_found hA hs1 (kq := 1) (.inl rfl) hM1 hg (r := rr) (by omega) x1 x2 x3 hSr.2.2.2.2 (fun x hx => sG_rng hx) hc x4) rfl (by first | decide | exact Nat.le_of_ble_eq_true rfl) ⟨by decide, by decide, by decide, by decide⟩ (fun _ _ h => False.elim h) (fun v M' hp => ?_)
    obtain ⟨rfl, fa, Fa, pa, sa⟩ := hp
    refine z_iret C hQ dX9_foundOrder_29 rfl (by decide) (by decide) ?_
    exact mAns.q hA hF1 cf1 e1 fa rfl pa sa (by rw [q_foundOrder, mqR_t c1, mq2_t ⟨c2, c3⟩]) rfl
  · refine z_iconst C dX9_foundOrder_12 ?_
    refine z_goto (tgt := 29) C dX9_foundOrder_13 (by decide) ?_
    refine z_iret C hQ dX9_foundOrder_29 rfl (by decide) (by decide) ?_
    exact mAns.no hA hF cf1 ob1 cp1 e1 (z1.t h9) (mqR_1 (mq2_1 rfl))
set_option maxHeartbeats 4000000 in
set_option maxRecDepth 100000 in
theorem m_escapes {l : Launch} {γ : zG} {M : zM} {A : Nat → Nat} {Y : zSys} {t0 : Int} {rr bb pp ss : Int} (hMo0 : hMo γ M A Y t0) (hY : zOk (yS Y)) (r_rr : zR rr) (r_bb : zR bb) (r_pp : zR pp) (r_ss : zR ss) :
    zCon l γ yX9_escapes cX9_escapes 5 (some .int) [.ref (A 0), .int (zi rr), .int (zi bb), .int (zi pp), .int (zi ss)] M 10 330 0 0 (mAns γ A M Y (q_escapes (yS Y) rr bb pp ss)) (fun _ _ => False) := by
  obtain ⟨hA, F, h8, hF⟩ := hMo0
  obtain ⟨hsc, hec, hun, hsl, hinp, hou, ⟨g, hM, hS⟩, hrs⟩ := id hF
  have hO := hsc.1
  have hg := hS.1
  have o1 := hY.1
  have z_rr := r_rr
  unfold zR at z_rr
  have z_bb := r_bb
  unfold zR at z_bb
  have z_pp := r_pp
  unfold zR at z_pp
  have z_ss := r_ss
  unfold zR at z_ss
  refine zEnter [some (.ref (A 0)), some (.int (zi rr)), some (.int (zi bb)), some (.int (zi pp)), some (.int (zi ss))] (by decide +kernel) rfl rfl (Nat.le_of_ble_eq_true rfl) ?_
  intro p e s m args below meth c Q C hin hQ
  refine z_aload_n C dX9_escapes_0 rfl ?_
  refine z_iload_n C dX9_escapes_1 rfl ?_
  refine z_iload_n C dX9_escapes_2 rfl ?_
  refine z_iload_n C dX9_escapes_3 rfl ?_
  refine z_iload C dX9_escapes_4 rfl ?_
  refine z_callV C dX9_escapes_6 lk_X9_331 mw_X9_noQuestion mi_X9_noQuestion ms_X9_noQuestion rfl (by first | assumption | ((repeat (first | assumption | exact va_up_self _ _ _ | refine (va_up_ne _ _ (by first | assumption | exact hA.ne (by decide) | exact hA.ne (by omega))).trans ?_)); done)) (k_X9_noQuestion hA hO hM hS hY r_rr r_bb r_pp r_ss) rfl (by first | decide | exact Nat.le_of_ble_eq_true rfl) ⟨by decide, by decide, by decide, by decide⟩ (fun _ _ h => False.elim h) (fun v M' hp => ?_)
  obtain ⟨r1, F1, rfl, f1, ob1, p1, e1, z1⟩ := hp
  have s1 := z1.rng
  have cf1 := f1
  have cp1 := p1
  have hM1 := cf1.at hA (.of rfl) hM
  refine z_if_eqZ (tgt := 14) C dX9_escapes_9 (by decide) (by omega) (fun h9 => ?_) (fun h9 => ?_)
  · have t1 := Decidable.not_not.mp (z1.f h9)
    rw [t1] at e1
    obtain ⟨c1, c0⟩ := mqR_0 t1
    obtain ⟨⟨c2, c3⟩, -⟩ := mq2_0 c0
    obtain ⟨x1, x2, x3⟩ := zCv_x c2
    have x4 := c3
    unfold zSy at x4
    have hSr := hS.r c1
    have hF1 := hF.q0 hA cf1 ob1 cp1 rfl
    have hs1 := hF1.1
    have hc := (hY.2.2 rr.toNat (by omega)).1.2.2.1
    obtain ⟨e10, h10a⟩ := hrs.2.2.1
    have h10b := cf1.at hA (.of rfl) h10a
    refine z_aload_n C dX9_escapes_14 rfl ?_
    refine z_iload_n C dX9_escapes_15 rfl ?_
    refine z_iload_n C dX9_escapes_16 rfl ?_
    refine z_iload_n C dX9_escapes_17 rfl ?_
    refine z_iload C dX9_escapes_18 rfl ?_
    refine z_callV C dX9_escapes_20 lk_X9_339 mw_X9_reckon mi_X9_reckon ms_X9_reckon rfl hs1.1 (k_X9_reckon hA hs1 h10b hM1 hg (r := rr) (by omega) x1 x2 x3 hSr.2.2.2.2 (fun x hx => sG_rng hx) hc x4 hSr.2.1 (hY.2.2 rr.toNat (by omega)).1.1) rfl (by first | decide | exact Nat.le_of_ble_eq_true rfl) ⟨by decide, by decide, by decide, by decide⟩ (fun _ _ h => False.elim h) (fun v M' hp => ?_)
    obtain ⟨rfl, fa, Fa, pa, sa, oa, ea, aT, aB, aE⟩ := hp
    refine z_aload_n C dX9_escapes_23 rfl ?_
    refine z_getM C dX9_escapes_24 fl_X9_173 (by first | assumption | ((repeat (first | assumption | exact va_up_self _ _ _ | refine (va_up_ne _ _ (by first | assumption | exact hA.ne (by decide) | exact hA.ne (by omega))).trans ?_)); done)) rfl aE ?_
    refine z_iret C hQ dX9_escapes_27 rfl (by decide) (by decide) ?_
    exact mAns.k hA hF1 cf1 e1 fa pa sa ea (by rw [q_escapes, mqR_t c1, mq2_t ⟨c2, c3⟩]) rfl
  · refine z_iconst C dX9_escapes_12 ?_
    refine z_iret C hQ dX9_escapes_13 rfl (by decide) (by decide) ?_
    exact mAns.no hA hF cf1 ob1 cp1 e1 (z1.t h9) (mqR_1 (mq2_1 rfl))
set_option maxHeartbeats 4000000 in
set_option maxRecDepth 100000 in
theorem m_numerator {l : Launch} {γ : zG} {M : zM} {A : Nat → Nat} {Y : zSys} {t0 : Int} {rr bb pp ss : Int} (hMo0 : hMo γ M A Y t0) (hY : zOk (yS Y)) (r_rr : zR rr) (r_bb : zR bb) (r_pp : zR pp) (r_ss : zR ss) :
    zCon l γ yX9_numerator cX9_numerator 5 (some .long) [.ref (A 0), .int (zi rr), .int (zi bb), .int (zi pp), .int (zi ss)] M 10 330 0 0 (mAnsJ γ A M Y (q_numerator (yS Y) rr bb pp ss)) (fun _ _ => False) := by
  obtain ⟨hA, F, h8, hF⟩ := hMo0
  obtain ⟨hsc, hec, hun, hsl, hinp, hou, ⟨g, hM, hS⟩, hrs⟩ := id hF
  have hO := hsc.1
  have hg := hS.1
  have o1 := hY.1
  have z_rr := r_rr
  unfold zR at z_rr
  have z_bb := r_bb
  unfold zR at z_bb
  have z_pp := r_pp
  unfold zR at z_pp
  have z_ss := r_ss
  unfold zR at z_ss
  refine zEnter [some (.ref (A 0)), some (.int (zi rr)), some (.int (zi bb)), some (.int (zi pp)), some (.int (zi ss))] (by decide +kernel) rfl rfl (Nat.le_of_ble_eq_true rfl) ?_
  intro p e s m args below meth c Q C hin hQ
  refine z_aload_n C dX9_numerator_0 rfl ?_
  refine z_iload_n C dX9_numerator_1 rfl ?_
  refine z_iload_n C dX9_numerator_2 rfl ?_
  refine z_iload_n C dX9_numerator_3 rfl ?_
  refine z_iload C dX9_numerator_4 rfl ?_
  refine z_callV C dX9_numerator_6 lk_X9_331 mw_X9_noQuestion mi_X9_noQuestion ms_X9_noQuestion rfl (by first | assumption | ((repeat (first | assumption | exact va_up_self _ _ _ | refine (va_up_ne _ _ (by first | assumption | exact hA.ne (by decide) | exact hA.ne (by omega))).trans ?_)); done)) (k_X9_noQuestion hA hO hM hS hY r_rr r_bb r_pp r_ss) rfl (by first | decide | exact Nat.le_of_ble_eq_true rfl) ⟨by decide, by decide, by decide, by decide⟩ (fun _ _ h => False.elim h) (fun v M' hp => ?_)
  obtain ⟨r1, F1, rfl, f1, ob1, p1, e1, z1⟩ := hp
  have s1 := z1.rng
  have cf1 := f1
  have cp1 := p1
  have hM1 := cf1.at hA (.of rfl) hM
  refine z_if_eqZ (tgt := 14) C dX9_numerator_9 (by decide) (by omega) (fun h9 => ?_) (fun h9 => ?_)
  · have t1 := Decidable.not_not.mp (z1.f h9)
    rw [t1] at e1
    obtain ⟨c1, c0⟩ := mqR_0 t1
    obtain ⟨⟨c2, c3⟩, -⟩ := mq2_0 c0
    obtain ⟨x1, x2, x3⟩ := zCv_x c2
    have x4 := c3
    unfold zSy at x4
    have hSr := hS.r c1
    have hF1 := hF.q0 hA cf1 ob1 cp1 rfl
    have hs1 := hF1.1
    have hc := (hY.2.2 rr.toNat (by omega)).1.2.2.1
    obtain ⟨e10, h10a⟩ := hrs.2.2.1
    have h10b := cf1.at hA (.of rfl) h10a
    refine z_aload_n C dX9_numerator_14 rfl ?_
    refine z_iload_n C dX9_numerator_15 rfl ?_
    refine z_iload_n C dX9_numerator_16 rfl ?_
    refine z_iload_n C dX9_numerator_17 rfl ?_
    refine z_iload C dX9_numerator_18 rfl ?_
    refine z_callV C dX9_numerator_20 lk_X9_339 mw_X9_reckon mi_X9_reckon ms_X9_reckon rfl hs1.1 (k_X9_reckon hA hs1 h10b hM1 hg (r := rr) (by omega) x1 x2 x3 hSr.2.2.2.2 (fun x hx => sG_rng hx) hc x4 hSr.2.1 (hY.2.2 rr.toNat (by omega)).1.1) rfl (by first | decide | exact Nat.le_of_ble_eq_true rfl) ⟨by decide, by decide, by decide, by decide⟩ (fun _ _ h => False.elim h) (fun v M' hp => ?_)
    obtain ⟨rfl, fa, Fa, pa, sa, oa, ea, aT, aB, aE⟩ := hp
    refine z_aload_n C dX9_numerator_23 rfl ?_
    refine z_getMJ C dX9_numerator_24 fl_X9_152 (by first | assumption | ((repeat (first | assumption | exact va_up_self _ _ _ | refine (va_up_ne _ _ (by first | assumption | exact hA.ne (by decide) | exact hA.ne (by omega))).trans ?_)); done)) rfl aT ?_
    refine z_lret C hQ dX9_numerator_27 (by decide) (by decide) ?_
    obtain ⟨g1, g2⟩ := mOk0 hA hF1 cf1 e1 fa pa sa ea (show q_numerator (yS Y) rr bb pp ss = (0, _) by rw [q_numerator, mqR_t c1, mq2_t ⟨c2, c3⟩])
    exact ⟨_, rfl, g1, g2, fun _ => by rw [q_numerator, mqR_t c1, mq2_t ⟨c2, c3⟩]⟩
  · refine z_lconstZ (x := 0) C dX9_numerator_12 rfl ?_
    refine z_lret C hQ dX9_numerator_13 (by decide) (by decide) ?_
    obtain ⟨g1, g2, g3⟩ := mNo0 (q := q_numerator (yS Y) rr bb pp ss) hA hF cf1 ob1 cp1 e1 (z1.t h9) (mqR_1 (mq2_1 rfl))
    exact ⟨0, rfl, g1, g2, fun w => absurd w g3⟩
set_option maxHeartbeats 4000000 in
set_option maxRecDepth 100000 in
theorem m_denominator {l : Launch} {γ : zG} {M : zM} {A : Nat → Nat} {Y : zSys} {t0 : Int} {rr bb pp ss : Int} (hMo0 : hMo γ M A Y t0) (hY : zOk (yS Y)) (r_rr : zR rr) (r_bb : zR bb) (r_pp : zR pp) (r_ss : zR ss) :
    zCon l γ yX9_denominator cX9_denominator 5 (some .long) [.ref (A 0), .int (zi rr), .int (zi bb), .int (zi pp), .int (zi ss)] M 10 330 0 0 (mAnsJ γ A M Y (q_denominator (yS Y) rr bb pp ss)) (fun _ _ => False) := by
  obtain ⟨hA, F, h8, hF⟩ := hMo0
  obtain ⟨hsc, hec, hun, hsl, hinp, hou, ⟨g, hM, hS⟩, hrs⟩ := id hF
  have hO := hsc.1
  have hg := hS.1
  have o1 := hY.1
  have z_rr := r_rr
  unfold zR at z_rr
  have z_bb := r_bb
  unfold zR at z_bb
  have z_pp := r_pp
  unfold zR at z_pp
  have z_ss := r_ss
  unfold zR at z_ss
  refine zEnter [some (.ref (A 0)), some (.int (zi rr)), some (.int (zi bb)), some (.int (zi pp)), some (.int (zi ss))] (by decide +kernel) rfl rfl (Nat.le_of_ble_eq_true rfl) ?_
  intro p e s m args below meth c Q C hin hQ
  refine z_aload_n C dX9_denominator_0 rfl ?_
  refine z_iload_n C dX9_denominator_1 rfl ?_
  refine z_iload_n C dX9_denominator_2 rfl ?_
  refine z_iload_n C dX9_denominator_3 rfl ?_
  refine z_iload C dX9_denominator_4 rfl ?_
  refine z_callV C dX9_denominator_6 lk_X9_331 mw_X9_noQuestion mi_X9_noQuestion ms_X9_noQuestion rfl (by first | assumption | ((repeat (first | assumption | exact va_up_self _ _ _ | refine (va_up_ne _ _ (by first | assumption | exact hA.ne (by decide) | exact hA.ne (by omega))).trans ?_)); done)) (k_X9_noQuestion hA hO hM hS hY r_rr r_bb r_pp r_ss) rfl (by first | decide | exact Nat.le_of_ble_eq_true rfl) ⟨by decide, by decide, by decide, by decide⟩ (fun _ _ h => False.elim h) (fun v M' hp => ?_)
  obtain ⟨r1, F1, rfl, f1, ob1, p1, e1, z1⟩ := hp
  have s1 := z1.rng
  have cf1 := f1
  have cp1 := p1
  have hM1 := cf1.at hA (.of rfl) hM
  refine z_if_eqZ (tgt := 14) C dX9_denominator_9 (by decide) (by omega) (fun h9 => ?_) (fun h9 => ?_)
  · have t1 := Decidable.not_not.mp (z1.f h9)
    rw [t1] at e1
    obtain ⟨c1, c0⟩ := mqR_0 t1
    obtain ⟨⟨c2, c3⟩, -⟩ := mq2_0 c0
    obtain ⟨x1, x2, x3⟩ := zCv_x c2
    have x4 := c3
    unfold zSy at x4
    have hSr := hS.r c1
    have hF1 := hF.q0 hA cf1 ob1 cp1 rfl
    have hs1 := hF1.1
    have hc := (hY.2.2 rr.toNat (by omega)).1.2.2.1
    obtain ⟨e10, h10a⟩ := hrs.2.2.1
    have h10b := cf1.at hA (.of rfl) h10a
    refine z_aload_n C dX9_denominator_14 rfl ?_
    refine z_iload_n C dX9_denominator_15 rfl ?_
    refine z_iload_n C dX9_denominator_16 rfl ?_
    refine z_iload_n C dX9_denominator_17 rfl ?_
    refine z_iload C dX9_denominator_18 rfl ?_
    refine z_callV C dX9_denominator_20 lk_X9_339 mw_X9_reckon mi_X9_reckon ms_X9_reckon rfl hs1.1 (k_X9_reckon hA hs1 h10b hM1 hg (r := rr) (by omega) x1 x2 x3 hSr.2.2.2.2 (fun x hx => sG_rng hx) hc x4 hSr.2.1 (hY.2.2 rr.toNat (by omega)).1.1) rfl (by first | decide | exact Nat.le_of_ble_eq_true rfl) ⟨by decide, by decide, by decide, by decide⟩ (fun _ _ h => False.elim h) (fun v M' hp => ?_)
    obtain ⟨rfl, fa, Fa, pa, sa, oa, ea, aT, aB, aE⟩ := hp
    refine z_aload_n C dX9_denominator_23 rfl ?_
    refine z_getMJ C dX9_denominator_24 fl_X9_156 (by first | assumption | ((repeat (first | assumption | exact va_up_self _ _ _ | refine (va_up_ne _ _ (by first | assumption | exact hA.ne (by decide) | exact hA.ne (by omega))).trans ?_)); done)) rfl aB ?_
    refine z_lret C hQ dX9_denominator_27 (by decide) (by decide) ?_
    obtain ⟨g1, g2⟩ := mOk0 hA hF1 cf1 e1 fa pa sa ea (show q_denominator (yS Y) rr bb pp ss = (0, _) by rw [q_denominator, mqR_t c1, mq2_t ⟨c2, c3⟩])
    exact ⟨_, rfl, g1, g2, fun _ => by rw [q_denominator, mqR_t c1, mq2_t ⟨c2, c3⟩]⟩
  · refine z_lconstZ (x := 0) C dX9_denominator_12 rfl ?_
    refine z_lret C hQ dX9_denominator_13 (by decide) (by decide) ?_
    obtain ⟨g1, g2, g3⟩ := mNo0 (q := q_denominator (yS Y) rr bb pp ss) hA hF cf1 ob1 cp1 e1 (z1.t h9) (mqR_1 (mq2_1 rfl))
    exact ⟨0, rfl, g1, g2, fun w => absurd w g3⟩
set_option maxHeartbeats 4000000 in
set_option maxRecDepth 100000 in
theorem m_probability {l : Launch} {γ : zG} {M : zM} {A : Nat → Nat} {Y : zSys} {t0 : Int} {rr bb pp ss : Int} (hMo0 : hMo γ M A Y t0) (hY : zOk (yS Y)) (r_rr : zR rr) (r_bb : zR bb) (r_pp : zR pp) (r_ss : zR ss) :
    zCon l γ yX9_probability cX9_probability 5 (some .double) [.ref (A 0), .int (zi rr), .int (zi bb), .int (zi pp), .int (zi ss)] M 10 330 0 0 (mAnsD γ A M Y (q_probability (yS Y) rr bb pp ss) (x_probability (yS Y) rr bb pp ss)) (fun _ _ => False) := by
  obtain ⟨hA, F, h8, hF⟩ := hMo0
  obtain ⟨hsc, hec, hun, hsl, hinp, hou, ⟨g, hM, hS⟩, hrs⟩ := id hF
  have hO := hsc.1
  have hg := hS.1
  have o1 := hY.1
  have z_rr := r_rr
  unfold zR at z_rr
  have z_bb := r_bb
  unfold zR at z_bb
  have z_pp := r_pp
  unfold zR at z_pp
  have z_ss := r_ss
  unfold zR at z_ss
  refine zEnter [some (.ref (A 0)), some (.int (zi rr)), some (.int (zi bb)), some (.int (zi pp)), some (.int (zi ss))] (by decide +kernel) rfl rfl (Nat.le_of_ble_eq_true rfl) ?_
  intro p e s m args below meth c Q C hin hQ
  refine z_aload_n C dX9_probability_0 rfl ?_
  refine z_iload_n C dX9_probability_1 rfl ?_
  refine z_iload_n C dX9_probability_2 rfl ?_
  refine z_iload_n C dX9_probability_3 rfl ?_
  refine z_iload C dX9_probability_4 rfl ?_
  refine z_callV C dX9_probability_6 lk_X9_331 mw_X9_noQuestion mi_X9_noQuestion ms_X9_noQuestion rfl (by first | assumption | ((repeat (first | assumption | exact va_up_self _ _ _ | refine (va_up_ne _ _ (by first | assumption | exact hA.ne (by decide) | exact hA.ne (by omega))).trans ?_)); done)) (k_X9_noQuestion hA hO hM hS hY r_rr r_bb r_pp r_ss) rfl (by first | decide | exact Nat.le_of_ble_eq_true rfl) ⟨by decide, by decide, by decide, by decide⟩ (fun _ _ h => False.elim h) (fun v M' hp => ?_)
  obtain ⟨r1, F1, rfl, f1, ob1, p1, e1, z1⟩ := hp
  have s1 := z1.rng
  have cf1 := f1
  have cp1 := p1
  have hM1 := cf1.at hA (.of rfl) hM
  refine z_if_eqZ (tgt := 14) C dX9_probability_9 (by decide) (by omega) (fun h9 => ?_) (fun h9 => ?_)
  · have t1 := Decidable.not_not.mp (z1.f h9)
    rw [t1] at e1
    obtain ⟨c1, c0⟩ := mqR_0 t1
    obtain ⟨⟨c2, c3⟩, -⟩ := mq2_0 c0
    obtain ⟨x1, x2, x3⟩ := zCv_x c2
    have x4 := c3
    unfold zSy at x4
    have hSr := hS.r c1
    have hF1 := hF.q0 hA cf1 ob1 cp1 rfl
    have hs1 := hF1.1
    have hc := (hY.2.2 rr.toNat (by omega)).1.2.2.1
    obtain ⟨e10, h10a⟩ := hrs.2.2.1
    have h10b := cf1.at hA (.of rfl) h10a
    have hTB := zcT_rng hc (b := bb) (p := pp) (me := rMe (sRd (yS Y) rr.toNat)) c3
    refine z_aload_n C dX9_probability_14 rfl ?_
    refine z_iload_n C dX9_probability_15 rfl ?_
    refine z_iload_n C dX9_probability_16 rfl ?_
    refine z_iload_n C dX9_probability_17 rfl ?_
    refine z_iload C dX9_probability_18 rfl ?_
    refine z_callV C dX9_probability_20 lk_X9_339 mw_X9_reckon mi_X9_reckon ms_X9_reckon rfl hs1.1 (k_X9_reckon hA hs1 h10b hM1 hg (r := rr) (by omega) x1 x2 x3 hSr.2.2.2.2 (fun x hx => sG_rng hx) hc x4 hSr.2.1 (hY.2.2 rr.toNat (by omega)).1.1) rfl (by first | decide | exact Nat.le_of_ble_eq_true rfl) ⟨by decide, by decide, by decide, by decide⟩ (fun _ _ h => False.elim h) (fun v M' hp => ?_)
    obtain ⟨rfl, fa, Fa, pa, sa, oa, ea, aT, aB, aE⟩ := hp
    refine z_aload_n C dX9_probability_23 rfl ?_
    refine z_getMJ C dX9_probability_24 fl_X9_152 (by first | assumption | ((repeat (first | assumption | exact va_up_self _ _ _ | refine (va_up_ne _ _ (by first | assumption | exact hA.ne (by decide) | exact hA.ne (by omega))).trans ?_)); done)) rfl aT ?_
    refine z_l2d C dX9_probability_27 ?_
    refine z_aload_n C dX9_probability_28 rfl ?_
    refine z_getMJ C dX9_probability_29 fl_X9_156 (by first | assumption | ((repeat (first | assumption | exact va_up_self _ _ _ | refine (va_up_ne _ _ (by first | assumption | exact hA.ne (by decide) | exact hA.ne (by omega))).trans ?_)); done)) rfl aB ?_
    refine z_l2d C dX9_probability_32 ?_
    refine z_ddiv C dX9_probability_33 (zddiv_l (by omega) (by omega)) ?_
    refine z_dret C hQ dX9_probability_34 (by decide) (by decide) ?_
    obtain ⟨g1, g2⟩ := mOk0 hA hF1 cf1 e1 fa pa sa ea (show q_probability (yS Y) rr bb pp ss = (0, _) by rw [q_probability, mqR_t c1, mq2_t ⟨c2, c3⟩])
    exact ⟨_, rfl, g1, g2, fun _ => rfl⟩
  · refine z_dconst C dX9_probability_12 ?_
    refine z_dret C hQ dX9_probability_13 (by decide) (by decide) ?_
    obtain ⟨g1, g2, g3⟩ := mNo0 (q := q_probability (yS Y) rr bb pp ss) hA hF cf1 ob1 cp1 e1 (z1.t h9) (mqR_1 (mq2_1 rfl))
    exact ⟨_, rfl, g1, g2, fun w => absurd w g3⟩
set_option maxHeartbeats 4000000 in
set_option maxRecDepth 100000 in
theorem m_codeLength {l : Launch} {γ : zG} {M : zM} {A : Nat → Nat} {Y : zSys} {t0 : Int} {rr bb pp ss : Int} (hMo0 : hMo γ M A Y t0) (hY : zOk (yS Y)) (r_rr : zR rr) (r_bb : zR bb) (r_pp : zR pp) (r_ss : zR ss) :
    zCon l γ yX9_codeLength cX9_codeLength 5 (some .int) [.ref (A 0), .int (zi rr), .int (zi bb), .int (zi pp), .int (zi ss)] M 10 330 0 0 (mAns γ A M Y (q_codeLength (yS Y) rr bb pp ss)) (fun _ _ => False) := by
  obtain ⟨hA, F, h8, hF⟩ := hMo0
  obtain ⟨hsc, hec, hun, hsl, hinp, hou, ⟨g, hM, hS⟩, hrs⟩ := id hF
  have hO := hsc.1
  have hg := hS.1
  have o1 := hY.1
  have z_rr := r_rr
  unfold zR at z_rr
  have z_bb := r_bb
  unfold zR at z_bb
  have z_pp := r_pp
  unfold zR at z_pp
  have z_ss := r_ss
  unfold zR at z_ss
  refine zEnter [some (.ref (A 0)), some (.int (zi rr)), some (.int (zi bb)), some (.int (zi pp)), some (.int (zi ss))] (by decide +kernel) rfl rfl (Nat.le_of_ble_eq_true rfl) ?_
  intro p e s m args below meth c Q C hin hQ
  refine z_aload_n C dX9_codeLength_0 rfl ?_
  refine z_iload_n C dX9_codeLength_1 rfl ?_
  refine z_iload_n C dX9_codeLength_2 rfl ?_
  refine z_iload_n C dX9_codeLength_3 rfl ?_
  refine z_iload C dX9_codeLength_4 rfl ?_
  refine z_callV C dX9_codeLength_6 lk_X9_331 mw_X9_noQuestion mi_X9_noQuestion ms_X9_noQuestion rfl (by first | assumption | ((repeat (first | assumption | exact va_up_self _ _ _ | refine (va_up_ne _ _ (by first | assumption | exact hA.ne (by decide) | exact hA.ne (by omega))).trans ?_)); done)) (k_X9_noQuestion hA hO hM hS hY r_rr r_bb r_pp r_ss) rfl (by first | decide | exact Nat.le_of_ble_eq_true rfl) ⟨by decide, by decide, by decide, by decide⟩ (fun _ _ h => False.elim h) (fun v M' hp => ?_)
  obtain ⟨r1, F1, rfl, f1, ob1, p1, e1, z1⟩ := hp
  have s1 := z1.rng
  have cf1 := f1
  have cp1 := p1
  have hM1 := cf1.at hA (.of rfl) hM
  refine z_if_eqZ (tgt := 14) C dX9_codeLength_9 (by decide) (by omega) (fun h9 => ?_) (fun h9 => ?_)
  · have t1 := Decidable.not_not.mp (z1.f h9)
    rw [t1] at e1
    obtain ⟨c1, c0⟩ := mqR_0 t1
    obtain ⟨⟨c2, c3⟩, -⟩ := mq2_0 c0
    obtain ⟨x1, x2, x3⟩ := zCv_x c2
    have x4 := c3
    unfold zSy at x4
    have hSr := hS.r c1
    have hF1 := hF.q0 hA cf1 ob1 cp1 rfl
    have hs1 := hF1.1
    have hc := (hY.2.2 rr.toNat (by omega)).1.2.2.1
    obtain ⟨e10, h10a⟩ := hrs.2.2.1
    have h10b := cf1.at hA (.of rfl) h10a
    have hTB := zcT_rng hc (b := bb) (p := pp) (me := rMe (sRd (yS Y) rr.toNat)) c3
    refine z_aload_n C dX9_codeLength_14 rfl ?_
    refine z_iload_n C dX9_codeLength_15 rfl ?_
    refine z_iload_n C dX9_codeLength_16 rfl ?_
    refine z_iload_n C dX9_codeLength_17 rfl ?_
    refine z_iload C dX9_codeLength_18 rfl ?_
    refine z_callV C dX9_codeLength_20 lk_X9_339 mw_X9_reckon mi_X9_reckon ms_X9_reckon rfl hs1.1 (k_X9_reckon hA hs1 h10b hM1 hg (r := rr) (by omega) x1 x2 x3 hSr.2.2.2.2 (fun x hx => sG_rng hx) hc x4 hSr.2.1 (hY.2.2 rr.toNat (by omega)).1.1) rfl (by first | decide | exact Nat.le_of_ble_eq_true rfl) ⟨by decide, by decide, by decide, by decide⟩ (fun _ _ h => False.elim h) (fun v M' hp => ?_)
    obtain ⟨rfl, fa, Fa, pa, sa, oa, ea, aT, aB, aE⟩ := hp
    refine z_aload_n C dX9_codeLength_23 rfl ?_
    refine z_callV C dX9_codeLength_24 lk_X9_342 mw_X9_codeBits mi_X9_codeBits ms_X9_codeBits rfl oa (k_X9_codeBits oa aT aB hTB.1 hTB.2) rfl (by first | decide | exact Nat.le_of_ble_eq_true rfl) ⟨by decide, by decide, by decide, by decide⟩ (fun _ _ h => False.elim h) (fun v M' hp => ?_)
    obtain ⟨rfl, rfl⟩ := hp
    refine z_iret C hQ dX9_codeLength_27 rfl (by decide) (by decide) ?_
    exact mAns.k hA hF1 cf1 e1 fa pa sa ea (by rw [q_codeLength, mqR_t c1, mq2_t ⟨c2, c3⟩]) rfl
  · refine z_iconst C dX9_codeLength_12 ?_
    refine z_iret C hQ dX9_codeLength_13 rfl (by decide) (by decide) ?_
    exact mAns.no hA hF cf1 ob1 cp1 e1 (z1.t h9) (mqR_1 (mq2_1 rfl))

