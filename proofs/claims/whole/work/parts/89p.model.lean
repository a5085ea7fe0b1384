/-! the model's output: bytes and symbols -/
theorem zi_i8 {x : Int} (h : 0 ≤ x ∧ x ≤ 127) : (zi x).toInt8.toInt32 = zi x ∧ vp_nar .byte (zi x) = zi x := by
  have k : ∀ k : Fin 128, (zi (k.val : Int)).toInt8.toInt32 = zi (k.val : Int) ∧ vp_nar .byte (zi (k.val : Int)) = zi (k.val : Int) := by decide +kernel
  have := k ⟨x.toNat, by omega⟩
  rwa [show ((x.toNat : Nat) : Int) = x by omega] at this
section ZM3
variable {p : Program} {l : Launch} {e : Env} {R : Room} {s : State} {m : MethodId} {args : Array Value} {below : List Frame} {meth : Method} {c : Code} {γ : zG} {cc : ByteArray} {nL : Nat} {ret : Option FieldType} {own : String} {xt : List ExceptionTableEntry} {Q : State → Prop} {M : zM} {k n pc : Nat} {L : zL} {st : List Value}
abbrev zab (γ : zG) (N : Nat) (g : Nat → Int) : va_E := zaB γ N (fun j => zi (g j))
theorem z_i2bZ (C : zC p l s m args meth c γ cc nL ret own xt) {x : Int} (hd : decode cc pc = .ok (.i2b, 1)) (hx : 0 ≤ x ∧ x ≤ 127) (kk : zAW p l e R s m args below meth c γ nL Q M k n (pc + 1) L (.int (zi x) :: st)) : zAW p l e R s m args below meth c γ nL Q M k n pc L (.int (zi x) :: st) := z_i2b C hd (by rw [(zi_i8 hx).1]; exact kk)
theorem z_aldBi (C : zC p l s m args meth c γ cc nL ret own xt) {a N : Nat} {g : Nat → Int} {i : Int} (hd : decode cc pc = .ok (.baload, 1)) (hM : M a = some (zab γ N g)) (hi : 0 ≤ i ∧ i < N) (hN : N ≤ 2147483648) (kk : zAW p l e R s m args below meth c γ nL Q M k n (pc + 1) L (.int (zi (g i.toNat)) :: st)) : zAW p l e R s m args below meth c γ nL Q M k n pc L (.int (zi i) :: .ref a :: st) := z_aldB C hd hM hi hN kk
theorem z_astBi (C : zC p l s m args meth c γ cc nL ret own xt) {a N : Nat} {g : Nat → Int} {i x : Int} (hd : decode cc pc = .ok (.bastore, 1)) (hM : M a = some (zab γ N g)) (hi : 0 ≤ i ∧ i < N) (hN : N ≤ 2147483648) (hx : 0 ≤ x ∧ x ≤ 127) (kk : zAW p l e R s m args below meth c γ nL Q (va_up M a (some (zab γ N (va_up g i.toNat x)))) k n (pc + 1) L st) : zAW p l e R s m args below meth c γ nL Q M k n pc L (.int (zi x) :: .int (zi i) :: .ref a :: st) := by
  refine z_astB C hd hM hi hN ?_
  have : (fun j => zi (va_up g i.toNat x j)) = va_up (fun j => zi (g j)) i.toNat (vp_nar .byte (zi x)) := by
    rw [(zi_i8 hx).2]
    funext j
    unfold va_up
    split <;> rfl
  rw [← this]
  exact kk
end ZM3
set_option maxHeartbeats 4000000 in
set_option maxRecDepth 100000 in
theorem k_X9_print {l : Launch} {γ : zG} {M : zM} {A : Nat → Nat} {F h : Nat → Int} {n x : Int} (hA : mIA A) (hO : M (A 0) = some (mOb A F)) (hH : M (A 13) = some (zab γ 200 h)) (hn : F 29 = n) (hb : 0 ≤ n ∧ n < 200) (hx : 0 ≤ x ∧ x ≤ 127) :
    zCon l γ yX9_print cX9_print 2 none [.ref (A 0), .int (zi x)] M 0 0 0 0 (fun v' M' => v' = none ∧ mF A M M' [0, 13] ∧ M' (A 0) = some (mOb A (va_up F 29 (n + 1))) ∧ M' (A 13) = some (zab γ 200 (va_up h n.toNat x))) (fun _ _ => False) := by
  refine zEnter [some (.ref (A 0)), some (.int (zi x))] (by decide +kernel) rfl rfl (Nat.le_of_ble_eq_true rfl) ?_
  intro p e s m args below meth c Q C hin hQ
  refine z_aload_n C dX9_print_0 rfl ?_
  refine z_get C dX9_print_1 fl_X9_52 (by first | assumption | ((repeat (first | assumption | exact va_up_self _ _ _ | refine (va_up_ne _ _ (by first | assumption | exact hA.ne (by decide) | exact hA.ne (by omega))).trans ?_)); done)) rfl ?_
  refine z_aload_n C dX9_print_4 rfl ?_
  refine z_getM C dX9_print_5 fl_X9_364 (by first | assumption | ((repeat (first | assumption | exact va_up_self _ _ _ | refine (va_up_ne _ _ (by first | assumption | exact hA.ne (by decide) | exact hA.ne (by omega))).trans ?_)); done)) rfl (by first | assumption | ((repeat (first | assumption | exact va_up_self _ _ _ | rewrite [va_up_ne _ _ (by decide)])); (first | done | exact rfl))) ?_
  refine z_iload_n C dX9_print_8 rfl ?_
  refine z_i2bZ C dX9_print_9 hx ?_
  refine z_astBi C dX9_print_10 hH (by omega) (by omega) hx ?_
  refine z_aload_n C dX9_print_11 rfl ?_
  refine z_dup C dX9_print_12 rfl ?_
  refine z_getM C dX9_print_13 fl_X9_364 (by first | assumption | ((repeat (first | assumption | exact va_up_self _ _ _ | refine (va_up_ne _ _ (by first | assumption | exact hA.ne (by decide) | exact hA.ne (by omega))).trans ?_)); done)) rfl (by first | assumption | ((repeat (first | assumption | exact va_up_self _ _ _ | rewrite [va_up_ne _ _ (by decide)])); (first | done | exact rfl))) ?_
  refine z_iconst C dX9_print_16 ?_
  refine z_iaddZ C dX9_print_17 ?_
  refine z_putM C dX9_print_18 fl_X9_364 (by first | assumption | ((repeat (first | assumption | exact va_up_self _ _ _ | refine (va_up_ne _ _ (by first | assumption | exact hA.ne (by decide) | exact hA.ne (by omega))).trans ?_)); done)) rfl ?_
  refine z_vret C hQ dX9_print_21 (by decide) (by decide) ?_
  refine ⟨rfl, (mF.rf.up rfl).up rfl, va_up_self _ _ _, ?_⟩
  rw [va_up_ne _ _ (hA.ne (by decide))]
  exact va_up_self _ _ _
set_option maxHeartbeats 4000000 in
set_option maxRecDepth 100000 in
theorem k_X9_printSymbol {l : Launch} {γ : zG} {M : zM} {A : Nat → Nat} {F h : Nat → Int} {n x : Int} (hA : mIA A) (hO : M (A 0) = some (mOb A F)) (hH : M (A 13) = some (zab γ 200 h)) (hn : F 29 = n) (hb : 0 ≤ n ∧ n < 200) (hx : 0 ≤ x ∧ x < 27) :
    zCon l γ yX9_printSymbol cX9_printSymbol 2 none [.ref (A 0), .int (zi x)] M 1 21 0 0 (fun v' M' => v' = none ∧ mF A M M' [0, 13] ∧ M' (A 0) = some (mOb A (va_up F 29 (n + 1))) ∧ M' (A 13) = some (zab γ 200 (va_up h n.toNat (zbc x)))) (fun _ _ => False) := by
  have hz : zbc x = if x = 26 then 95 else 97 + x := rfl
  refine zEnter [some (.ref (A 0)), some (.int (zi x))] (by decide +kernel) rfl rfl (Nat.le_of_ble_eq_true rfl) ?_
  intro p e s m args below meth c Q C hin hQ
  refine z_aload_n C dX9_printSymbol_0 rfl ?_
  refine z_iload_n C dX9_printSymbol_1 rfl ?_
  refine z_bipush C dX9_printSymbol_2 (by decide) ?_
  refine z_icmp_neZ (tgt := 12) C dX9_printSymbol_4 (by decide) (by omega) (by omega) (fun h4 => ?_) (fun h4 => ?_)
  · refine z_bipush C dX9_printSymbol_12 (by decide) ?_
    refine z_iload_n C dX9_printSymbol_14 rfl ?_
    refine z_iaddZ C dX9_printSymbol_15 ?_
    refine z_callV C dX9_printSymbol_16 lk_X9_367 mw_X9_print mi_X9_print ms_X9_print rfl (by first | assumption | ((repeat (first | assumption | exact va_up_self _ _ _ | refine (va_up_ne _ _ (by first | assumption | exact hA.ne (by decide) | exact hA.ne (by omega))).trans ?_)); done)) (k_X9_print hA hO hH hn hb (x := 97 + x) (by omega)) rfl (by first | decide | exact Nat.le_of_ble_eq_true rfl) ⟨by decide, by decide, by decide, by decide⟩ (fun _ _ h => False.elim h) (fun v M' hp => ?_)
    obtain ⟨rfl, f1, o1, h1⟩ := hp
    refine z_vret C hQ dX9_printSymbol_19 (by decide) (by decide) ?_
    exact ⟨rfl, f1, o1, by rw [hz, if_neg (by omega)]; exact h1⟩
  · refine z_bipush C dX9_printSymbol_7 (by decide) ?_
    refine z_goto (tgt := 16) C dX9_printSymbol_9 (by decide) ?_
    refine z_callV C dX9_printSymbol_16 lk_X9_367 mw_X9_print mi_X9_print ms_X9_print rfl (by first | assumption | ((repeat (first | assumption | exact va_up_self _ _ _ | refine (va_up_ne _ _ (by first | assumption | exact hA.ne (by decide) | exact hA.ne (by omega))).trans ?_)); done)) (k_X9_print hA hO hH hn hb (x := 95) (by omega)) rfl (by first | decide | exact Nat.le_of_ble_eq_true rfl) ⟨by decide, by decide, by decide, by decide⟩ (fun _ _ h => False.elim h) (fun v M' hp => ?_)
    obtain ⟨rfl, f1, o1, h1⟩ := hp
    refine z_vret C hQ dX9_printSymbol_19 (by decide) (by decide) ?_
    exact ⟨rfl, f1, o1, by rw [hz, if_pos (by omega)]; exact h1⟩
set_option maxHeartbeats 4000000 in
set_option maxRecDepth 100000 in
theorem k_X9_begin {l : Launch} {γ : zG} {M : zM} {A : Nat → Nat} {F : Nat → Int} (hO : M (A 0) = some (mOb A F)) :
    zCon l γ yX9_begin cX9_begin 1 none [.ref (A 0)] M 0 0 0 0 (fun v' M' => v' = none ∧ mF A M M' [0] ∧ ∃ F', M' (A 0) = some (mOb A F') ∧ mKp [29, 31, 32] F F' ∧ F' 29 = 0 ∧ F' 31 = -1 ∧ F' 32 = -1) (fun _ _ => False) := by
  refine zEnter [some (.ref (A 0))] (by decide +kernel) rfl rfl (Nat.le_of_ble_eq_true rfl) ?_
  intro p e s m args below meth c Q C hin hQ
  refine z_aload_n C dX9_begin_0 rfl ?_
  refine z_iconst C dX9_begin_1 ?_
  refine z_putM C dX9_begin_2 fl_X9_364 (by first | assumption | ((repeat (first | assumption | exact va_up_self _ _ _ | refine (va_up_ne _ _ (by first | assumption | exact hA.ne (by decide) | exact hA.ne (by omega))).trans ?_)); done)) rfl ?_
  refine z_aload_n C dX9_begin_5 rfl ?_
  refine z_iconst C dX9_begin_6 ?_
  refine z_putM C dX9_begin_7 fl_X9_370 (by first | assumption | ((repeat (first | assumption | exact va_up_self _ _ _ | refine (va_up_ne _ _ (by first | assumption | exact hA.ne (by decide) | exact hA.ne (by omega))).trans ?_)); done)) rfl ?_
  refine z_aload_n C dX9_begin_10 rfl ?_
  refine z_iconst C dX9_begin_11 ?_
  refine z_putM C dX9_begin_12 fl_X9_373 (by first | assumption | ((repeat (first | assumption | exact va_up_self _ _ _ | refine (va_up_ne _ _ (by first | assumption | exact hA.ne (by decide) | exact hA.ne (by omega))).trans ?_)); done)) rfl ?_
  refine z_vret C hQ dX9_begin_15 (by decide) (by decide) ?_
  refine ⟨rfl, ((mF.rf.up rfl).up rfl).up rfl, _, va_up_self _ _ _, ((mKp.rf.up rfl).up rfl).up rfl, ?_, ?_, va_up_self _ _ _⟩
  · rw [va_up_ne _ _ (by decide), va_up_ne _ _ (by decide), va_up_self]
  · rw [va_up_ne _ _ (by decide), va_up_self]
set_option maxHeartbeats 4000000 in
set_option maxRecDepth 100000 in
theorem k_X9_write {l : Launch} {γ : zG} {M : zM} {A : Nat → Nat} {F g h : Nat → Int} {r b0 p0 k n : Int} {c0 : Int → Int} {G : List Int} (hA : mIA A) (hO : mSc γ M A F) (hM : M (A 1) = some (zar γ 5987 g)) (hg : ∀ j, zR (g j)) (hr : 0 ≤ r ∧ r < 4) (e31 : F 31 = b0) (e32 : F 32 = p0) (hb : -1 ≤ b0 ∧ b0 < 27) (hp0 : -1 ≤ p0 ∧ p0 < 27) (hv : b0 ≠ -1 → p0 ≠ -1) (hL : mRp g r c0 G) (hG : ∀ x, x ∈ G → 0 ≤ x ∧ x < 20439) (hc : zcR c0) (hk : 1 ≤ k ∧ k ≤ 27) (hH : M (A 13) = some (zab γ 200 h)) (hn : F 29 = n) (hnb : 0 ≤ n ∧ n < 200) :
    zCon l γ yX9_write cX9_write 3 none [.ref (A 0), .int (zi r), .int (zi k)] M 4 98 0 0 (fun v' M' => v' = none ∧ (0 ≤ zgs c0 b0 p0 k ∧ zgs c0 b0 p0 k < 27) ∧ mF A M M' [0, 7, 8, 9, 13] ∧ ∃ F', mKp [10, 13, 29, 31, 32] F F' ∧ mSc γ M' A F' ∧ F' 29 = n + 1 ∧ F' 31 = p0 ∧ F' 32 = zgs c0 b0 p0 k ∧ M' (A 13) = some (zab γ 200 (va_up h n.toNat (zbc (zgs c0 b0 p0 k))))) (fun _ _ => False) := by
  have hO0 := hO.1
  refine zEnter [some (.ref (A 0)), some (.int (zi r)), some (.int (zi k))] (by decide +kernel) rfl rfl (Nat.le_of_ble_eq_true rfl) ?_
  intro p e s m args below meth c Q C hin hQ
  refine z_aload_n C dX9_write_0 rfl ?_
  refine z_aload_n C dX9_write_1 rfl ?_
  refine z_get C dX9_write_2 fl_X9_7 (by first | assumption | ((repeat (first | assumption | exact va_up_self _ _ _ | refine (va_up_ne _ _ (by first | assumption | exact hA.ne (by decide) | exact hA.ne (by omega))).trans ?_)); done)) rfl ?_
  refine z_iload_n C dX9_write_5 rfl ?_
  refine z_aload_n C dX9_write_6 rfl ?_
  refine z_getM C dX9_write_7 fl_X9_370 (by first | assumption | ((repeat (first | assumption | exact va_up_self _ _ _ | refine (va_up_ne _ _ (by first | assumption | exact hA.ne (by decide) | exact hA.ne (by omega))).trans ?_)); done)) rfl (by first | assumption | ((repeat (first | assumption | exact va_up_self _ _ _ | rewrite [va_up_ne _ _ (by decide)])); (first | done | exact rfl))) ?_
  refine z_aload_n C dX9_write_10 rfl ?_
  refine z_getM C dX9_write_11 fl_X9_373 (by first | assumption | ((repeat (first | assumption | exact va_up_self _ _ _ | refine (va_up_ne _ _ (by first | assumption | exact hA.ne (by decide) | exact hA.ne (by omega))).trans ?_)); done)) rfl (by first | assumption | ((repeat (first | assumption | exact va_up_self _ _ _ | rewrite [va_up_ne _ _ (by decide)])); (first | done | exact rfl))) ?_
  refine z_callV C dX9_write_14 lk_X9_145 mw_X9_rankAll mi_X9_rankAll ms_X9_rankAll rfl (by first | assumption | ((repeat (first | assumption | exact va_up_self _ _ _ | refine (va_up_ne _ _ (by first | assumption | exact hA.ne (by decide) | exact hA.ne (by omega))).trans ?_)); done)) (k_X9_rankAll hA hO (kq := 1) (.inl rfl) hM hg hr hb hp0 hv hL hG hc) rfl (by first | decide | exact Nat.le_of_ble_eq_true rfl) ⟨by decide, by decide, by decide, by decide⟩ (fun _ _ h => False.elim h) (fun v M' hp => ?_)
  obtain ⟨rfl, fa, Fa, pa, sa, ⟨ra, ra1, ra2, ra3⟩, rb, rb1, rb2, rb3⟩ := hp
  have oa := sa.1
  have a32 : Fa 32 = p0 := (pa 32 (by decide)).trans e32
  have a29 : Fa 29 = n := (pa 29 (by decide)).trans hn
  have h13 := fa.at hA (.of rfl) hH
  have gs := ra3.gs (i := (k - 1).toNat) (by omega)
  rw [show (((k - 1).toNat : Nat) : Int) + 1 = k by omega] at gs
  have gr := ra3.gs_rng (k := k) (by omega)
  refine z_aload_n C dX9_write_17 rfl ?_
  refine z_aload_n C dX9_write_18 rfl ?_
  refine z_getM C dX9_write_19 fl_X9_373 (by first | assumption | ((repeat (first | assumption | exact va_up_self _ _ _ | refine (va_up_ne _ _ (by first | assumption | exact hA.ne (by decide) | exact hA.ne (by omega))).trans ?_)); done)) rfl (by first | assumption | ((repeat (first | assumption | exact va_up_self _ _ _ | rewrite [va_up_ne _ _ (by decide)])); (first | done | exact rfl))) ?_
  refine z_putM C dX9_write_22 fl_X9_370 (by first | assumption | ((repeat (first | assumption | exact va_up_self _ _ _ | refine (va_up_ne _ _ (by first | assumption | exact hA.ne (by decide) | exact hA.ne (by omega))).trans ?_)); done)) rfl ?_
  refine z_aload_n C dX9_write_25 rfl ?_
  refine z_aload_n C dX9_write_26 rfl ?_
  refine z_get C dX9_write_27 fl_X9_33 (by first | assumption | ((repeat (first | assumption | exact va_up_self _ _ _ | refine (va_up_ne _ _ (by first | assumption | exact hA.ne (by decide) | exact hA.ne (by omega))).trans ?_)); done)) rfl ?_
  refine z_iload_n C dX9_write_30 rfl ?_
  refine z_iconst C dX9_write_31 ?_
  refine z_isubZ C dX9_write_32 ?_
  refine z_aldN C dX9_write_33 (by first | assumption | ((repeat (first | assumption | exact va_up_self _ _ _ | refine (va_up_ne _ _ (by first | assumption | exact hA.ne (by decide) | exact hA.ne (by omega))).trans ?_)); done)) (by omega) (by omega) ra2 (fun hr33 => ?_)
  rw [← gs]
  refine z_putM C dX9_write_34 fl_X9_373 (by first | assumption | ((repeat (first | assumption | exact va_up_self _ _ _ | refine (va_up_ne _ _ (by first | assumption | exact hA.ne (by decide) | exact hA.ne (by omega))).trans ?_)); done)) rfl ?_
  refine z_aload_n C dX9_write_37 rfl ?_
  refine z_aload_n C dX9_write_38 rfl ?_
  refine z_getM C dX9_write_39 fl_X9_373 (by first | assumption | ((repeat (first | assumption | exact va_up_self _ _ _ | refine (va_up_ne _ _ (by first | assumption | exact hA.ne (by decide) | exact hA.ne (by omega))).trans ?_)); done)) rfl (va_up_self _ _ _) ?_
  refine z_callV C dX9_write_42 lk_X9_376 mw_X9_printSymbol mi_X9_printSymbol ms_X9_printSymbol rfl (by first | assumption | ((repeat (first | assumption | exact va_up_self _ _ _ | refine (va_up_ne _ _ (by first | assumption | exact hA.ne (by decide) | exact hA.ne (by omega))).trans ?_)); done)) (k_X9_printSymbol hA (va_up_self _ _ _) (h := h) (by rw [va_up_ne _ _ (hA.ne (by decide)), va_up_ne _ _ (hA.ne (by decide))]; exact h13) (n := n) (by rw [va_up_ne _ _ (by decide), va_up_ne _ _ (by decide)]; exact a29) hnb gr) rfl (by first | decide | exact Nat.le_of_ble_eq_true rfl) ⟨by decide, by decide, by decide, by decide⟩ (fun _ _ h => False.elim h) (fun v M' hp => ?_)
  obtain ⟨rfl, f42, o42, h42⟩ := hp
  refine z_vret C hQ dX9_write_45 (by decide) (by decide) ?_
  have fz := (((mF.rf (K := [0])).up (i := 0) rfl).up (i := 0) (K := [0]) (x := some (mOb A (va_up (va_up Fa 31 p0) 32 (zgs c0 b0 p0 k)))) rfl).tr (K := [0, 13]) f42 ⟨rfl, rfl⟩
  have kz : mKp [10, 13, 29, 31, 32] F (va_up (va_up (va_up Fa 31 p0) 32 (zgs c0 b0 p0 k)) 29 (n + 1)) := ((pa.tr (K := [10, 13, 29, 31, 32]) (((mKp.rf (K := [29, 31, 32])).up (i := 31) rfl).up (i := 32) rfl |>.up (i := 29) rfl) ⟨rfl, rfl⟩))
  obtain ⟨s0, ⟨s7, b1, b2⟩, ⟨s8, c1, c2⟩, s9, d1, d2⟩ := sa
  refine ⟨rfl, gr, fa.tr (K := [0, 7, 8, 9, 13]) fz ⟨rfl, rfl⟩, _, kz, ⟨o42, ⟨s7, fz.at hA (.of rfl) b1, b2⟩, ⟨s8, fz.at hA (.of rfl) c1, c2⟩, s9, fz.at hA (.of rfl) d1, d2⟩, va_up_self _ _ _, ?_, ?_, h42⟩
  · rw [va_up_ne _ _ (by decide), va_up_ne _ _ (by decide), va_up_self]
  · rw [va_up_ne _ _ (by decide), va_up_self]

