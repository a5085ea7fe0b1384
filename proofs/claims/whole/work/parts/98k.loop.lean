/-! the law's switch and loop -/
section ZM9
variable {p : Program} {l : Launch} {e : Env} {R : Room} {s : State} {m : MethodId} {args : Array Value} {below : List Frame} {meth : Method} {c : Code} {γ : zG} {cc : ByteArray} {nL : Nat} {ret : Option FieldType} {own : String} {xt : List ExceptionTableEntry} {Q : State → Prop} {M : zM} {k n pc : Nat} {L : zL} {st : List Value}
theorem z_tabIn (C : zC p l s m args meth c γ cc nL ret own xt) {dflt lo hi : Int} {offs : Array Int} {len : Nat} {x : Int32} {off : Int} {tgt : Nat} (hd : decode cc pc = .ok (.tableswitch dflt lo hi offs, len)) (h1 : ¬ x.toInt < lo) (h2 : ¬ hi < x.toInt) (ho : offs[(x.toInt - lo).toNat]? = some off) (ht : (pc : Int) + off = (tgt : Int)) (kk : zAW p l e R s m args below meth c γ nL Q M k n tgt L st) : zAW p l e R s m args below meth c γ nL Q M k n pc L (.int x :: st) := by
  intro H locs ls hH hl hL hz
  exact lv_tableIn C.ex C.by hd h1 h2 ho ht (kk H locs ls hH hl hL hz)
theorem z_tabOut (C : zC p l s m args meth c γ cc nL ret own xt) {dflt lo hi : Int} {offs : Array Int} {len : Nat} {x : Int32} {tgt : Nat} (hd : decode cc pc = .ok (.tableswitch dflt lo hi offs, len)) (h : x.toInt < lo ∨ hi < x.toInt) (ht : (pc : Int) + dflt = (tgt : Int)) (kk : zAW p l e R s m args below meth c γ nL Q M k n tgt L st) : zAW p l e R s m args below meth c γ nL Q M k n pc L (.int x :: st) := by
  intro H locs ls hH hl hL hz
  exact lv_tableOut C.ex C.by hd h ht (kk H locs ls hH hl hL hz)
end ZM9
theorem z_a63 (x : Int32) : ∃ t : Nat, t < 64 ∧ x &&& zi 63 = zi (t : Int) := by
  refine ⟨x.toBitVec.toNat % 64, Nat.mod_lt _ (by decide), ?_⟩
  apply Int32.toBitVec.inj
  apply BitVec.eq_of_toNat_eq
  have e1 : (x &&& zi 63).toBitVec = x.toBitVec &&& 63#32 := rfl
  rw [e1, BitVec.toNat_and]
  have e2 : (zi ((x.toBitVec.toNat % 64 : Nat) : Int)).toBitVec = BitVec.ofInt 32 ((x.toBitVec.toNat % 64 : Nat) : Int) := rfl
  rw [e2, BitVec.toNat_ofInt]
  have e3 : x.toBitVec.toNat &&& (63#32).toNat = x.toBitVec.toNat % 64 := Nat.and_two_pow_sub_one_eq_mod x.toBitVec.toNat 6
  rw [e3]
  have := Nat.mod_lt x.toBitVec.toNat (show 0 < 64 by decide)
  show x.toBitVec.toNat % 64 = (((x.toBitVec.toNat % 64 : Nat) : Int) % ((2 ^ 32 : Nat) : Int)).toNat
  omega
section CSk
variable {p : Program} {l : Launch} {e : Env} {s : State} {m : MethodId} {args : Array Value} {below : List Frame} {meth : Method} {c : Code} {γ : zG} {Q : State → Prop} {M : zM} {k n : Nat} {xt : List ExceptionTableEntry}
set_option maxHeartbeats 4000000 in
set_option maxRecDepth 100000 in
theorem law_sw (C : zC p l s m args meth c γ cL_law 9 (some .boolean) RL xt) {b N : Nat} {ys : Nat → Int} (hXs : va_X b N (fun j => zi (ys j)) s s.heap) (hbs : b < γ.2.1.size) (hN : N ≤ 3072) (hys : ∀ j, zR (ys j)) {U A : Nat → Nat} {Y : zSys} {th : Int} {o d : Nat} (J : zJ3 γ M U A Y th o d) {i : Int} (hi : 0 ≤ i ∧ i + 6 ≤ N) (hkn : k + 4 ≤ 601024 ∧ n + 24 ≤ 7293034) (x : Int32) (next : ∀ M' Y' th', zJ3 γ M' U A Y' th' o d → zAW p l e room_1 s m args below meth c γ 9 Q M' (k + 4) (n + 24) 4249 [some (.ref b), some (.ref (U 0)), some (.ref (A 0)), some (.ref o), some (.ref d), some (.int (zi i)), none, none, none] []) : zAW p l e room_1 s m args below meth c γ 9 Q M k n 45 [some (.ref b), some (.ref (U 0)), some (.ref (A 0)), some (.ref o), some (.ref d), some (.int (zi i)), none, none, none] [.int (x &&& zi 63)] := by
  obtain ⟨t, ht, e1⟩ := z_a63 x
  rw [e1]
  match t, ht with
  | 0, _ => exact z_tabIn (off := 263) (tgt := 308) C dL_law_45 (by decide) (by decide) (by decide) (by decide) (cs_appendInput C hXs hbs hN hys J hi hkn next)
  | 1, _ => exact z_tabIn (off := 367) (tgt := 412) C dL_law_45 (by decide) (by decide) (by decide) (by decide) (cs_truncateInput C hXs hbs hN hys J hi hkn next)
  | 2, _ => exact z_tabIn (off := 423) (tgt := 468) C dL_law_45 (by decide) (by decide) (by decide) (by decide) (cs_load C hXs hbs hN hys J hi hkn next)
  | 3, _ => exact z_tabIn (off := 467) (tgt := 512) C dL_law_45 (by decide) (by decide) (by decide) (by decide) (cs_errorCode C hXs hbs hN hys J hi hkn next)
  | 4, _ => exact z_tabIn (off := 480) (tgt := 525) C dL_law_45 (by decide) (by decide) (by decide) (by decide) (cs_errorPosition C hXs hbs hN hys J hi hkn next)
  | 5, _ => exact z_tabIn (off := 493) (tgt := 538) C dL_law_45 (by decide) (by decide) (by decide) (by decide) (cs_year C hXs hbs hN hys J hi hkn next)
  | 6, _ => exact z_tabIn (off := 506) (tgt := 551) C dL_law_45 (by decide) (by decide) (by decide) (by decide) (cs_readerCount C hXs hbs hN hys J hi hkn next)
  | 7, _ => exact z_tabIn (off := 519) (tgt := 564) C dL_law_45 (by decide) (by decide) (by decide) (by decide) (cs_readerNameByte C hXs hbs hN hys J hi hkn next)
  | 8, _ => exact z_tabIn (off := 587) (tgt := 632) C dL_law_45 (by decide) (by decide) (by decide) (by decide) (cs_escapeMethod C hXs hbs hN hys J hi hkn next)
  | 9, _ => exact z_tabIn (off := 643) (tgt := 688) C dL_law_45 (by decide) (by decide) (by decide) (by decide) (cs_documentCount C hXs hbs hN hys J hi hkn next)
  | 10, _ => exact z_tabIn (off := 656) (tgt := 701) C dL_law_45 (by decide) (by decide) (by decide) (by decide) (cs_documentLength C hXs hbs hN hys J hi hkn next)
  | 11, _ => exact z_tabIn (off := 712) (tgt := 757) C dL_law_45 (by decide) (by decide) (by decide) (by decide) (cs_documentSymbol C hXs hbs hN hys J hi hkn next)
  | 12, _ => exact z_tabIn (off := 780) (tgt := 825) C dL_law_45 (by decide) (by decide) (by decide) (by decide) (cs_documentYear C hXs hbs hN hys J hi hkn next)
  | 13, _ => exact z_tabIn (off := 836) (tgt := 881) C dL_law_45 (by decide) (by decide) (by decide) (by decide) (cs_countOrder0 C hXs hbs hN hys J hi hkn next)
  | 14, _ => exact z_tabIn (off := 904) (tgt := 949) C dL_law_45 (by decide) (by decide) (by decide) (by decide) (cs_countOrder1 C hXs hbs hN hys J hi hkn next)
  | 15, _ => exact z_tabIn (off := 984) (tgt := 1029) C dL_law_45 (by decide) (by decide) (by decide) (by decide) (cs_countOrder2 C hXs hbs hN hys J hi hkn next)
  | 16, _ => exact z_tabIn (off := 1076) (tgt := 1121) C dL_law_45 (by decide) (by decide) (by decide) (by decide) (cs_contextTotal C hXs hbs hN hys J hi hkn next)
  | 17, _ => exact z_tabIn (off := 1156) (tgt := 1201) C dL_law_45 (by decide) (by decide) (by decide) (by decide) (cs_contextSymbols C hXs hbs hN hys J hi hkn next)
  | 18, _ => exact z_tabIn (off := 1236) (tgt := 1281) C dL_law_45 (by decide) (by decide) (by decide) (by decide) (cs_order2Contexts C hXs hbs hN hys J hi hkn next)
  | 19, _ => exact z_tabIn (off := 1292) (tgt := 1337) C dL_law_45 (by decide) (by decide) (by decide) (by decide) (cs_positiveCounts C hXs hbs hN hys J hi hkn next)
  | 20, _ => exact z_tabIn (off := 1348) (tgt := 1393) C dL_law_45 (by decide) (by decide) (by decide) (by decide) (cs_timesTrained C hXs hbs hN hys J hi hkn next)
  | 21, _ => exact z_tabIn (off := 1416) (tgt := 1461) C dL_law_45 (by decide) (by decide) (by decide) (by decide) (cs_trainedSymbols C hXs hbs hN hys J hi hkn next)
  | 22, _ => exact z_tabIn (off := 1472) (tgt := 1517) C dL_law_45 (by decide) (by decide) (by decide) (by decide) (cs_trainingGap C hXs hbs hN hys J hi hkn next)
  | 23, _ => exact z_tabIn (off := 1528) (tgt := 1573) C dL_law_45 (by decide) (by decide) (by decide) (by decide) (cs_symbolAtRank C hXs hbs hN hys J hi hkn next)
  | 24, _ => exact z_tabIn (off := 1620) (tgt := 1665) C dL_law_45 (by decide) (by decide) (by decide) (by decide) (cs_rank C hXs hbs hN hys J hi hkn next)
  | 25, _ => exact z_tabIn (off := 1712) (tgt := 1757) C dL_law_45 (by decide) (by decide) (by decide) (by decide) (cs_foundOrder C hXs hbs hN hys J hi hkn next)
  | 26, _ => exact z_tabIn (off := 1804) (tgt := 1849) C dL_law_45 (by decide) (by decide) (by decide) (by decide) (cs_escapes C hXs hbs hN hys J hi hkn next)
  | 27, _ => exact z_tabIn (off := 1896) (tgt := 1941) C dL_law_45 (by decide) (by decide) (by decide) (by decide) (cs_numerator C hXs hbs hN hys J hi hkn next)
  | 28, _ => exact z_tabIn (off := 1987) (tgt := 2032) C dL_law_45 (by decide) (by decide) (by decide) (by decide) (cs_denominator C hXs hbs hN hys J hi hkn next)
  | 29, _ => exact z_tabIn (off := 2078) (tgt := 2123) C dL_law_45 (by decide) (by decide) (by decide) (by decide) (cs_probability C hXs hbs hN hys J hi hkn next)
  | 30, _ => exact z_tabIn (off := 2191) (tgt := 2236) C dL_law_45 (by decide) (by decide) (by decide) (by decide) (cs_codeLength C hXs hbs hN hys J hi hkn next)
  | 31, _ => exact z_tabIn (off := 2283) (tgt := 2328) C dL_law_45 (by decide) (by decide) (by decide) (by decide) (cs_rankAt C hXs hbs hN hys J hi hkn next)
  | 32, _ => exact z_tabIn (off := 2363) (tgt := 2408) C dL_law_45 (by decide) (by decide) (by decide) (by decide) (cs_totalGuesses C hXs hbs hN hys J hi hkn next)
  | 33, _ => exact z_tabIn (off := 2431) (tgt := 2476) C dL_law_45 (by decide) (by decide) (by decide) (by decide) (cs_adaptiveGuesses C hXs hbs hN hys J hi hkn next)
  | 34, _ => exact z_tabIn (off := 2499) (tgt := 2544) C dL_law_45 (by decide) (by decide) (by decide) (by decide) (cs_firstGuessHits C hXs hbs hN hys J hi hkn next)
  | 35, _ => exact z_tabIn (off := 2567) (tgt := 2612) C dL_law_45 (by decide) (by decide) (by decide) (by decide) (cs_unseenSymbols C hXs hbs hN hys J hi hkn next)
  | 36, _ => exact z_tabIn (off := 2635) (tgt := 2680) C dL_law_45 (by decide) (by decide) (by decide) (by decide) (cs_hardestPosition C hXs hbs hN hys J hi hkn next)
  | 37, _ => exact z_tabIn (off := 2703) (tgt := 2748) C dL_law_45 (by decide) (by decide) (by decide) (by decide) (cs_totalBits C hXs hbs hN hys J hi hkn next)
  | 38, _ => exact z_tabIn (off := 2771) (tgt := 2816) C dL_law_45 (by decide) (by decide) (by decide) (by decide) (cs_meanGuesses C hXs hbs hN hys J hi hkn next)
  | 39, _ => exact z_tabIn (off := 2860) (tgt := 2905) C dL_law_45 (by decide) (by decide) (by decide) (by decide) (cs_hitShare C hXs hbs hN hys J hi hkn next)
  | 40, _ => exact z_tabIn (off := 2950) (tgt := 2995) C dL_law_45 (by decide) (by decide) (by decide) (by decide) (cs_bestReader C hXs hbs hN hys J hi hkn next)
  | 41, _ => exact z_tabIn (off := 3006) (tgt := 3051) C dL_law_45 (by decide) (by decide) (by decide) (by decide) (cs_hardestDocument C hXs hbs hN hys J hi hkn next)
  | 42, _ => exact z_tabIn (off := 3062) (tgt := 3107) C dL_law_45 (by decide) (by decide) (by decide) (by decide) (cs_guessesAfterTraining C hXs hbs hN hys J hi hkn next)
  | 43, _ => exact z_tabIn (off := 3142) (tgt := 3187) C dL_law_45 (by decide) (by decide) (by decide) (by decide) (cs_trainingsNeeded C hXs hbs hN hys J hi hkn next)
  | 44, _ => exact z_tabIn (off := 3222) (tgt := 3267) C dL_law_45 (by decide) (by decide) (by decide) (by decide) (cs_yearsToForget C hXs hbs hN hys J hi hkn next)
  | 45, _ => exact z_tabIn (off := 3278) (tgt := 3323) C dL_law_45 (by decide) (by decide) (by decide) (by decide) (cs_agreements C hXs hbs hN hys J hi hkn next)
  | 46, _ => exact z_tabIn (off := 3346) (tgt := 3391) C dL_law_45 (by decide) (by decide) (by decide) (by decide) (cs_addReader C hXs hbs hN hys J hi hkn next)
  | 47, _ => exact z_tabIn (off := 3402) (tgt := 3447) C dL_law_45 (by decide) (by decide) (by decide) (by decide) (cs_addDocument C hXs hbs hN hys J hi hkn next)
  | 48, _ => exact z_tabIn (off := 3446) (tgt := 3491) C dL_law_45 (by decide) (by decide) (by decide) (by decide) (cs_train C hXs hbs hN hys J hi hkn next)
  | 49, _ => exact z_tabIn (off := 3514) (tgt := 3559) C dL_law_45 (by decide) (by decide) (by decide) (by decide) (cs_learn C hXs hbs hN hys J hi hkn next)
  | 50, _ => exact z_tabIn (off := 3582) (tgt := 3627) C dL_law_45 (by decide) (by decide) (by decide) (by decide) (cs_forget C hXs hbs hN hys J hi hkn next)
  | 51, _ => exact z_tabIn (off := 3638) (tgt := 3683) C dL_law_45 (by decide) (by decide) (by decide) (by decide) (cs_setEscapeMethod C hXs hbs hN hys J hi hkn next)
  | 52, _ => exact z_tabIn (off := 3706) (tgt := 3751) C dL_law_45 (by decide) (by decide) (by decide) (by decide) (cs_endYear C hXs hbs hN hys J hi hkn next)
  | 53, _ => exact z_tabIn (off := 3719) (tgt := 3764) C dL_law_45 (by decide) (by decide) (by decide) (by decide) (cs_merge C hXs hbs hN hys J hi hkn next)
  | 54, _ => exact z_tabIn (off := 3787) (tgt := 3832) C dL_law_45 (by decide) (by decide) (by decide) (by decide) (cs_encode C hXs hbs hN hys J hi hkn next)
  | 55, _ => exact z_tabIn (off := 3855) (tgt := 3900) C dL_law_45 (by decide) (by decide) (by decide) (by decide) (cs_decode C hXs hbs hN hys J hi hkn next)
  | 56, _ => exact z_tabIn (off := 3911) (tgt := 3956) C dL_law_45 (by decide) (by decide) (by decide) (by decide) (cs_writeExpected C hXs hbs hN hys J hi hkn next)
  | 57, _ => exact z_tabIn (off := 3979) (tgt := 4024) C dL_law_45 (by decide) (by decide) (by decide) (by decide) (cs_outputByte C hXs hbs hN hys J hi hkn next)
  | 58, _ => exact z_tabIn (off := 4035) (tgt := 4080) C dL_law_45 (by decide) (by decide) (by decide) (by decide) (cs_save C hXs hbs hN hys J hi hkn next)
  | 59, _ => exact z_tabIn (off := 4091) (tgt := 4136) C dL_law_45 (by decide) (by decide) (by decide) (by decide) (cs_restore C hXs hbs hN hys J hi hkn next)
  | 60, _ => exact z_tabIn (off := 4147) (tgt := 4192) C dL_law_45 (by decide) (by decide) (by decide) (by decide) (cs_undo C hXs hbs hN hys J hi hkn next)
  | 61, _ => exact z_tabIn (off := 4191) (tgt := 4236) C dL_law_45 (by decide) (by decide) (by decide) (by decide) (cs_undoDepth C hXs hbs hN hys J hi hkn next)
  | 62, _ => exact z_tabOut (tgt := 4249) C dL_law_45 (.inr (by decide)) (by decide) (z_wid (by omega) (by omega) (next _ _ _ J))
  | 63, _ => exact z_tabOut (tgt := 4249) C dL_law_45 (.inr (by decide)) (by decide) (z_wid (by omega) (by omega) (next _ _ _ J))
  | t + 64, h => exact absurd h (by omega)
set_option maxHeartbeats 4000000 in
set_option maxRecDepth 100000 in
theorem law_loop (C : zC p l s m args meth c γ cL_law 9 (some .boolean) RL xt) {b N : Nat} {ys : Nat → Int} (hXs : va_X b N (fun j => zi (ys j)) s s.heap) (hbs : b < γ.2.1.size) (hN : N ≤ 3072) (hys : ∀ j, zR (ys j)) {U A : Nat → Nat} {o d : Nat} (fin : ∀ M' k' n' L', k' ≤ 601024 → n' ≤ 7293034 → zAW p l e room_1 s m args below meth c γ 9 Q M' k' n' 4255 L' []) : ∀ (t : Nat) (M : zM) (Y : zSys) (th i : Int) (k n : Nat), (N : Int) - 6 - i < 6 * t → zJ3 γ M U A Y th o d → 0 ≤ i ∧ i ≤ N → k + 4 * t ≤ 601024 → n + 24 * t ≤ 7293034 → zAW p l e room_1 s m args below meth c γ 9 Q M k n 28 [some (.ref b), some (.ref (U 0)), some (.ref (A 0)), some (.ref o), some (.ref d), some (.int (zi i)), none, none, none] [] := by
  intro t
  induction t with
  | zero =>
    intro M Y th i k n ht J hi hk hn
    refine z_iload C dL_law_28 rfl ?_
    refine z_aload_n C dL_law_30 rfl ?_
    refine z_xlen C hXs hbs (by omega) dL_law_31 ?_
    refine z_bipush C dL_law_32 (by decide) ?_
    refine z_isubZ C dL_law_34 ?_
    refine z_icmp_gtZ (tgt := 4255) C dL_law_35 (by decide) (by omega) (by omega) (fun h35 => ?_) (fun h35 => ?_)
    · exact fin _ _ _ _ (by omega) (by omega)
    · exact absurd h35 (by omega)
  | succ t ih =>
    intro M Y th i k n ht J hi hk hn
    refine z_iload C dL_law_28 rfl ?_
    refine z_aload_n C dL_law_30 rfl ?_
    refine z_xlen C hXs hbs (by omega) dL_law_31 ?_
    refine z_bipush C dL_law_32 (by decide) ?_
    refine z_isubZ C dL_law_34 ?_
    refine z_icmp_gtZ (tgt := 4255) C dL_law_35 (by decide) (by omega) (by omega) (fun h35 => ?_) (fun h35 => ?_)
    · exact fin _ _ _ _ (by omega) (by omega)
    · refine z_aload_n C dL_law_38 rfl ?_
      refine z_iload C dL_law_39 rfl ?_
      refine z_xld C hXs hbs (by omega) (by omega) dL_law_41 ?_
      refine z_bipush C dL_law_42 (by decide) ?_
      refine z_iand C dL_law_44 ?_
      refine law_sw C hXs hbs hN hys J (by omega) (by omega) _ (fun M' Y' th' J' => ?_)
      refine z_iincZ C dL_law_4249 rfl (by decide) ?_
      refine z_goto (tgt := 28) C dL_law_4252 (by decide) ?_
      exact ih M' Y' th' (i + 6) (k + 4) (n + 24) (by omega) J' (by omega) (by omega) (by omega)
end CSk

