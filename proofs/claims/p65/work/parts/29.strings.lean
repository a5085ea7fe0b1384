/-! text constants: the JDK's own methods on them -/
section ZR10
variable {p : Program} {l : Launch} {e : Env} {R : Room} {s : State} {m : MethodId} {args : Array Value} {below : List Frame} {meth : Method} {c : Code} {γ : zG} {cc : ByteArray} {nL : Nat} {ret : Option FieldType} {own : String} {xt : List ExceptionTableEntry} {Q : State → Prop} {M : zM} {k n pc mc ms : Nat} {L : zL} {st : List Value}
theorem zC.str (C : zC p l s m args meth c γ cc nL ret own xt) : vk_S 26 zStrLen zStrByt γ.2.2.2.1 γ.2.2.2.2 (zA γ) s s.heap := C.ev.2.2.2.2.1.kept fun a h1 _ => C.hb.2 a h1
theorem z_ldcS (C : zC p l s m args meth c γ cc nL ret own xt) {is i : Nat} {text : String} (hs : zStrs[i]? = some (own, is, text)) (hd : decode cc pc = .ok (.ldc is, 2)) (kk : zAW p l e R s m args below meth c γ nL Q M k n (pc + 2) L (.ref (γ.2.2.2.1 (i % 26)) :: st)) : zAW p l e R s m args below meth c γ nL Q M k n pc L st := by
  intro H locs ls hH hl hL hz
  exact va_ldcS C.ex C.by C.ow (C.ev.2.2.2.1 i _ hs) hd (kk H locs ls hH hl hL hz)
theorem z_sval (C : zC p l s m args meth c γ cc nL ret RJ0 xt) {i : Nat} (hi : i < 26) (hd : decode cc pc = .ok (.getfield 9, 3)) (kk : zAW p l e R s m args below meth c γ nL Q M k n (pc + 3) L (.ref (γ.2.2.2.2 i) :: st)) : zAW p l e R s m args below meth c γ nL Q M k n pc L (.ref (γ.2.2.2.1 i) :: st) := by
  intro H locs ls hH hl hL hz
  exact vk_getf C.ex C.by (C.str.1 i hi).2.2.1 (zS_of C hH hl hz) C.ow (C.ws _ t4_204) (fun _ h => h) hd (kk H locs ls hH hl hL hz)
theorem z_scod (C : zC p l s m args meth c γ cc nL ret RJ0 xt) {i : Nat} (hi : i < 26) (hd : decode cc pc = .ok (.getfield 15, 3)) (kk : zAW p l e R s m args below meth c γ nL Q M k n (pc + 3) L (.int (zi 0) :: st)) : zAW p l e R s m args below meth c γ nL Q M k n pc L (.ref (γ.2.2.2.1 i) :: st) := by
  intro H locs ls hH hl hL hz
  exact vk_getf C.ex C.by (C.str.1 i hi).2.1 (zS_of C hH hl hz) C.ow (C.ws _ t4_205) (fun _ h => h) hd (kk H locs ls hH hl hL hz)
theorem z_scom (C : zC p l s m args meth c γ cc nL ret RJ0 xt) (hd : decode cc pc = .ok (.getstatic 38, 3)) (kk : zAW p l e R s m args below meth c γ nL Q M k n (pc + 3) L (.int (zi 1) :: st)) : zAW p l e R s m args below meth c γ nL Q M k n pc L st := by
  intro H locs ls hH hl hL hz
  exact va_gets C.ex C.by (C.ev.2.2.2.2.2.1.1.kept fun a h1 _ => C.hb.2 a h1) (zS_of C hH hl hz) C.ow (C.ws _ t1_65) (fun _ h => h) hd (kk H locs ls hH hl hL hz)
theorem z_sfmt (C : zC p l s m args meth c γ cc nL ret RJ0 xt) (hd : decode cc pc = .ok (.getstatic 1053, 3)) (kk : ∀ v : Value, v = .null ∨ (∃ t, v = .ref t) → zAW p l e R s m args below meth c γ nL Q M k n (pc + 3) L (v :: st)) : zAW p l e R s m args below meth c γ nL Q M k n pc L st := by
  intro H locs ls hH hl hL hz
  rcases C.ev.2.2.2.2.2.1.2.1 with h | ⟨t, h⟩
  · exact va_gets C.ex C.by (h.kept fun a h1 _ => C.hb.2 a h1) (zS_of C hH hl hz) C.ow (C.ws _ t1_81) (fun _ h => h) hd (kk .null (.inl rfl) H locs ls hH hl hL hz)
  · exact va_gets C.ex C.by (h.kept fun a h1 _ => C.hb.2 a h1) (zS_of C hH hl hz) C.ow (C.ws _ t1_81) (fun _ h => h) hd (kk (.ref t) (.inr ⟨t, rfl⟩) H locs ls hH hl hL hz)
theorem z_slen (C : zC p l s m args meth c γ cc nL ret own xt) {i : Nat} (hi : i < 26) (hd : decode cc pc = .ok (.arraylength, 1)) (kk : zAW p l e R s m args below meth c γ nL Q M k n (pc + 1) L (.int (zi (zStrLen.getD i 0 : Nat)) :: st)) : zAW p l e R s m args below meth c γ nL Q M k n pc L (.ref (γ.2.2.2.2 i) :: st) := by
  intro H locs ls hH hl hL hz
  exact va_tlen C.ex C.by (C.str.1 i hi).2.2.2 (zS_of C hH hl hz) rfl hd (kk H locs ls hH hl hL hz)
/-- a char of a text constant -/
def zSc (i k : Nat) : Int := ((zStrByt.getD i []).getD k 0).toInt
theorem zStr_all : ∀ i, i < 26 → (zStrLen.getD i 0 = (zStrByt.getD i []).length ∧ zStrLen.getD i 0 ≤ 200 ∧ ∀ b ∈ zStrByt.getD i [], 0 ≤ b.toInt ∧ b.toInt ≤ 127) := by decide +kernel
theorem zSc_rng {i k : Nat} (hi : i < 26) : 0 ≤ zSc i k ∧ zSc i k ≤ 127 := by
  unfold zSc
  rw [List.getD_eq_getElem?_getD]
  cases h : (zStrByt.getD i [])[k]? with
  | none => decide
  | some b => exact (zStr_all i hi).2.2 b (List.mem_of_getElem? h)
theorem z_sbyt (C : zC p l s m args meth c γ cc nL ret own xt) {i : Nat} {q : Int} (hi : i < 26) (hq : 0 ≤ q ∧ q < (zStrLen.getD i 0 : Nat)) (hd : decode cc pc = .ok (.baload, 1)) (kk : zAW p l e R s m args below meth c γ nL Q M k n (pc + 1) L (.int (zi (zSc i q.toNat)) :: st)) : zAW p l e R s m args below meth c γ nL Q M k n pc L (.int (zi q) :: .ref (γ.2.2.2.2 i) :: st) := by
  intro H locs ls hH hl hL hz
  have hb := (zStr_all i hi).2.1
  refine va_tb C.ex C.by (C.str.1 i hi).2.2.2 (zS_of C hH hl hz) (zi_in hq (by omega)) (v := .int (zi (zSc i q.toNat))) ?_ hd (kk H locs ls hH hl hL hz)
  rw [zi_nat hq (by omega)]
  show Value.int ((zStrByt.getD i []).getD q.toNat 0) = _
  rw [zi_of ((zStrByt.getD i []).getD q.toNat 0)]
  rfl
theorem z_i2c (C : zC p l s m args meth c γ cc nL ret own xt) {x : Int32} (hd : decode cc pc = .ok (.i2c, 1)) (kk : zAW p l e R s m args below meth c γ nL Q M k n (pc + 1) L (.int (x.toUInt32 % 65536).toInt32 :: st)) : zAW p l e R s m args below meth c γ nL Q M k n pc L (.int x :: st) := by
  intro H locs ls hH hl hL hz
  exact lv_i2c C.ex C.by hd rfl (kk H locs ls hH hl hL hz)
theorem z_callVS (C : zC p l s m args meth c γ cc nL ret own xt) {y : MethodName} {bytes : ByteArray} {nL' idx fr lo mc' ms' : Nat} {rt : Option FieldType} {post' : Option Value → zM → Prop} {px' : String → zM → Prop} {As rest : List Value} {i : Nat} (hi : i < 26) (hd : decode cc pc = .ok (.invokevirtual idx, 3)) (hlk : Cond.methodLink own idx y ∈ LW) (hw : zMW y bytes nL' rt As.length) (hin : Cond.instanceMethod y ∈ LW) (hse : Cond.selects "java/lang/String" y y ∈ LW) (hM : zCon l γ y bytes nL' rt (.ref (γ.2.2.2.1 i) :: As) M fr lo mc' ms' post' px') (hst : st = As.reverse ++ .ref (γ.2.2.2.1 i) :: rest) (hW : (rest.map fun v => v.category).sum ≤ 8) (hR : fr + 1 ≤ R.frames ∧ 8 + (nL' + 11) + lo ≤ R.locals ∧ k + mc' ≤ R.cells ∧ n + ms' ≤ R.slots) (kx : ∀ E M', px' E M' → zXW p l e R s m args below meth c γ nL Q M' (k + mc') (n + ms') pc L E) (kk : ∀ v M', post' v M' → zAW p l e R s m args below meth c γ nL Q M' (k + mc') (n + ms') (pc + 3) L (v.toList ++ rest)) : zAW p l e R s m args below meth c γ nL Q M k n pc L st := by
  refine z_run (a := (Value.ref (γ.2.2.2.1 i) :: As).toArray) (fun H locs ls hH hl hL hz => ?_) kx kk
  exact vx_runV (C := "java/lang/String") (n := As.length) ⟨C.ex, C.by, C.ml, C.ow, C.ws⟩ (hM C.tr) ⟨⟨rfl, rfl, hR.1, hR.2.1, zPay C hw, List.mem_cons_self, C.ws _ hw.1, C.ws _ hw.2.1, ⟨hw.2.2.1, hw.2.2.2.1⟩, hw.sig, C.ws _ hlk⟩, C.ws _ hin, C.ws _ hse⟩ ⟨zBlind, vk_recv C.str hi (zS_of C hH hl hz), fun U hU hW => ⟨rfl, by rw [hU]; exact hH, C.ev.warm hW⟩⟩ rfl rfl hL.1 hst (lv_room hW) hd ⟨hR.2.2.1, hR.2.2.2⟩
end ZR10
theorem z_and255 {x : Int} (h : 0 ≤ x ∧ x ≤ 127) : zi x &&& zi 255 = zi x ∧ ((zi x).toUInt32 % 65536).toInt32 = zi x ∧ narrow .char (.int (zi x)) = .int (zi x) := by
  have h1 : ∀ q : Fin 128, zi ((q : Nat) : Int) &&& zi 255 = zi ((q : Nat) : Int) ∧ ((zi ((q : Nat) : Int)).toUInt32 % 65536).toInt32 = zi ((q : Nat) : Int) ∧ narrow .char (.int (zi ((q : Nat) : Int))) = .int (zi ((q : Nat) : Int)) := by decide +kernel
  have h2 := h1 ⟨x.toNat, by omega⟩
  simp only [show ((x.toNat : Nat) : Int) = x by omega] at h2
  exact h2
set_option maxHeartbeats 4000000 in
set_option maxRecDepth 100000 in
theorem k_J3_checkIndex {l : Launch} {γ : zG} {M : zM} {i n : Int} {v : Value} (hv : v = .null ∨ (∃ t, v = .ref t)) (hi : 0 ≤ i ∧ i < n) (hn : n ≤ 200) :
    zCon l γ yJ3_checkIndex_8e157 cJ3_checkIndex_8e157 3 (some .int) [.int (zi i), .int (zi n), v] M 0 0 0 0 (fun v' M' => ∃ r : Int, v' = some (.int (zi r)) ∧ M' = M) (fun _ _ => False) := by
  rcases hv with rfl | ⟨t, rfl⟩
  · have _u : True := trivial
    refine zEnter [some (.int (zi i)), some (.int (zi n)), some .null] (by decide +kernel) rfl rfl (Nat.le_of_ble_eq_true rfl) ?_
    intro p e s m args below meth c Q C hin hQ
    refine z_iload_n C dJ3_checkIndex_8e157_0 rfl ?_
    refine z_if_ltZ (tgt := 9) C dJ3_checkIndex_8e157_1 (by decide) (by omega) (fun h1 => ?_) (fun h1 => ?_)
    · exact absurd h1 (by omega)
    · refine z_iload_n C dJ3_checkIndex_8e157_4 rfl ?_
      refine z_iload_n C dJ3_checkIndex_8e157_5 rfl ?_
      refine z_icmp_ltZ (tgt := 16) C dJ3_checkIndex_8e157_6 (by decide) (by omega) (by omega) (fun h6 => ?_) (fun h6 => ?_)
      · refine z_iload_n C dJ3_checkIndex_8e157_16 rfl ?_
        refine z_iret C hQ dJ3_checkIndex_8e157_17 rfl (by decide) (by decide) ?_
        exact ⟨i, rfl, rfl⟩
      · exact absurd h6 (by omega)
  · have _u : True := trivial
    refine zEnter [some (.int (zi i)), some (.int (zi n)), some (.ref t)] (by decide +kernel) rfl rfl (Nat.le_of_ble_eq_true rfl) ?_
    intro p e s m args below meth c Q C hin hQ
    refine z_iload_n C dJ3_checkIndex_8e157_0 rfl ?_
    refine z_if_ltZ (tgt := 9) C dJ3_checkIndex_8e157_1 (by decide) (by omega) (fun h1 => ?_) (fun h1 => ?_)
    · exact absurd h1 (by omega)
    · refine z_iload_n C dJ3_checkIndex_8e157_4 rfl ?_
      refine z_iload_n C dJ3_checkIndex_8e157_5 rfl ?_
      refine z_icmp_ltZ (tgt := 16) C dJ3_checkIndex_8e157_6 (by decide) (by omega) (by omega) (fun h6 => ?_) (fun h6 => ?_)
      · refine z_iload_n C dJ3_checkIndex_8e157_16 rfl ?_
        refine z_iret C hQ dJ3_checkIndex_8e157_17 rfl (by decide) (by decide) ?_
        exact ⟨i, rfl, rfl⟩
      · exact absurd h6 (by omega)
set_option maxHeartbeats 4000000 in
set_option maxRecDepth 100000 in
theorem k_J0_checkIndex {l : Launch} {γ : zG} {M : zM} {i n : Int} (hi : 0 ≤ i ∧ i < n) (hn : n ≤ 200) :
    zCon l γ yJ0_checkIndex_df160 cJ0_checkIndex_df160 2 none [.int (zi i), .int (zi n)] M 1 22 0 0 (fun v' M' => v' = none ∧ M' = M) (fun _ _ => False) := by
  refine zEnter [some (.int (zi i)), some (.int (zi n))] (by decide +kernel) rfl rfl (Nat.le_of_ble_eq_true rfl) ?_
  intro p e s m args below meth c Q C hin hQ
  refine z_iload_n C dJ0_checkIndex_df160_0 rfl ?_
  refine z_iload_n C dJ0_checkIndex_df160_1 rfl ?_
  refine z_sfmt C dJ0_checkIndex_df160_2 (fun v hv => ?_)
  refine z_callS C dJ0_checkIndex_df160_5 lk_J0_1059 mw_J3_checkIndex_8e157 mst_J3_checkIndex_8e157 (k_J3_checkIndex hv hi hn) rfl (by first | decide | exact Nat.le_of_ble_eq_true rfl) ⟨by decide, by decide, by decide, by decide⟩ (fun _ _ h => False.elim h) (fun v M' hp => ?_)
  obtain ⟨r5, rfl, rfl⟩ := hp
  refine z_pop C dJ0_checkIndex_df160_8 rfl ?_
  refine z_vret C hQ dJ0_checkIndex_df160_9 (by decide) (by decide) ?_
  exact ⟨rfl, rfl⟩
set_option maxHeartbeats 4000000 in
set_option maxRecDepth 100000 in
theorem k_J1_charAt {l : Launch} {γ : zG} {M : zM} {j : Nat} {i : Int} (hj : j < 26) (hi : 0 ≤ i ∧ i < (zStrLen.getD j 0 : Nat)) :
    zCon l γ yJ1_charAt_3b067 cJ1_charAt_3b067 2 (some .char) [.ref (γ.2.2.2.2 j), .int (zi i)] M 2 43 0 0 (fun v' M' => v' = some (.int (zi (zSc j i.toNat))) ∧ M' = M) (fun _ _ => False) := by
  have hb := (zStr_all j hj).2.1
  have hr := z_and255 (zSc_rng (k := i.toNat) hj)
  refine zEnter [some (.ref (γ.2.2.2.2 j)), some (.int (zi i))] (by decide +kernel) rfl rfl (Nat.le_of_ble_eq_true rfl) ?_
  intro p e s m args below meth c Q C hin hQ
  refine z_iload_n C dJ1_charAt_3b067_0 rfl ?_
  refine z_aload_n C dJ1_charAt_3b067_1 rfl ?_
  refine z_slen C hj dJ1_charAt_3b067_2 ?_
  refine z_callS C dJ1_charAt_3b067_3 lk_J1_9 mw_J0_checkIndex_df160 mst_J0_checkIndex_df160 (k_J0_checkIndex hi (by omega)) rfl (by first | decide | exact Nat.le_of_ble_eq_true rfl) ⟨by decide, by decide, by decide, by decide⟩ (fun _ _ h => False.elim h) (fun v M' hp => ?_)
  obtain ⟨rfl, rfl⟩ := hp
  refine z_aload_n C dJ1_charAt_3b067_6 rfl ?_
  refine z_iload_n C dJ1_charAt_3b067_7 rfl ?_
  refine z_sbyt C hj hi dJ1_charAt_3b067_8 ?_
  refine z_sipush C dJ1_charAt_3b067_9 (by decide) ?_
  refine z_iand C dJ1_charAt_3b067_12 ?_
  rw [hr.1]
  refine z_i2c C dJ1_charAt_3b067_13 ?_
  rw [hr.2.1]
  refine z_iret C hQ dJ1_charAt_3b067_14 hr.2.2 (by decide) (by decide) ?_
  exact ⟨rfl, rfl⟩
set_option maxHeartbeats 4000000 in
set_option maxRecDepth 100000 in
theorem k_J0_isLatin1 {l : Launch} {γ : zG} {M : zM} {j : Nat} (hj : j < 26) :
    zCon l γ yJ0_isLatin1_aae02 cJ0_isLatin1_aae02 1 (some .boolean) [.ref (γ.2.2.2.1 j)] M 0 0 0 0 (fun v' M' => v' = some (.int (zi 1)) ∧ M' = M) (fun _ _ => False) := by
  refine zEnter [some (.ref (γ.2.2.2.1 j))] (by decide +kernel) rfl rfl (Nat.le_of_ble_eq_true rfl) ?_
  intro p e s m args below meth c Q C hin hQ
  refine z_scom C dJ0_isLatin1_aae02_0 ?_
  refine z_if_eqZ (tgt := 17) C dJ0_isLatin1_aae02_3 (by decide) (by omega) (fun h3 => ?_) (fun h3 => ?_)
  · exact absurd h3 (by decide)
  · refine z_aload_n C dJ0_isLatin1_aae02_6 rfl ?_
    refine z_scod C hj dJ0_isLatin1_aae02_7 ?_
    refine z_if_neZ (tgt := 17) C dJ0_isLatin1_aae02_10 (by decide) (by omega) (fun h10 => ?_) (fun h10 => ?_)
    · exact absurd rfl h10
    · refine z_iconst C dJ0_isLatin1_aae02_13 ?_
      refine z_goto (tgt := 18) C dJ0_isLatin1_aae02_14 (by decide) ?_
      refine z_iret C hQ dJ0_isLatin1_aae02_18 rfl (by decide) (by decide) ?_
      exact ⟨rfl, rfl⟩
set_option maxHeartbeats 4000000 in
set_option maxRecDepth 100000 in
theorem k_J0_charAt {l : Launch} {γ : zG} {M : zM} {j : Nat} {i : Int} (hj : j < 26) (hi : 0 ≤ i ∧ i < (zStrLen.getD j 0 : Nat)) :
    zCon l γ yJ0_charAt_5068e cJ0_charAt_5068e 2 (some .char) [.ref (γ.2.2.2.1 j), .int (zi i)] M 3 64 0 0 (fun v' M' => v' = some (.int (zi (zSc j i.toNat))) ∧ M' = M) (fun _ _ => False) := by
  have hr := z_and255 (zSc_rng (k := i.toNat) hj)
  refine zEnter [some (.ref (γ.2.2.2.1 j)), some (.int (zi i))] (by decide +kernel) rfl rfl (Nat.le_of_ble_eq_true rfl) ?_
  intro p e s m args below meth c Q C hin hQ
  refine z_aload_n C dJ0_charAt_5068e_0 rfl ?_
  refine z_callVS C hj dJ0_charAt_5068e_1 lk_J0_492 mw_J0_isLatin1_aae02 mi_J0_isLatin1_aae02 ms_J0_isLatin1_aae02 (k_J0_isLatin1 hj) rfl (by first | decide | exact Nat.le_of_ble_eq_true rfl) ⟨by decide, by decide, by decide, by decide⟩ (fun _ _ h => False.elim h) (fun v M' hp => ?_)
  obtain ⟨rfl, rfl⟩ := hp
  refine z_if_eqZ (tgt := 16) C dJ0_charAt_5068e_4 (by decide) (by omega) (fun h4 => ?_) (fun h4 => ?_)
  · exact absurd h4 (by decide)
  · refine z_aload_n C dJ0_charAt_5068e_7 rfl ?_
    refine z_sval C hj dJ0_charAt_5068e_8 ?_
    refine z_iload_n C dJ0_charAt_5068e_11 rfl ?_
    refine z_callS C dJ0_charAt_5068e_12 lk_J0_495 mw_J1_charAt_3b067 mst_J1_charAt_3b067 (k_J1_charAt hj hi) rfl (by first | decide | exact Nat.le_of_ble_eq_true rfl) ⟨by decide, by decide, by decide, by decide⟩ (fun _ _ h => False.elim h) (fun v M' hp => ?_)
    obtain ⟨rfl, rfl⟩ := hp
    refine z_iret C hQ dJ0_charAt_5068e_15 hr.2.2 (by decide) (by decide) ?_
    exact ⟨rfl, rfl⟩
set_option maxHeartbeats 4000000 in
set_option maxRecDepth 100000 in
theorem k_J0_coder {l : Launch} {γ : zG} {M : zM} {j : Nat} (hj : j < 26) :
    zCon l γ yJ0_coder_7d493 cJ0_coder_7d493 1 (some .byte) [.ref (γ.2.2.2.1 j)] M 0 0 0 0 (fun v' M' => v' = some (.int (zi 0)) ∧ M' = M) (fun _ _ => False) := by
  refine zEnter [some (.ref (γ.2.2.2.1 j))] (by decide +kernel) rfl rfl (Nat.le_of_ble_eq_true rfl) ?_
  intro p e s m args below meth c Q C hin hQ
  refine z_scom C dJ0_coder_7d493_0 ?_
  refine z_if_eqZ (tgt := 13) C dJ0_coder_7d493_3 (by decide) (by omega) (fun h3 => ?_) (fun h3 => ?_)
  · exact absurd h3 (by decide)
  · refine z_aload_n C dJ0_coder_7d493_6 rfl ?_
    refine z_scod C hj dJ0_coder_7d493_7 ?_
    refine z_goto (tgt := 14) C dJ0_coder_7d493_10 (by decide) ?_
    refine z_iret C hQ dJ0_coder_7d493_14 rfl (by decide) (by decide) ?_
    exact ⟨rfl, rfl⟩
set_option maxHeartbeats 4000000 in
set_option maxRecDepth 100000 in
theorem k_J0_length {l : Launch} {γ : zG} {M : zM} {j : Nat} (hj : j < 26) :
    zCon l γ yJ0_length_8abf5 cJ0_length_8abf5 1 (some .int) [.ref (γ.2.2.2.1 j)] M 1 20 0 0 (fun v' M' => v' = some (.int (zi (zStrLen.getD j 0 : Nat))) ∧ M' = M) (fun _ _ => False) := by
  refine zEnter [some (.ref (γ.2.2.2.1 j))] (by decide +kernel) rfl rfl (Nat.le_of_ble_eq_true rfl) ?_
  intro p e s m args below meth c Q C hin hQ
  refine z_aload_n C dJ0_length_8abf5_0 rfl ?_
  refine z_sval C hj dJ0_length_8abf5_1 ?_
  refine z_slen C hj dJ0_length_8abf5_4 ?_
  refine z_aload_n C dJ0_length_8abf5_5 rfl ?_
  refine z_callVS C hj dJ0_length_8abf5_6 lk_J0_335 mw_J0_coder_7d493 mi_J0_coder_7d493 ms_J0_coder_7d493 (k_J0_coder hj) rfl (by first | decide | exact Nat.le_of_ble_eq_true rfl) ⟨by decide, by decide, by decide, by decide⟩ (fun _ _ h => False.elim h) (fun v M' hp => ?_)
  obtain ⟨rfl, rfl⟩ := hp
  refine z_ishr C dJ0_length_8abf5_9 ?_
  rw [show (zi 0 &&& 31 : Int32) = 0 by decide, Int32.shiftRight_zero]
  refine z_iret C hQ dJ0_length_8abf5_10 rfl (by decide) (by decide) ?_
  exact ⟨rfl, rfl⟩

