/-! words of the JDK's text members -/
theorem sm_J5_append_cf1ce : Cond.sameMethod RJ5 RJ5 "append" "(Ljava/lang/String;)Ljava/lang/AbstractStringBuilder;" ∈ LW := LW_mem (mt_6 (List.mem_of_getElem? (i := 9) rfl)) rfl
theorem sm_J5_append_3fe6f : Cond.sameMethod RJ5 RJ5 "append" "(C)Ljava/lang/AbstractStringBuilder;" ∈ LW := LW_mem (mt_6 (List.mem_of_getElem? (i := 16) rfl)) rfl
theorem sm_J5_append_c97b9 : Cond.sameMethod RJ5 RJ5 "append" "(I)Ljava/lang/AbstractStringBuilder;" ∈ LW := LW_mem (mt_6 (List.mem_of_getElem? (i := 17) rfl)) rfl
theorem sm_J5_length_8abf5 : Cond.sameMethod RJ5 RJ5 "length" "()I" ∈ LW := LW_mem (mt_4 (List.mem_of_getElem? (i := 146) rfl)) rfl
theorem su_J4 : Cond.superclass RJ4 RJ5 ∈ LW := LW_mem (mt_4 (List.mem_of_getElem? (i := 4) rfl)) rfl
theorem pm_J5_ensureCapacityInternal_d00df : yJ5_ensureCapacityInternal_d00df ∈ zPrv := List.mem_of_getElem? (i := 0) rfl
theorem pm_J5_newCapacity_0f7a4 : yJ5_newCapacity_0f7a4 ∈ zPrv := List.mem_of_getElem? (i := 1) rfl
theorem pm_J5_putStringAt_47b60 : yJ5_putStringAt_47b60 ∈ zPrv := List.mem_of_getElem? (i := 2) rfl
theorem pm_J5_inflateIfNeededFor_a7421 : yJ5_inflateIfNeededFor_a7421 ∈ zPrv := List.mem_of_getElem? (i := 3) rfl
theorem is_J4 : Cond.instantiable RJ4 4 ∈ LW := t3_216
theorem cm_J5 : Cond.fieldLink RJ5 18 "java/lang/String" "COMPACT_STRINGS" "Z" ∈ LW := t3_224
theorem cm_J0 : Cond.fieldLink RJ0 38 "java/lang/String" "COMPACT_STRINGS" "Z" ∈ LW := t1_65
theorem dg_J6 : Cond.fieldLink RJ6 83 "java/lang/Integer" "DigitOnes" "[B" ∈ LW := t4_178
theorem cn_lk : Cond.methodLink RJ7 310 ⟨"[B", "clone", "()Ljava/lang/Object;"⟩ ∈ LW := t4_39
theorem cn_sm : Cond.sameMethod "[B" "java/lang/Object" "clone" "()Ljava/lang/Object;" ∈ LW := LW_mem (mt_4 (List.mem_of_getElem? (i := 40) rfl)) rfl
theorem cn_nt : Cond.native ⟨"java/lang/Object", "clone", "()Ljava/lang/Object;"⟩ ∈ LW := t4_41
theorem cn_in : Cond.instanceMethod ⟨"java/lang/Object", "clone", "()Ljava/lang/Object;"⟩ ∈ LW := t4_42
theorem cn_se : Cond.selects "[B" ⟨"[B", "clone", "()Ljava/lang/Object;"⟩ ⟨"java/lang/Object", "clone", "()Ljava/lang/Object;"⟩ ∈ LW := t4_43
theorem cn_cl : Cond.classLink RJ7 311 "[B" ∈ LW := t4_45
theorem se_len : Cond.selects RJ4 yJ5_length_8abf5 yJ4_length_8abf5 ∈ LW := t4_147
section ZT1
variable {p : Program} {l : Launch} {e : Env} {R : Room} {s : State} {m : MethodId} {args : Array Value} {below : List Frame} {meth : Method} {c : Code} {γ : zG} {cc : ByteArray} {nL : Nat} {ret : Option FieldType} {own : String} {xt : List ExceptionTableEntry} {Q : State → Prop} {M : zM} {k n pc mc ms : Nat} {L : zL} {st : List Value}
theorem z_dup_x1 (C : zC p l s m args meth c γ cc nL ret own xt) {va vb : Value} (hd : decode cc pc = .ok (.dup_x1, 1)) (hva : va.category = 1) (hvb : vb.category = 1) (kk : zAW p l e R s m args below meth c γ nL Q M k n (pc + 1) L (va :: vb :: va :: st)) : zAW p l e R s m args below meth c γ nL Q M k n pc L (va :: vb :: st) := by
  intro H locs ls hH hl hL hz
  exact lv_dup_x1 C.ex C.by hd hva hvb (kk H locs ls hH hl hL hz)
theorem z_ineg (C : zC p l s m args meth c γ cc nL ret own xt) {x : Int} (hd : decode cc pc = .ok (.ineg, 1)) (kk : zAW p l e R s m args below meth c γ nL Q M k n (pc + 1) L (.int (zi (-x)) :: st)) : zAW p l e R s m args below meth c γ nL Q M k n pc L (.int (zi x) :: st) := by
  intro H locs ls hH hl hL hz
  refine lv_ineg C.ex C.by hd ?_
  rw [show -(zi x) = zi (-x) from (Int32.ofInt_neg x).symm]
  exact kk H locs ls hH hl hL hz
theorem z_ishl0 (C : zC p l s m args meth c γ cc nL ret own xt) {x : Int32} (hd : decode cc pc = .ok (.ishl, 1)) (kk : zAW p l e R s m args below meth c γ nL Q M k n (pc + 1) L (.int x :: st)) : zAW p l e R s m args below meth c γ nL Q M k n pc L (.int (zi 0) :: .int x :: st) := z_ishl C hd (by rw [show zi 0 = (0 : Int32) from rfl, sb_shl0]; exact kk)
theorem z_ishr0 (C : zC p l s m args meth c γ cc nL ret own xt) {x : Int32} (hd : decode cc pc = .ok (.ishr, 1)) (kk : zAW p l e R s m args below meth c γ nL Q M k n (pc + 1) L (.int x :: st)) : zAW p l e R s m args below meth c γ nL Q M k n pc L (.int (zi 0) :: .int x :: st) := z_ishr C hd (by rw [show zi 0 = (0 : Int32) from rfl, sb_shr0]; exact kk)
theorem z_com (C : zC p l s m args meth c γ cc nL ret own xt) {ix : Nat} (hl : Cond.fieldLink own ix "java/lang/String" "COMPACT_STRINGS" "Z" ∈ LW) (hd : decode cc pc = .ok (.getstatic ix, 3)) (kk : zAW p l e R s m args below meth c γ nL Q M k n (pc + 3) L (.int (zi 1) :: st)) : zAW p l e R s m args below meth c γ nL Q M k n pc L st := by
  intro H locs ls hH hlo hL hz
  exact va_gets C.ex C.by (C.ev.2.2.2.2.2.1.1.kept fun a h1 _ => C.hb.2 a h1) (zS_of C hH hlo hz) C.ow (C.ws _ hl) (fun _ h => h) hd (kk H locs ls hH hlo hL hz)
/-- an array of bytes, by numbers -/
abbrev zba (γ : zG) (N : Nat) (g : Nat → Int) : va_E := zaB γ N (fun j => zi (g j))
def zBv (g : Nat → Int) : Prop := ∀ j, 0 ≤ g j ∧ g j ≤ 127
theorem z_alenB (C : zC p l s m args meth c γ cc nL ret own xt) {a N : Nat} {f : Nat → Int32} (hd : decode cc pc = .ok (.arraylength, 1)) (hM : M a = some (zaB γ N f)) (hN : N ≤ 2147483647) (kk : zAW p l e R s m args below meth c γ nL Q M k n (pc + 1) L (.int (zi N) :: st)) : zAW p l e R s m args below meth c γ nL Q M k n pc L (.ref a :: st) := by
  intro H locs ls hH hl hL hz
  refine W.alen (n := Int32.ofNat N) C.ex C.by (hH.2 a _ hM).2 ((zK_ty C (i := 2) (by omega)).1 N (fun j => .int (f j))) (by rw [vp_cell_i, arrV_size] <;> rfl) rfl rfl hd ?_
  rw [show Int32.ofNat N = zi N from zi_nI hN]
  exact kk H locs ls hH hl hL hz
theorem z_copyB (C : zC p l s m args meth c γ cc nL ret own xt) {idx a0 a n0 n1 : Nat} {f g : Nat → Int32} {sp dp q : Int} (hd : decode cc pc = .ok (.invokestatic idx, 3)) (hlk : Cond.methodLink own idx arraycopyName ∈ LW) (hnat : Cond.native arraycopyName ∈ LW) (hst : Cond.static arraycopyName ∈ LW) (hin : Cond.initialized "java/lang/System" ∈ LW) (h0 : M a0 = some (zaB γ n0 f)) (h1 : M a = some (zaB γ n1 g)) (hsp : 0 ≤ sp) (hdp : 0 ≤ dp) (hq : 0 ≤ q) (hb0 : sp + q ≤ n0) (hb1 : dp + q ≤ n1) (hft : ∀ j, fits .byte (.int (f j)) = true) (hn0 : n0 ≤ 2147483647) (hn1 : n1 ≤ 2147483647) (hR : 1 ≤ R.frames ∧ (st.map fun v => v.category).sum + 18 ≤ R.locals)
    (kk : zAW p l e R s m args below meth c γ nL Q (va_up M a (some (zaB γ n1 (va_cpy f g sp.toNat dp.toNat q.toNat)))) k n (pc + 3) L st) : zAW p l e R s m args below meth c γ nL Q M k n pc L (.int (zi q) :: .int (zi dp) :: .ref a :: .int (zi sp) :: .ref a0 :: st) := by
  intro H locs ls hH hl hL hz T hT X
  obtain ⟨hba0, hc0⟩ := hH.2 a0 _ h0
  obtain ⟨hba, hc1⟩ := hH.2 a _ h1
  have hc0 : H[a0]? = some (vp_cell (γ.2.2.1 2) (n0, .inl f)) := hc0
  have hc1 : H[a]? = some (vp_cell (γ.2.2.1 2) (n1, .inl g)) := hc1
  have tn : ∀ z : Int, 0 ≤ z → z ≤ 2147483647 → (zi z).toNatClampNeg = z.toNat := fun z z0 z1 => by
    show (zi z).toInt.toNat = _
    rw [zi_toInt (by omega)]
  have nz : ∀ z : Int, 0 ≤ z → z ≤ 2147483647 → ¬ zi z < 0 := fun z z0 z1 h => by rw [zi_0, zi_lt (by omega) (by omega)] at h; omega
  obtain ⟨-, k0, hk0, cm0, hkk0⟩ := (zK_ty C (i := 2) (by omega)).1 n0 (fun j => .int (f j))
  obtain ⟨-, k1, hk1, cm1, hkk1⟩ := (zK_ty C (i := 2) (by omega)).1 n1 (fun j => .int (g j))
  have hsize0 : (vp_cell (γ.2.2.1 2) (n0, .inl f)).slots.size = n0 := by show (arrV _ n0 (fun j => .int (f j))).slots.size = n0; rw [arrV_size]
  have hsize1 : (vp_cell (γ.2.2.1 2) (n1, .inl g)).slots.size = n1 := by show (arrV _ n1 (fun j => .int (g j))).slots.size = n1; rw [arrV_size]
  obtain ⟨vm', X', step⟩ := X.arraycopy C.ex C.ow (C.ws _ hlk) (C.ws _ hnat) (C.ws _ hst) (C.ws _ hin) (src := a0) (dst := a) (cs := vp_cell (γ.2.2.1 2) (n0, .inl f)) (cd := vp_cell (γ.2.2.1 2) (n1, .inl g)) (srcPos := zi sp) (destPos := zi dp) (n := zi q) (by rw [hT]; exact hc0) (by rw [hT]; exact hc1)
    (fun _ h => by cases h) (fun _ h => by cases h) (fun h => by cases h) (fun h => by cases h) hk0 hk1 hkk0 hkk1 rfl (nz _ hsp (by omega)) (nz _ hdp (by omega)) (nz _ hq (by omega))
    (by rw [zi_toInt (by omega), zi_toInt (by omega), hsize0]; omega)
    (by rw [zi_toInt (by omega), zi_toInt (by omega), hsize1]; omega)
    (fun vm₁ _ i hi => by
      rw [tn _ hq (by omega)] at hi
      have e1 : (vp_cell (γ.2.2.1 2) (n0, .inl f)).slots.getD ((zi sp).toNatClampNeg + i) .null = .int (f ((zi sp).toNatClampNeg + i)) := by
        show (arrV (γ.2.2.1 2) n0 (fun j => .int (f j))).slots.getD _ _ = _
        rw [tn _ hsp (by omega), Array.getD_eq_getD_getElem?, arrV_read _ _ (by omega)]
        rfl
      refine ⟨?_, ?_⟩
      · rw [e1]
        exact hft _
      · rw [e1]
        exact trivial)
    (g := F0 m pc ls (.int (zi q) :: .int (zi dp) :: .ref a :: .int (zi sp) :: .ref a0 :: st)) rfl (hL.1.trans C.ml.symm) (rest := st) rfl (by rw [C.by]; exact hd) hR.1 (by have := hR.2; show 2 * 0 + _ + (7 + 11) ≤ _; omega)
  have e1 : copied (vp_cell (γ.2.2.1 2) (n0, .inl f)) (vp_cell (γ.2.2.1 2) (n1, .inl g)) (zi sp) (zi dp) (zi q) = vp_cell (γ.2.2.1 2) (n1, .inl (va_cpy f g (zi sp).toNatClampNeg (zi dp).toNatClampNeg (zi q).toNatClampNeg)) := va_copied (fun z => .int z) (γ.2.2.1 2) (γ.2.2.1 2) f g (by rw [tn _ hsp (by omega), tn _ hq (by omega)]; omega)
  rw [tn _ hsp (by omega), tn _ hdp (by omega), tn _ hq (by omega)] at e1
  rw [e1] at X' step
  have hla : a < H.size := (Array.getElem?_eq_some_iff.mp hc1).1
  have hheap : ((T.setVm vm').setCell a (vp_cell (γ.2.2.1 2) (n1, .inl (va_cpy f g sp.toNat dp.toNat q.toNat)))).heap = H.setIfInBounds a (vp_cell (γ.2.2.1 2) (n1, .inl (va_cpy f g sp.toNat dp.toNat q.toNat))) := by rw [← hT]; rfl
  have oq : ∀ q' : Nat, q' ≠ a → (H.setIfInBounds a (vp_cell (γ.2.2.1 2) (n1, .inl (va_cpy f g sp.toNat dp.toNat q.toNat))))[q']? = H[q']? := fun q' hq' => by simp [Array.getElem?_setIfInBounds, Ne.symm hq']
  obtain ⟨t, a1, b1⟩ := kk _ _ ls (hH.set hba (by simp) oq (show (H.setIfInBounds a _)[a]? = some _ by simp [Array.getElem?_setIfInBounds, hla])) (fun q' hq' => by
      rcases List.mem_append.mp hq' with h | h
      · exact hl q' h
      · obtain ⟨z, -, hz'⟩ := List.mem_map.mp h
        rw [← hz']
        exact hba) hL (by simp; exact hz) _ hheap X'
  exact ⟨t, step t a1, b1⟩
theorem zfit {x : Int} (h : 0 ≤ x ∧ x ≤ 127) : fits .byte (.int (zi x)) = true := by
  have h1 : ∀ q : Fin 128, fits .byte (.int (zi ((q : Nat) : Int))) = true := by decide +kernel
  have h2 := h1 ⟨x.toNat, by omega⟩
  simp only [show ((x.toNat : Nat) : Int) = x by omega] at h2
  exact h2
theorem znarB {x : Int} (h : 0 ≤ x ∧ x ≤ 127) : vp_nar .byte (zi x) = zi x := by
  have h1 : ∀ q : Fin 128, vp_nar .byte (zi ((q : Nat) : Int)) = zi ((q : Nat) : Int) := by decide +kernel
  have h2 := h1 ⟨x.toNat, by omega⟩
  simp only [show ((x.toNat : Nat) : Int) = x by omega] at h2
  exact h2
theorem zi2b {x : Int} (h : 0 ≤ x ∧ x ≤ 127) : (zi x).toInt8.toInt32 = zi x := by
  have h1 : ∀ q : Fin 128, (zi ((q : Nat) : Int)).toInt8.toInt32 = zi ((q : Nat) : Int) := by decide +kernel
  have h2 := h1 ⟨x.toNat, by omega⟩
  simp only [show ((x.toNat : Nat) : Int) = x by omega] at h2
  exact h2
theorem z_callP (C : zC p l s m args meth c γ cc nL ret own xt) {y : MethodName} {bytes : ByteArray} {nL' idx fr lo mc' ms' : Nat} {rt : Option FieldType} {post' : Option Value → zM → Prop} {px' : String → zM → Prop} {As rest : List Value} {Cn : String} {T : u_T} {N b ci : Nat} {fs : List Value} (hd : decode cc pc = .ok (.invokevirtual idx, 3)) (hlk : Cond.methodLink own idx y ∈ LW) (hw : zMW y bytes nL' rt As.length) (hin : Cond.instanceMethod y ∈ LW) (hse : (Cond.selects Cn y y).before args s = true) (hc : vwCl[ci]? = some (Cn, T, N)) (hb : M b = some (.inr (ci, fs))) (hM : zCon l γ y bytes nL' rt (.ref b :: As) M fr lo mc' ms' post' px') (hst : st = As.reverse ++ .ref b :: rest) (hW : (rest.map fun v => v.category).sum ≤ 8) (hR : fr + 1 ≤ R.frames ∧ 8 + (nL' + 11) + lo ≤ R.locals ∧ k + mc' ≤ R.cells ∧ n + ms' ≤ R.slots) (kx : ∀ E M', px' E M' → zXW p l e R s m args below meth c γ nL Q M' (k + mc') (n + ms') pc L E) (kk : ∀ v M', post' v M' → zAW p l e R s m args below meth c γ nL Q M' (k + mc') (n + ms') (pc + 3) L (v.toList ++ rest)) : zAW p l e R s m args below meth c γ nL Q M k n pc L st := by
  refine z_run (a := (Value.ref b :: As).toArray) (fun H locs ls hH hl hL hz => ?_) kx kk
  have hP : va_P γ.1 vwCl [(b, .inr (ci, fs))] H := by
    intro j q hq
    have hj : j < 1 := (List.getElem?_eq_some_iff.mp hq).1
    rw [show j = 0 by omega] at hq
    cases hq
    exact (hH.2 b _ hb).2
  exact vx_runV (C := Cn) (n := As.length) ⟨C.ex, C.by, C.ml, C.ow, C.ws⟩ (hM C.tr) ⟨⟨rfl, rfl, hR.1, hR.2.1, zPay C hw, List.mem_cons_self, C.ws _ hw.1, C.ws _ hw.2.1, ⟨hw.2.2.1, hw.2.2.2.1⟩, hw.sig, C.ws _ hlk⟩, C.ws _ hin, hse⟩ ⟨zBlind, va_recv C.K hP (ci := ci) (q0 := 0) hc rfl, fun U hU hW => ⟨rfl, by rw [hU]; exact hH, C.ev.warm hW⟩⟩ rfl rfl hL.1 hst (lv_room hW) hd ⟨hR.2.2.1, hR.2.2.2⟩
theorem sel_J4 (C : zC p l s m args meth c γ cc nL ret own xt) {y : MethodName} (hy : y.cls ≠ "java/lang/invoke/MethodHandle" ∧ y.cls ≠ "java/lang/invoke/VarHandle") (hc : y.cls = RJ5) (hp : y ∈ zPrv) (hi : Cond.instanceMethod y ∈ LW) : (Cond.selects RJ4 y y).before args s = true := by
  obtain ⟨c0, k0, hc0, hk0, -, -, -, -⟩ := Cond.instantiable_spec (C.ws _ is_J4)
  obtain ⟨mk, methM, hnamed, hmethM, -, -⟩ := Cond.instanceMethod_spec (C.ws _ hi)
  have hfound : s.methodFound? y.cls y.name y.desc = some mk := State.methodFound?_of_named hnamed hy
  have hsel : selectMethod {} s.vm c0 mk = .method mk := selectMethod_private hmethM (Cond.privateMethod_at (args := args) (va_Nw.use rfl (C.ev.2.2.2.2.2.1.2.2.2.2.2.2 y hp)) mk methM hnamed hmethM)
  obtain ⟨c2, r2, m2, -, -, q3, -, kP, hkP, hkPi⟩ := Cond.selects_spec (C.ws _ msb_J5_isLatin1_aae02)
  have e1 := findClass_of_methodNamed hnamed
  have e2 := findClass_of_methodNamed q3
  rw [hc] at e1
  have e3 : mk.cls = m2.cls := Option.some.inj (e1.symm.trans e2)
  simp only [Cond.before, Cond.holds, Cond.value, hc0, hfound, hnamed, hsel, e3, hkP]
  simp; exact hkPi
/-- super.m(..) -/
theorem z_callSU (C : zC p l s m args meth c γ cc nL ret own xt) {y : MethodName} {bytes : ByteArray} {nL' idx fr lo mc' ms' : Nat} {rt : Option FieldType} {post' : Option Value → zM → Prop} {px' : String → zM → Prop} {As rest : List Value} {Cn : String} {T : u_T} {N b ci : Nat} {fs : List Value} (hd : decode cc pc = .ok (.invokespecial idx, 3)) (hlk : Cond.methodLink own idx y ∈ LW) (hw : zMW y bytes nL' rt As.length) (hsm : Cond.sameMethod y.cls y.cls y.name y.desc ∈ LW) (hsu : Cond.superclass own y.cls ∈ LW) (hin : Cond.instanceMethod y ∈ LW) (hno : y.name ≠ "<init>") (hc : vwCl[ci]? = some (Cn, T, N)) (hb : M b = some (.inr (ci, fs))) (hM : zCon l γ y bytes nL' rt (.ref b :: As) M fr lo mc' ms' post' px') (hst : st = As.reverse ++ .ref b :: rest) (hW : (rest.map fun v => v.category).sum ≤ 8) (hR : fr + 1 ≤ R.frames ∧ 8 + (nL' + 11) + lo ≤ R.locals ∧ k + mc' ≤ R.cells ∧ n + ms' ≤ R.slots) (kx : ∀ E M', px' E M' → zXW p l e R s m args below meth c γ nL Q M' (k + mc') (n + ms') pc L E) (kk : ∀ v M', post' v M' → zAW p l e R s m args below meth c γ nL Q M' (k + mc') (n + ms') (pc + 3) L (v.toList ++ rest)) : zAW p l e R s m args below meth c γ nL Q M k n pc L st := by
  refine z_run (a := (Value.ref b :: As).toArray) (fun H locs ls hH hl hL hz => ?_) kx kk
  have hP : va_P γ.1 vwCl [(b, .inr (ci, fs))] H := by
    intro j q hq
    have hj : j < 1 := (List.getElem?_eq_some_iff.mp hq).1
    rw [show j = 0 by omega] at hq
    cases hq
    exact (hH.2 b _ hb).2
  exact vx_runSU (n := As.length) (C.K.1 ci _ hc).2 ⟨C.ex, C.by, C.ml, C.ow, C.ws⟩ (hM C.tr) ⟨⟨rfl, rfl, hR.1, hR.2.1, zPay C hw, List.mem_cons_self⟩, C.ws _ hlk, C.ws _ hsm, C.ws _ hsu, C.ws _ hin, C.ws _ hw.2.1, C.ws _ hw.1, hno, hw.sig⟩ ⟨zBlind, va_recv C.K hP (ci := ci) (q0 := 0) hc rfl, fun U hU hW => ⟨rfl, by rw [hU]; exact hH, C.ev.warm hW⟩⟩ rfl rfl hL.1 hst (lv_room hW) hd ⟨hR.2.2.1, hR.2.2.2⟩
/-- the method named is x, the one run y -/
theorem z_callU (C : zC p l s m args meth c γ cc nL ret own xt) {x y : MethodName} {b0 bytes : ByteArray} {n0 nL' idx fr lo mc' ms' : Nat} {r0 rt : Option FieldType} {post' : Option Value → zM → Prop} {px' : String → zM → Prop} {As rest : List Value} {Cn : String} {T : u_T} {N b ci : Nat} {fs : List Value} (hd : decode cc pc = .ok (.invokevirtual idx, 3)) (hlk : Cond.methodLink own idx x ∈ LW) (hx : zMW x b0 n0 r0 As.length) (hxi : Cond.instanceMethod x ∈ LW) (hw : zMW y bytes nL' rt As.length) (hsm : Cond.sameMethod x.cls x.cls x.name x.desc ∈ LW) (hin : Cond.instanceMethod y ∈ LW) (hse : Cond.selects Cn x y ∈ LW) (hc : vwCl[ci]? = some (Cn, T, N)) (hb : M b = some (.inr (ci, fs))) (hM : zCon l γ y bytes nL' rt (.ref b :: As) M fr lo mc' ms' post' px') (hst : st = As.reverse ++ .ref b :: rest) (hW : (rest.map fun v => v.category).sum ≤ 8) (hR : fr + 1 ≤ R.frames ∧ 8 + (nL' + 11) + lo ≤ R.locals ∧ k + mc' ≤ R.cells ∧ n + ms' ≤ R.slots) (kx : ∀ E M', px' E M' → zXW p l e R s m args below meth c γ nL Q M' (k + mc') (n + ms') pc L E) (kk : ∀ v M', post' v M' → zAW p l e R s m args below meth c γ nL Q M' (k + mc') (n + ms') (pc + 3) L (v.toList ++ rest)) : zAW p l e R s m args below meth c γ nL Q M k n pc L st := by
  refine z_run (a := (Value.ref b :: As).toArray) (fun H locs ls hH hl hL hz => ?_) kx kk
  have hP : va_P γ.1 vwCl [(b, .inr (ci, fs))] H := by
    intro j q hq
    have hj : j < 1 := (List.getElem?_eq_some_iff.mp hq).1
    rw [show j = 0 by omega] at hq
    cases hq
    exact (hH.2 b _ hb).2
  exact vx_runU (C := Cn) (owner := x.cls) (n := As.length) ⟨C.ex, C.by, C.ml, C.ow, C.ws⟩ (hM C.tr) ⟨⟨rfl, rfl, hR.1, hR.2.1, zPay C hw, List.mem_cons_self⟩, C.ws _ hw.1, C.ws _ hw.2.1, ⟨hx.2.2.1, hx.2.2.2.1⟩, hx.sig, C.ws _ hlk, C.ws _ hsm, va_Decl.of (C.ws _ hxi) (C.ws _ hx.1), C.ws _ hse, C.ws _ hin⟩ ⟨zBlind, va_recv C.K hP (ci := ci) (q0 := 0) hc rfl, fun U hU hW => ⟨rfl, by rw [hU]; exact hH, C.ev.warm hW⟩⟩ rfl rfl hL.1 hst (lv_room hW) hd ⟨hR.2.2.1, hR.2.2.2⟩
end ZT1

