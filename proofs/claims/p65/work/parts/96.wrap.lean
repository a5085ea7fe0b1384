/-! methods with an exception table; what the law reads of its script -/
def zConH (l : Launch) (γ : zG) (y : MethodName) (cc : ByteArray) (nL : Nat) (ret : Option FieldType) (hh : List (Nat × Nat × Nat × Nat)) (As : List Value) (M : zM) (fr lo mc ms : Nat) (post : Option Value → zM → Prop) (px : String → zM → Prop) : Prop :=
  l.stackTraces = false → vx_Met l y (Cond.codeWith y cc nL ret hh :: LW) { frames := fr, cells := mc, slots := ms, locals := lo } (zPc γ As M) (zQc γ post) (zXc γ px) mc ms (zA γ)
theorem zEnterH {l : Launch} {γ : zG} {y : MethodName} {cc : ByteArray} {nL : Nat} {ret : Option FieldType} {hh : List (Nat × Nat × Nat × Nat)} {As : List Value} {M : zM} {fr lo mc ms : Nat} {post : Option Value → zM → Prop} {px : String → zM → Prop} {own : String} (L : zL) (hy : plainName y.cls = true) (ho : y.cls = own) (hL : zPr 0 L = lv_args 0 As) (hlen : (lg_sl As).length ≤ nL)
    (body : ∀ p e s m args below meth c Q, zC p l s m args meth c γ cc nL ret own (tableOf hh) → meth.name = y.name → Q = zRQ below γ post px args s mc ms → zAW p l e { frames := fr, cells := mc, slots := ms, locals := lo } s m args below meth c γ nL Q M 0 0 0 L []) : zConH l γ y cc nL ret hh As M fr lo mc ms post px := by
  intro hl
  refine vx_ofWH (cc := cc) (maxL := nL) (ret := ret) (hh := hh) hy rfl ?_
  intro p e s m args below meth c s₁ B hml hv
  obtain ⟨hargs, hHW, hEV⟩ := hv
  have hts := atoms_spec (ws := Cond.codeWith y cc nL ret hh :: LW) B.pre
  have hxt : c.exceptionTable.toList = tableOf hh := vx_table (x := y) B (hts _ List.mem_cons_self)
  have hnm := (name_of_methodNamed B.named B.method).1
  have C : zC p l s m args meth c γ cc nL ret own (tableOf hh) := ⟨B.exec, B.bytes, hml, B.returns, B.notSynchronized, by rw [← ho]; exact findClass_of_methodNamed B.named, fun w hw => hts w (List.mem_cons_of_mem _ hw), hEV, hl, hxt, hHW.1, ⟨y, B.named, hnm⟩⟩
  have K := body p e s m args below meth c _ C hnm rfl
  have hargs' : args = As.toArray := hargs
  rw [show entryFrame m args nL = F0 m 0 ((lg_sl As ++ List.replicate (nL - (lg_sl As).length) Slot.unset).toArray) [] from by rw [hargs']; exact lg_entry_eq m As nL]
  refine K s.heap [] _ hHW (fun q h => by cases h) ?_ (Nat.le_refl _)
  unfold zLH
  rw [hL]
  exact lv_entry As hlen
def zMWH (y : MethodName) (bytes : ByteArray) (nL' : Nat) (rt : Option FieldType) (hh : List (Nat × Nat × Nat × Nat)) (np : Nat) : Prop := Cond.codeWith y bytes nL' rt hh ∈ LW ∧ Cond.initialized y.cls ∈ LW ∧ y.cls ≠ "java/lang/invoke/MethodHandle" ∧ y.cls ≠ "java/lang/invoke/VarHandle" ∧ (parseMethodDescriptor y.desc).map (fun d => d.parameters.length) = some np
theorem zMWH.sig {y : MethodName} {bytes : ByteArray} {nL' np : Nat} {rt : Option FieldType} {hh : List (Nat × Nat × Nat × Nat)} (h : zMWH y bytes nL' rt hh np) : ∀ sig, parseMethodDescriptor y.desc = some sig → np = sig.parameters.length := by
  intro sig hs
  have h2 := h.2.2.2.2
  rw [hs] at h2
  exact (Option.some.inj h2).symm
section ZM7
variable {p : Program} {l : Launch} {e : Env} {R : Room} {s : State} {m : MethodId} {args : Array Value} {below : List Frame} {meth : Method} {c : Code} {γ : zG} {cc : ByteArray} {nL : Nat} {ret : Option FieldType} {own : String} {xt : List ExceptionTableEntry} {Q : State → Prop} {M : zM} {k n pc : Nat} {L : zL} {st : List Value}
theorem zPayH (C : zC p l s m args meth c γ cc nL ret own xt) {y : MethodName} {bytes : ByteArray} {nL' np : Nat} {rt : Option FieldType} {hh : List (Nat × Nat × Nat × Nat)} (h : zMWH y bytes nL' rt hh np) : ∀ w ∈ (Cond.codeWith y bytes nL' rt hh :: LW), ∀ (a' : Array Value) (U : State), s.WarmedH U.vm → w.before a' U = true :=
  pay_in C.ws (fun w hw => (List.mem_cons.mp hw).elim (fun e => by rw [e]; exact wsL_goodIn _ h.1) (fun h => wsL_goodIn _ h))
/-- a call of a method with a table -/
theorem z_callSH (C : zC p l s m args meth c γ cc nL ret own xt) {y : MethodName} {bytes : ByteArray} {nL' idx fr lo mc' ms' : Nat} {rt : Option FieldType} {hh : List (Nat × Nat × Nat × Nat)} {post' : Option Value → zM → Prop} {px' : String → zM → Prop} {As rest : List Value} (hd : decode cc pc = .ok (.invokestatic idx, 3)) (hlk : Cond.methodLink own idx y ∈ LW) (hw : zMWH y bytes nL' rt hh As.length) (hstat : Cond.static y ∈ LW) (hM : zConH l γ y bytes nL' rt hh As M fr lo mc' ms' post' px') (hst : st = As.reverse ++ rest) (hW : (rest.map fun v => v.category).sum ≤ 8) (hR : fr + 1 ≤ R.frames ∧ 8 + (nL' + 11) + lo ≤ R.locals ∧ k + mc' ≤ R.cells ∧ n + ms' ≤ R.slots) (kx : ∀ E M', px' E M' → zXW p l e R s m args below meth c γ nL Q M' (k + mc') (n + ms') pc L E) (kk : ∀ v M', post' v M' → zAW p l e R s m args below meth c γ nL Q M' (k + mc') (n + ms') (pc + 3) L (v.toList ++ rest)) : zAW p l e R s m args below meth c γ nL Q M k n pc L st :=
  z_run (a := As.toArray) (fun H locs ls hH hl hL hz => vx_runSX (hh := hh) (n := As.length) ⟨C.ex, C.by, C.ml, C.ow, C.ws⟩ (hM C.tr) ⟨⟨rfl, rfl, hR.1, hR.2.1, zPayH C hw, List.mem_cons_self⟩, C.ws _ hw.1, C.ws _ hw.2.1, ⟨hw.2.2.1, hw.2.2.2.1⟩, hw.sig, C.ws _ hlk, C.ws _ hstat⟩ ⟨zBlind, fun U hU hW => ⟨rfl, by rw [hU]; exact hH, C.ev.warm hW⟩⟩ rfl rfl hL.1 hst (lv_room hW) hd ⟨hR.2.2.1, hR.2.2.2⟩) kx kk
/-- caught here by the row x, past rows that name other classes -/
theorem z_caught {hh : List (Nat × Nat × Nat × Nat)} (C : zC p l s m args meth c γ cc nL ret own (tableOf hh)) (pre : List (Nat × Nat × Nat × Nat)) (x : Nat × Nat × Nat × Nat) (suf : List (Nat × Nat × Nat × Nat)) {E : String} (hs : hh = pre ++ x :: suf) (hp : ∀ z ∈ pre, z.2.2.2 ≠ 0 ∧ ∃ nm, Cond.classLink own z.2.2.2 nm ∈ LW ∧ (E, nm) ∈ zNot) (hx : x.1 ≤ pc ∧ pc < x.2.1) (h0 : x.2.2.2 ≠ 0) (hl : Cond.classLink own x.2.2.2 E ∈ LW) (hE : E ∈ zCast) (kk : ∀ q, zAW p l e R s m args below meth c γ nL Q M k n x.2.2.1 L [.ref q]) : zXW p l e R s m args below meth c γ nL Q M k n pc L E := by
  intro H locs ls q ce rest hH hlo hL hz hc hv hcl
  refine vx_catch (own := own) (name := E) C.ow (tableOf pre) ⟨x.1, x.2.1, x.2.2.1, x.2.2.2⟩ (tableOf suf) (by rw [C.xtb, hs]; simp [tableOf]) (fun z hz => ?_) (by simp [covers, hx.1, hx.2]) h0 (C.ws _ hl) (va_Nw.use rfl (C.ev.2.2.2.2.2.2.2.2.2.2.1 E hE)) hc hv hcl ?_
  · obtain ⟨z', hz', rfl⟩ := List.mem_map.mp hz
    obtain ⟨a, nm, b, d⟩ := hp z' hz'
    exact Or.inr ⟨a, nm, C.ws _ b, C.ev.2.2.2.2.2.2.2.2.2.2.2.2 (E, nm) d⟩
  · exact kk q H locs ls hH hlo hL hz
theorem z_xlen (C : zC p l s m args meth c γ cc nL ret own xt) {b N : Nat} {xs : Nat → Int32} (hX : va_X b N xs s s.heap) (hb : b < γ.2.1.size) (hN : N ≤ 2147483647) (hd : decode cc pc = .ok (.arraylength, 1)) (kk : zAW p l e R s m args below meth c γ nL Q M k n (pc + 1) L (.int (zi N) :: st)) : zAW p l e R s m args below meth c γ nL Q M k n pc L (.ref b :: st) := by
  intro H locs ls hH hl hL hz
  refine va_slen C.ex C.by hX (Nat.lt_of_lt_of_le hb C.hb.1) (Nat.not_le.mpr hb) (zS_of C hH hl hz) hd ?_
  rw [show Int32.ofNat N = zi N from zi_nI hN]
  exact kk H locs ls hH hl hL hz
theorem z_xld (C : zC p l s m args meth c γ cc nL ret own xt) {b N : Nat} {xs : Nat → Int32} {i : Int} (hX : va_X b N xs s s.heap) (hb : b < γ.2.1.size) (hi : 0 ≤ i ∧ i < N) (hN : N ≤ 2147483647) (hd : decode cc pc = .ok (.iaload, 1)) (kk : zAW p l e R s m args below meth c γ nL Q M k n (pc + 1) L (.int (xs i.toNat) :: st)) : zAW p l e R s m args below meth c γ nL Q M k n pc L (.int (zi i) :: .ref b :: st) := by
  intro H locs ls hH hl hL hz
  refine va_sld C.ex C.by hX (Nat.lt_of_lt_of_le hb C.hb.1) (Nat.not_le.mpr hb) (zS_of C hH hl hz) (zi_in hi (by omega)) hd ?_
  rw [zi_nat hi (by omega)]
  exact kk H locs ls hH hl hL hz
end ZM7

