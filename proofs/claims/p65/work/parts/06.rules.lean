/-! ends, calls, makings -/
def zQc (γ : zG) (post : Option Value → zM → Prop) : Array Value → State → Outcome → State → Prop := fun _ st oc t => (∃ (v : Option Value) (M' : zM), oc = .returned v ∧ post v M' ∧ zHW γ M' t.heap) ∧ st.heap.size ≤ t.heap.size
def zXc (γ : zG) (px : String → zM → Prop) : String → State → State → Prop := fun E st t => (∃ M' : zM, px E M' ∧ zHW γ M' t.heap) ∧ st.heap.size ≤ t.heap.size
def zRQ (below : List Frame) (γ : zG) (post : Option Value → zM → Prop) (px : String → zM → Prop) (args : Array Value) (s : State) (mc ms : Nat) : State → Prop := vx_MQ below (zQc γ post) (zXc γ px) args s mc ms (zA γ)
abbrev zPc (γ : zG) (As : List Value) (M : zM) : Array Value → State → Prop := va_Pc As (fun U => zHW γ M U.heap ∧ zEV γ U)
/-- a method's contract, over the map: from M and the arguments it returns with post, or throws with px; frames fr, locals lo, cells mc, slots ms -/
def zCon (l : Launch) (γ : zG) (y : MethodName) (cc : ByteArray) (nL : Nat) (ret : Option FieldType) (As : List Value) (M : zM) (fr lo mc ms : Nat) (post : Option Value → zM → Prop) (px : String → zM → Prop) : Prop :=
  l.stackTraces = false → vx_Met l y (Cond.code y cc nL ret :: LW) { frames := fr, cells := mc, slots := ms, locals := lo } (zPc γ As M) (zQc γ post) (zXc γ px) mc ms (zA γ)
theorem zCon.weaken {l : Launch} {γ : zG} {y : MethodName} {cc : ByteArray} {nL : Nat} {ret : Option FieldType} {As : List Value} {M : zM} {fr lo mc ms : Nat} {post post' : Option Value → zM → Prop} {px px' : String → zM → Prop} (h : zCon l γ y cc nL ret As M fr lo mc ms post px) (h1 : ∀ v M', post v M' → post' v M') (h2 : ∀ E M', px E M' → px' E M') : zCon l γ y cc nL ret As M fr lo mc ms post' px' := by
  intro hl p e ha hc hk s m args below hf hs hP ht
  obtain ⟨kk, o, g1, g2, g3, g4⟩ := h hl p e ha hc hk s m args below hf hs hP ht
  refine ⟨kk, o, g1, g2, g3, ?_⟩
  rcases g4 with ⟨⟨⟨v, M', a1, a2, a3⟩, a4⟩, a5⟩ | ⟨q, a0, E, ce, Lc, ⟨⟨M', a2, a3⟩, a4⟩, a5⟩
  · exact Or.inl ⟨⟨⟨v, M', a1, h1 _ _ a2, a3⟩, a4⟩, a5⟩
  · exact Or.inr ⟨q, a0, E, ce, Lc, ⟨⟨M', h2 _ _ a2, a3⟩, a4⟩, a5⟩
theorem zBlind {γ : zG} {As : List Value} {M : zM} : FrameBlind (zPc γ As M) := fun _ _ _ _ h => ⟨h.1, h.2.1, h.2.2.same rfl⟩
theorem zEnter {l : Launch} {γ : zG} {y : MethodName} {cc : ByteArray} {nL : Nat} {ret : Option FieldType} {As : List Value} {M : zM} {fr lo mc ms : Nat} {post : Option Value → zM → Prop} {px : String → zM → Prop} {own : String} (L : zL) (hy : plainName y.cls = true) (ho : y.cls = own) (hL : zPr 0 L = lv_args 0 As) (hlen : (lg_sl As).length ≤ nL)
    (body : ∀ p e s m args below meth c Q, zC p l s m args meth c γ cc nL ret own [] → meth.name = y.name → Q = zRQ below γ post px args s mc ms → zAW p l e { frames := fr, cells := mc, slots := ms, locals := lo } s m args below meth c γ nL Q M 0 0 0 L []) : zCon l γ y cc nL ret As M fr lo mc ms post px := by
  intro hl
  refine vx_ofW (cc := cc) (maxL := nL) (ret := ret) hy rfl ?_
  intro p e s m args below meth c s₁ B hml hxt hv
  obtain ⟨hargs, hHW, hEV⟩ := hv
  have hnil : c.exceptionTable.toList = [] := by
    cases hq : c.exceptionTable.toList with
    | nil => rfl
    | cons x r => exact absurd (show x ∈ c.exceptionTable.toList by rw [hq]; exact List.mem_cons_self) (fun h => hxt x h)
  have hnm := (name_of_methodNamed B.named B.method).1
  have hts := atoms_spec (ws := Cond.code y cc nL ret :: LW) B.pre
  have C : zC p l s m args meth c γ cc nL ret own [] := ⟨B.exec, B.bytes, hml, B.returns, B.notSynchronized, by rw [← ho]; exact findClass_of_methodNamed B.named, fun w hw => hts w (List.mem_cons_of_mem _ hw), hEV, hl, hnil, hHW.1, ⟨y, B.named, hnm⟩⟩
  have K := body p e s m args below meth c _ C hnm rfl
  have hargs' : args = As.toArray := hargs
  rw [show entryFrame m args nL = F0 m 0 ((lg_sl As ++ List.replicate (nL - (lg_sl As).length) Slot.unset).toArray) [] from by rw [hargs']; exact lg_entry_eq m As nL]
  refine K s.heap [] _ hHW (fun q h => by cases h) ?_ (Nat.le_refl _)
  unfold zLH
  rw [hL]
  exact lv_entry As hlen
theorem wsL_good : LW.all goodWord = true := List.all_eq_true.mpr fun w hw => (List.mem_filter.mp hw).2
theorem wsL_goodIn : GoodIn LW LW := fun w hw => ⟨hw, good_of_word (List.all_eq_true.mp wsL_good w hw)⟩
section ZR4
variable {p : Program} {l : Launch} {e : Env} {R : Room} {s : State} {m : MethodId} {args : Array Value} {below : List Frame} {meth : Method} {c : Code} {γ : zG} {cc : ByteArray} {nL : Nat} {ret : Option FieldType} {own : String} {xt : List ExceptionTableEntry} {Q : State → Prop} {M : zM} {k n pc mc ms : Nat} {L : zL} {st : List Value} {post : Option Value → zM → Prop} {px : String → zM → Prop}
theorem z_iret {rt : FieldType} {x : Int32} (C : zC p l s m args meth c γ cc nL (some rt) own xt) (hQ : Q = zRQ below γ post px args s mc ms) (hd : decode cc pc = .ok (.ireturn, 1)) (hnw : narrow rt (.int x) = .int x) (hk : k ≤ mc) (hn : n ≤ ms) (hp : post (some (.int x)) M) : zAW p l e R s m args below meth c γ nL Q M k n pc L [.int x] := by
  subst hQ
  intro H locs ls hH hl hL hz
  refine W.widen hk hn ?_
  refine vx_ret ?_
  exact W.zret C.ex C.by C.rt hnw (fun t ht hW => ⟨⟨_, M, rfl, hp, by rw [ht]; exact hH⟩, by rw [ht]; exact hz⟩) hl hd C.lk
theorem z_vret (C : zC p l s m args meth c γ cc nL none own xt) (hQ : Q = zRQ below γ post px args s mc ms) (hd : decode cc pc = .ok (.return_, 1)) (hk : k ≤ mc) (hn : n ≤ ms) (hp : post none M) : zAW p l e R s m args below meth c γ nL Q M k n pc L [] := by
  subst hQ
  intro H locs ls hH hl hL hz
  refine W.widen hk hn ?_
  refine vx_ret ?_
  exact W.vret C.ex C.by C.rt (fun t ht hW => ⟨⟨_, M, rfl, hp, by rw [ht]; exact hH⟩, by rw [ht]; exact hz⟩) hl hd C.lk
theorem z_aret {rt : FieldType} {v : Value} (C : zC p l s m args meth c γ cc nL (some rt) own xt) (hQ : Q = zRQ below γ post px args s mc ms) (hd : decode cc pc = .ok (.areturn, 1)) (hrt : (∃ n, rt = .object n) ∨ ∃ t, rt = .array t) (hv : v = .null ∨ ∃ a, v = .ref a) (hk : k ≤ mc) (hn : n ≤ ms) (hp : post (some v) M) : zAW p l e R s m args below meth c γ nL Q M k n pc L [v] := by
  subst hQ
  intro H locs ls hH hl hL hz
  refine W.widen hk hn ?_
  refine vx_ret ?_
  exact W.aret C.ex C.by C.rt hrt hv (fun t ht hW => ⟨⟨_, M, rfl, hp, by rw [ht]; exact hH⟩, by rw [ht]; exact hz⟩) hl hd C.lk
theorem z_lret {x : Int64} (C : zC p l s m args meth c γ cc nL (some .long) own xt) (hQ : Q = zRQ below γ post px args s mc ms) (hd : decode cc pc = .ok (.lreturn, 1)) (hk : k ≤ mc) (hn : n ≤ ms) (hp : post (some (.long x)) M) : zAW p l e R s m args below meth c γ nL Q M k n pc L [.long x] := by
  subst hQ
  intro H locs ls hH hl hL hz
  refine W.widen hk hn ?_
  refine vx_ret ?_
  exact W.lret C.ex C.by C.rt (fun t ht hW => ⟨⟨_, M, rfl, hp, by rw [ht]; exact hH⟩, by rw [ht]; exact hz⟩) hl hd C.lk
theorem z_dret {x : UInt64} (C : zC p l s m args meth c γ cc nL (some .double) own xt) (hQ : Q = zRQ below γ post px args s mc ms) (hd : decode cc pc = .ok (.dreturn, 1)) (hk : k ≤ mc) (hn : n ≤ ms) (hp : post (some (.double x)) M) : zAW p l e R s m args below meth c γ nL Q M k n pc L [.double x] := by
  subst hQ
  intro H locs ls hH hl hL hz
  refine W.widen hk hn ?_
  refine vx_ret ?_
  exact W.dret C.ex C.by C.rt (fun t ht hW => ⟨⟨_, M, rfl, hp, by rw [ht]; exact hH⟩, by rw [ht]; exact hz⟩) hl hd C.lk
theorem z_fret {x : UInt32} (C : zC p l s m args meth c γ cc nL (some .float) own xt) (hQ : Q = zRQ below γ post px args s mc ms) (hd : decode cc pc = .ok (.freturn, 1)) (hk : k ≤ mc) (hn : n ≤ ms) (hp : post (some (.float x)) M) : zAW p l e R s m args below meth c γ nL Q M k n pc L [.float x] := by
  subst hQ
  intro H locs ls hH hl hL hz
  refine W.widen hk hn ?_
  refine vx_ret ?_
  exact W.fret C.ex C.by C.rt (fun t ht hW => ⟨⟨_, M, rfl, hp, by rw [ht]; exact hH⟩, by rw [ht]; exact hz⟩) hl hd C.lk
def zXW (p : Program) (l : Launch) (e : Env) (R : Room) (s : State) (m : MethodId) (args : Array Value) (below : List Frame) (meth : Method) (c : Code) (γ : zG) (nL : Nat) (Q : State → Prop) (M : zM) (k n pc : Nat) (L : zL) (E : String) : Prop :=
  ∀ (H : Heap) (locs : List Loc) (ls : Array Slot) (q : Addr) (ce : Cell) (rest : List Value), zHW γ M H → zLo γ locs → zLH ls nL L → s.heap.size ≤ H.size → H[q]? = some ce → ce.vm = .none → s.vm.findClass E = some ce.cls → vx_W p l e R s m args below meth c H locs k n Q (F0 m pc ls rest) q
theorem z_out (C : zC p l s m args meth c γ cc nL ret own []) (hQ : Q = zRQ below γ post px args s mc ms) {E : String} (hk : k ≤ mc) (hn : n ≤ ms) (hp : px E M) : zXW p l e R s m args below meth c γ nL Q M k n pc L E := by
  subst hQ
  exact fun H locs ls q ce rest hH hl hL hz hc hv hcl => vx_out (by rw [C.xtb]; intro x hx; cases hx) C.lk hc hv hcl (fun t ht ha => ⟨⟨M, hp, by rw [ht]; exact hH⟩, by rw [ht]; exact hz⟩) hl hk hn
theorem zLo_app {γ : zG} {a b : List Loc} (h1 : zLo γ a) (h2 : zLo γ b) : zLo γ (a ++ b) := fun q hq => (List.mem_append.mp hq).elim (h1 q) (h2 q)
theorem z_run {mc' ms' : Nat} {rest : List Value} {a : Array Value} {post' : Option Value → zM → Prop} {px' : String → zM → Prop} (hr : ∀ (H : Heap) (locs : List Loc) (ls : Array Slot), zHW γ M H → zLo γ locs → zLH ls nL L → s.heap.size ≤ H.size → vx_Run p l e R s m args below meth c H locs k n mc' ms' (F0 m pc ls st) rest (zQc γ post' a) (zXc γ px') (zA γ))
    (kx : ∀ E M', px' E M' → zXW p l e R s m args below meth c γ nL Q M' (k + mc') (n + ms') pc L E) (kk : ∀ v M', post' v M' → zAW p l e R s m args below meth c γ nL Q M' (k + mc') (n + ms') (pc + 3) L (v.toList ++ rest)) : zAW p l e R s m args below meth c γ nL Q M k n pc L st := by
  intro H locs ls hH hl hL hz T hT X
  rcases hr H locs ls hH hl hL hz T hT X with ⟨v, st₀, t, T', Lc, h0, X', hLc, e1, e2, ⟨⟨v', M', hv, hp, hH'⟩, hz'⟩, stp⟩ | ⟨q, st₀, t, T', Lc, E, ce, h0, X', hLc, e1, e2, ⟨⟨M', hp, hH'⟩, hz'⟩, hce, hcv, hcl, stp⟩
  · cases hv
    rw [h0] at hz'
    obtain ⟨t2, a1, b1⟩ := kk v M' hp T'.heap (locs ++ Lc) ls (by rw [e1]; exact hH') (zLo_app hl hLc) hL (by rw [e1]; omega) T' rfl X'
    exact ⟨t2, stp t2 a1, b1⟩
  · rw [h0] at hz'
    obtain ⟨t2, a1, b1⟩ := kx E M' hp T'.heap (locs ++ Lc) ls q ce rest (by rw [e1]; exact hH') (zLo_app hl hLc) hL (by rw [e1]; omega) (by rw [e1]; exact hce) hcv hcl T' rfl X'
    exact ⟨t2, stp.trans a1, b1⟩
/-- a method's words, in the list -/
def zMW (y : MethodName) (bytes : ByteArray) (nL' : Nat) (rt : Option FieldType) (np : Nat) : Prop := Cond.code y bytes nL' rt ∈ LW ∧ Cond.initialized y.cls ∈ LW ∧ y.cls ≠ "java/lang/invoke/MethodHandle" ∧ y.cls ≠ "java/lang/invoke/VarHandle" ∧ (parseMethodDescriptor y.desc).map (fun d => d.parameters.length) = some np
theorem zMW.sig {y : MethodName} {bytes : ByteArray} {nL' np : Nat} {rt : Option FieldType} (h : zMW y bytes nL' rt np) : ∀ sig, parseMethodDescriptor y.desc = some sig → np = sig.parameters.length := by
  intro sig hs
  have h2 := h.2.2.2.2
  rw [hs] at h2
  exact (Option.some.inj h2).symm
theorem zPay (C : zC p l s m args meth c γ cc nL ret own xt) {y : MethodName} {bytes : ByteArray} {nL' np : Nat} {rt : Option FieldType} (h : zMW y bytes nL' rt np) : ∀ w ∈ (Cond.code y bytes nL' rt :: LW), ∀ (a' : Array Value) (U : State), s.WarmedH U.vm → w.before a' U = true :=
  pay_in C.ws (fun w hw => (List.mem_cons.mp hw).elim (fun e => by rw [e]; exact wsL_goodIn _ h.1) (fun h => wsL_goodIn _ h))
theorem z_callV (C : zC p l s m args meth c γ cc nL ret own xt) {y : MethodName} {bytes : ByteArray} {nL' idx fr lo mc' ms' : Nat} {rt : Option FieldType} {post' : Option Value → zM → Prop} {px' : String → zM → Prop} {As rest : List Value} {Cn : String} {T : u_T} {N b ci : Nat} {fs : List Value} (hd : decode cc pc = .ok (.invokevirtual idx, 3)) (hlk : Cond.methodLink own idx y ∈ LW) (hw : zMW y bytes nL' rt As.length) (hin : Cond.instanceMethod y ∈ LW) (hse : Cond.selects Cn y y ∈ LW) (hc : vwCl[ci]? = some (Cn, T, N)) (hb : M b = some (.inr (ci, fs))) (hM : zCon l γ y bytes nL' rt (.ref b :: As) M fr lo mc' ms' post' px') (hst : st = As.reverse ++ .ref b :: rest) (hW : (rest.map fun v => v.category).sum ≤ 8) (hR : fr + 1 ≤ R.frames ∧ 8 + (nL' + 11) + lo ≤ R.locals ∧ k + mc' ≤ R.cells ∧ n + ms' ≤ R.slots) (kx : ∀ E M', px' E M' → zXW p l e R s m args below meth c γ nL Q M' (k + mc') (n + ms') pc L E) (kk : ∀ v M', post' v M' → zAW p l e R s m args below meth c γ nL Q M' (k + mc') (n + ms') (pc + 3) L (v.toList ++ rest)) : zAW p l e R s m args below meth c γ nL Q M k n pc L st := by
  refine z_run (a := (Value.ref b :: As).toArray) (fun H locs ls hH hl hL hz => ?_) kx kk
  have hP : va_P γ.1 vwCl [(b, .inr (ci, fs))] H := by
    intro j q hq
    have hj : j < 1 := (List.getElem?_eq_some_iff.mp hq).1
    rw [show j = 0 by omega] at hq
    cases hq
    exact (hH.2 b _ hb).2
  exact vx_runV (C := Cn) (n := As.length) ⟨C.ex, C.by, C.ml, C.ow, C.ws⟩ (hM C.tr) ⟨⟨rfl, rfl, hR.1, hR.2.1, zPay C hw, List.mem_cons_self, C.ws _ hw.1, C.ws _ hw.2.1, ⟨hw.2.2.1, hw.2.2.2.1⟩, hw.sig, C.ws _ hlk⟩, C.ws _ hin, C.ws _ hse⟩ ⟨zBlind, va_recv C.K hP (ci := ci) (q0 := 0) hc rfl, fun U hU hW => ⟨rfl, by rw [hU]; exact hH, C.ev.warm hW⟩⟩ rfl rfl hL.1 hst (lv_room hW) hd ⟨hR.2.2.1, hR.2.2.2⟩
theorem z_callVN (C : zC p l s m args meth c γ cc nL ret own xt) {y : MethodName} {bytes : ByteArray} {nL' idx fr lo mc' ms' : Nat} {rt : Option FieldType} {post' : Option Value → zM → Prop} {px' : String → zM → Prop} {As rest : List Value} {Cn : String} {T : u_T} {N b ci : Nat} {fs : List Value} {host : String} (hd : decode cc pc = .ok (.invokevirtual idx, 3)) (hlk : (own, idx, y, host) ∈ zNest) (hw : zMW y bytes nL' rt As.length) (hin : Cond.instanceMethod y ∈ LW) (hse : Cond.selects Cn y y ∈ LW) (hc : vwCl[ci]? = some (Cn, T, N)) (hb : M b = some (.inr (ci, fs))) (hM : zCon l γ y bytes nL' rt (.ref b :: As) M fr lo mc' ms' post' px') (hst : st = As.reverse ++ .ref b :: rest) (hW : (rest.map fun v => v.category).sum ≤ 8) (hR : fr + 1 ≤ R.frames ∧ 8 + (nL' + 11) + lo ≤ R.locals ∧ k + mc' ≤ R.cells ∧ n + ms' ≤ R.slots) (kx : ∀ E M', px' E M' → zXW p l e R s m args below meth c γ nL Q M' (k + mc') (n + ms') pc L E) (kk : ∀ v M', post' v M' → zAW p l e R s m args below meth c γ nL Q M' (k + mc') (n + ms') (pc + 3) L (v.toList ++ rest)) : zAW p l e R s m args below meth c γ nL Q M k n pc L st := by
  refine z_run (a := (Value.ref b :: As).toArray) (fun H locs ls hH hl hL hz => ?_) kx kk
  have hP : va_P γ.1 vwCl [(b, .inr (ci, fs))] H := by
    intro j q hq
    have hj : j < 1 := (List.getElem?_eq_some_iff.mp hq).1
    rw [show j = 0 by omega] at hq
    cases hq
    exact (hH.2 b _ hb).2
  exact vx_runVN (C := Cn) (n := As.length) ⟨C.ex, C.by, C.ml, C.ow, C.ws⟩ (hM C.tr) ⟨⟨⟨rfl, rfl, hR.1, hR.2.1, zPay C hw, List.mem_cons_self⟩, C.ws _ hw.1, C.ws _ hw.2.1, ⟨hw.2.2.1, hw.2.2.2.1⟩, hw.sig, va_Nw.use rfl (C.ev.2.2.2.2.2.2.1 _ hlk)⟩, C.ws _ hin, C.ws _ hse⟩ ⟨zBlind, va_recv C.K hP (ci := ci) (q0 := 0) hc rfl, fun U hU hW => ⟨rfl, by rw [hU]; exact hH, C.ev.warm hW⟩⟩ rfl rfl hL.1 hst (lv_room hW) hd ⟨hR.2.2.1, hR.2.2.2⟩
theorem z_callS (C : zC p l s m args meth c γ cc nL ret own xt) {y : MethodName} {bytes : ByteArray} {nL' idx fr lo mc' ms' : Nat} {rt : Option FieldType} {post' : Option Value → zM → Prop} {px' : String → zM → Prop} {As rest : List Value} (hd : decode cc pc = .ok (.invokestatic idx, 3)) (hlk : Cond.methodLink own idx y ∈ LW) (hw : zMW y bytes nL' rt As.length) (hstat : Cond.static y ∈ LW) (hM : zCon l γ y bytes nL' rt As M fr lo mc' ms' post' px') (hst : st = As.reverse ++ rest) (hW : (rest.map fun v => v.category).sum ≤ 8) (hR : fr + 1 ≤ R.frames ∧ 8 + (nL' + 11) + lo ≤ R.locals ∧ k + mc' ≤ R.cells ∧ n + ms' ≤ R.slots) (kx : ∀ E M', px' E M' → zXW p l e R s m args below meth c γ nL Q M' (k + mc') (n + ms') pc L E) (kk : ∀ v M', post' v M' → zAW p l e R s m args below meth c γ nL Q M' (k + mc') (n + ms') (pc + 3) L (v.toList ++ rest)) : zAW p l e R s m args below meth c γ nL Q M k n pc L st :=
  z_run (a := As.toArray) (fun H locs ls hH hl hL hz => vx_runS (n := As.length) ⟨C.ex, C.by, C.ml, C.ow, C.ws⟩ (hM C.tr) ⟨⟨rfl, rfl, hR.1, hR.2.1, zPay C hw, List.mem_cons_self, C.ws _ hw.1, C.ws _ hw.2.1, ⟨hw.2.2.1, hw.2.2.2.1⟩, hw.sig, C.ws _ hlk⟩, C.ws _ hstat⟩ ⟨zBlind, fun U hU hW => ⟨rfl, by rw [hU]; exact hH, C.ev.warm hW⟩⟩ rfl rfl hL.1 hst (lv_room hW) hd ⟨hR.2.2.1, hR.2.2.2⟩) kx kk
theorem z_callSN (C : zC p l s m args meth c γ cc nL ret own xt) {y : MethodName} {bytes : ByteArray} {nL' idx fr lo mc' ms' : Nat} {rt : Option FieldType} {post' : Option Value → zM → Prop} {px' : String → zM → Prop} {As rest : List Value} {host : String} (hd : decode cc pc = .ok (.invokestatic idx, 3)) (hlk : (own, idx, y, host) ∈ zNest) (hw : zMW y bytes nL' rt As.length) (hstat : Cond.static y ∈ LW) (hM : zCon l γ y bytes nL' rt As M fr lo mc' ms' post' px') (hst : st = As.reverse ++ rest) (hW : (rest.map fun v => v.category).sum ≤ 8) (hR : fr + 1 ≤ R.frames ∧ 8 + (nL' + 11) + lo ≤ R.locals ∧ k + mc' ≤ R.cells ∧ n + ms' ≤ R.slots) (kx : ∀ E M', px' E M' → zXW p l e R s m args below meth c γ nL Q M' (k + mc') (n + ms') pc L E) (kk : ∀ v M', post' v M' → zAW p l e R s m args below meth c γ nL Q M' (k + mc') (n + ms') (pc + 3) L (v.toList ++ rest)) : zAW p l e R s m args below meth c γ nL Q M k n pc L st :=
  z_run (a := As.toArray) (fun H locs ls hH hl hL hz => vx_runSN (n := As.length) ⟨C.ex, C.by, C.ml, C.ow, C.ws⟩ (hM C.tr) ⟨⟨⟨rfl, rfl, hR.1, hR.2.1, zPay C hw, List.mem_cons_self⟩, C.ws _ hw.1, C.ws _ hw.2.1, ⟨hw.2.2.1, hw.2.2.2.1⟩, hw.sig, va_Nw.use rfl (C.ev.2.2.2.2.2.2.1 _ hlk)⟩, C.ws _ hstat, trivial⟩ ⟨zBlind, fun U hU hW => ⟨rfl, by rw [hU]; exact hH, C.ev.warm hW⟩⟩ rfl rfl hL.1 hst (lv_room hW) hd ⟨hR.2.2.1, hR.2.2.2⟩) kx kk
theorem z_callI (C : zC p l s m args meth c γ cc nL ret own xt) {y : MethodName} {bytes : ByteArray} {nL' idx fr lo mc' ms' : Nat} {post' : Option Value → zM → Prop} {px' : String → zM → Prop} {As rest : List Value} {b : Nat} (hd : decode cc pc = .ok (.invokespecial idx, 3)) (hlk : Cond.methodLink own idx y ∈ LW) (hw : zMW y bytes nL' none As.length) (hnm : y.name = "<init>") (hin : Cond.instanceMethod y ∈ LW) (hM : zCon l γ y bytes nL' none (.ref b :: As) M fr lo mc' ms' post' px') (hst : st = As.reverse ++ .ref b :: rest) (hW : (rest.map fun v => v.category).sum ≤ 8) (hR : fr + 1 ≤ R.frames ∧ 8 + (nL' + 11) + lo ≤ R.locals ∧ k + mc' ≤ R.cells ∧ n + ms' ≤ R.slots) (kx : ∀ E M', px' E M' → zXW p l e R s m args below meth c γ nL Q M' (k + mc') (n + ms') pc L E) (kk : ∀ v M', post' v M' → zAW p l e R s m args below meth c γ nL Q M' (k + mc') (n + ms') (pc + 3) L (v.toList ++ rest)) : zAW p l e R s m args below meth c γ nL Q M k n pc L st :=
  z_run (a := (Value.ref b :: As).toArray) (fun H locs ls hH hl hL hz => vx_runI (n := As.length) ⟨C.ex, C.by, C.ml, C.ow, C.ws⟩ (hM C.tr) ⟨⟨rfl, rfl, hR.1, hR.2.1, zPay C hw, List.mem_cons_self, C.ws _ hw.1, C.ws _ hw.2.1, ⟨hw.2.2.1, hw.2.2.2.1⟩, hw.sig, C.ws _ hlk⟩, hnm, C.ws _ hin⟩ ⟨zBlind, fun U hU hW => ⟨rfl, by rw [hU]; exact hH, C.ev.warm hW⟩⟩ rfl rfl hL.1 hst (lv_room hW) hd ⟨hR.2.2.1, hR.2.2.2⟩) kx kk
theorem z_callIN (C : zC p l s m args meth c γ cc nL ret own xt) {y : MethodName} {bytes : ByteArray} {nL' idx fr lo mc' ms' : Nat} {post' : Option Value → zM → Prop} {px' : String → zM → Prop} {As rest : List Value} {b : Nat} {host : String} (hd : decode cc pc = .ok (.invokespecial idx, 3)) (hlk : (own, idx, y, host) ∈ zNest) (hw : zMW y bytes nL' none As.length) (hnm : y.name = "<init>") (hin : Cond.instanceMethod y ∈ LW) (hM : zCon l γ y bytes nL' none (.ref b :: As) M fr lo mc' ms' post' px') (hst : st = As.reverse ++ .ref b :: rest) (hW : (rest.map fun v => v.category).sum ≤ 8) (hR : fr + 1 ≤ R.frames ∧ 8 + (nL' + 11) + lo ≤ R.locals ∧ k + mc' ≤ R.cells ∧ n + ms' ≤ R.slots) (kx : ∀ E M', px' E M' → zXW p l e R s m args below meth c γ nL Q M' (k + mc') (n + ms') pc L E) (kk : ∀ v M', post' v M' → zAW p l e R s m args below meth c γ nL Q M' (k + mc') (n + ms') (pc + 3) L (v.toList ++ rest)) : zAW p l e R s m args below meth c γ nL Q M k n pc L st :=
  z_run (a := (Value.ref b :: As).toArray) (fun H locs ls hH hl hL hz => vx_runIN (n := As.length) ⟨C.ex, C.by, C.ml, C.ow, C.ws⟩ (hM C.tr) ⟨⟨⟨rfl, rfl, hR.1, hR.2.1, zPay C hw, List.mem_cons_self⟩, C.ws _ hw.1, C.ws _ hw.2.1, ⟨hw.2.2.1, hw.2.2.2.1⟩, hw.sig, va_Nw.use rfl (C.ev.2.2.2.2.2.2.1 _ hlk)⟩, hnm, C.ws _ hin⟩ ⟨zBlind, fun U hU hW => ⟨rfl, by rw [hU]; exact hH, C.ev.warm hW⟩⟩ rfl rfl hL.1 hst (lv_room hW) hd ⟨hR.2.2.1, hR.2.2.2⟩) kx kk
theorem z_objInit (C : zC p l s m args meth c γ cc nL ret own xt) {idx b : Nat} (hd : decode cc pc = .ok (.invokespecial idx, 3)) (hlk : Cond.methodLink own idx objectInit ∈ LW) (hin : Cond.instanceMethod objectInit ∈ LW) (hco : Cond.code objectInit ⟨#[0xb1]⟩ 1 none ∈ LW) (hR : 1 ≤ R.frames ∧ (st.map fun v => v.category).sum + 12 ≤ R.locals) (kk : zAW p l e R s m args below meth c γ nL Q M k n (pc + 3) L st) : zAW p l e R s m args below meth c γ nL Q M k n pc L (.ref b :: st) := by
  intro H locs ls hH hl hL hz
  refine W.objInit C.ex C.by C.ow (C.ws _ hlk) (C.ws _ hin) (C.ws _ hco) rfl (by rw [C.ml]; exact hL.1) rfl hd hR.1 (by show 2 * 0 + _ + 12 ≤ _; omega) ?_
  exact kk H locs ls hH hl hL hz
def zNW (own : String) (index ci N : Nat) (fs : List Value) : Prop := ∃ (Cn : String) (T : u_T) (ty0 : Nat → FieldType), Cond.classLink own index Cn ∈ LW ∧ Cond.instantiable Cn N ∈ LW ∧ Cond.initialized Cn ∈ LW ∧ (∀ w ∈ u_ws Cn T N, w ∈ LW) ∧ vwCl[ci]? = some (Cn, T, N) ∧ (∀ k, k < N → parseFieldDescriptor (T k).2.2.1 = some (ty0 k)) ∧ ∀ j, j < N → defaultValue (ty0 j) = vp_V fs j
theorem z_new (C : zC p l s m args meth c γ cc nL ret own xt) {index ci N : Nat} {fs : List Value} (hd : decode cc pc = .ok (.new index, 3)) (hN : zNW own index ci N fs) (hR : k + 1 ≤ R.cells ∧ n + N ≤ R.slots) (kk : ∀ q : Nat, M q = none → zAW p l e R s m args below meth c γ nL Q (va_up M q (some (.inr (ci, fs)))) (k + 1) (n + N) (pc + 3) L (.ref q :: st)) : zAW p l e R s m args below meth c γ nL Q M k n pc L st := by
  intro H locs ls hH hl hL hz
  obtain ⟨Cn, T, ty0, h1, h2, h3, h4, h5, h6, h7⟩ := hN
  have hKn := C.K.1 ci _ h5
  refine W.newcK C.ex C.by C.ow (C.ws _ h1) (C.ws _ h2) (C.ws _ h3) rfl hd hR.1 hR.2 hKn.2.1 rfl fun H1 kC hkC e1 z1 o1 => ?_
  exact kk H.size hH.free H1 locs ls (hH.push z1 o1 ⟨_, h5, (u_born ty0 C.ws h4 hKn hkC e1 h6).to h7⟩) hl hL (by omega)
theorem z_newI (C : zC p l s m args meth c γ cc nL ret own xt) {N : Int} (hd : decode cc pc = .ok (.newarray .int, 2)) (ha : Cond.arrayClass .int ∈ LW) (hN : 0 ≤ N ∧ N ≤ 60000) (hR : k + 1 ≤ R.cells ∧ n + N.toNat ≤ R.slots) (kk : ∀ q : Nat, M q = none → zAW p l e R s m args below meth c γ nL Q (va_up M q (some (zaI γ N.toNat (fun _ => 0)))) (k + 1) (n + N.toNat) (pc + 2) L (.ref q :: st)) : zAW p l e R s m args below meth c γ nL Q M k n pc L (.int (zi N) :: st) := by
  intro H locs ls hH hl hL hz
  have hcl : (zi N).toNatClampNeg = N.toNat := by
    show (zi N).toInt.toNat = _
    rw [zi_toInt (by omega)]
  refine va_newaK C.ex C.by (atype := .int) (C.ws _ ha) rfl hd rfl (fun h => by rw [zi_0, zi_lt (by omega) (by omega)] at h; omega) hcl (by show N.toNat * _ ≤ _; simp only [newarray.typeOf, componentBytes]; omega) hR.1 hR.2 rfl fun H1 cA e1 z1 o1 hAr hNm => ?_
  have hcA : cA = γ.2.2.1 0 := Option.some.inj (hNm.symm.trans (zK_ty C (i := 0) (by omega)).2)
  subst hcA
  refine kk H.size hH.free H1 locs ls (hH.push z1 o1 ?_) hl hL (by omega)
  show H1[H.size]? = some (vp_cell _ _)
  rw [vp_cell_i]
  exact e1
theorem z_newZ (C : zC p l s m args meth c γ cc nL ret own xt) {N : Int} (hd : decode cc pc = .ok (.newarray .boolean, 2)) (ha : Cond.arrayClass .boolean ∈ LW) (hN : 0 ≤ N ∧ N ≤ 60000) (hR : k + 1 ≤ R.cells ∧ n + N.toNat ≤ R.slots) (kk : ∀ q : Nat, M q = none → zAW p l e R s m args below meth c γ nL Q (va_up M q (some (zaZ γ N.toNat (fun _ => 0)))) (k + 1) (n + N.toNat) (pc + 2) L (.ref q :: st)) : zAW p l e R s m args below meth c γ nL Q M k n pc L (.int (zi N) :: st) := by
  intro H locs ls hH hl hL hz
  have hcl : (zi N).toNatClampNeg = N.toNat := by
    show (zi N).toInt.toNat = _
    rw [zi_toInt (by omega)]
  refine va_newaK C.ex C.by (atype := .boolean) (C.ws _ ha) rfl hd rfl (fun h => by rw [zi_0, zi_lt (by omega) (by omega)] at h; omega) hcl (by show N.toNat * _ ≤ _; simp only [newarray.typeOf, componentBytes]; omega) hR.1 hR.2 rfl fun H1 cA e1 z1 o1 hAr hNm => ?_
  have hcA : cA = γ.2.2.1 1 := Option.some.inj (hNm.symm.trans (zK_ty C (i := 1) (by omega)).2)
  subst hcA
  refine kk H.size hH.free H1 locs ls (hH.push z1 o1 ?_) hl hL (by omega)
  show H1[H.size]? = some (vp_cell _ _)
  rw [vp_cell_i]
  exact e1
theorem z_newB (C : zC p l s m args meth c γ cc nL ret own xt) {N : Int} (hd : decode cc pc = .ok (.newarray .byte, 2)) (ha : Cond.arrayClass .byte ∈ LW) (hN : 0 ≤ N ∧ N ≤ 60000) (hR : k + 1 ≤ R.cells ∧ n + N.toNat ≤ R.slots) (kk : ∀ q : Nat, M q = none → zAW p l e R s m args below meth c γ nL Q (va_up M q (some (zaB γ N.toNat (fun _ => 0)))) (k + 1) (n + N.toNat) (pc + 2) L (.ref q :: st)) : zAW p l e R s m args below meth c γ nL Q M k n pc L (.int (zi N) :: st) := by
  intro H locs ls hH hl hL hz
  have hcl : (zi N).toNatClampNeg = N.toNat := by
    show (zi N).toInt.toNat = _
    rw [zi_toInt (by omega)]
  refine va_newaK C.ex C.by (atype := .byte) (C.ws _ ha) rfl hd rfl (fun h => by rw [zi_0, zi_lt (by omega) (by omega)] at h; omega) hcl (by show N.toNat * _ ≤ _; simp only [newarray.typeOf, componentBytes]; omega) hR.1 hR.2 rfl fun H1 cA e1 z1 o1 hAr hNm => ?_
  have hcA : cA = γ.2.2.1 2 := Option.some.inj (hNm.symm.trans (zK_ty C (i := 2) (by omega)).2)
  subst hcA
  refine kk H.size hH.free H1 locs ls (hH.push z1 o1 ?_) hl hL (by omega)
  show H1[H.size]? = some (vp_cell _ _)
  rw [vp_cell_i]
  exact e1
end ZR4
