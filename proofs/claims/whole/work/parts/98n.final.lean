/-! the claim -/
/-! THE CLAIM OUT OF ONE WALK OF THE LAW'S BODY. Your part is whole_start (and what it stands on); all else here is the same for every law, but numbers. -/
def R_law : String := "TrigramReadersLaw"
def lw_P (b : Addr) (xs : List Int32) (args : Array Value) (s : State) : Prop := args = #[.ref b] ∧ s.IntsAt b xs ∧ xs.length ≤ 3072 ∧ (Jvm.Cond.and given_1 narrow_1).before args s = true
/-- what a walk over the start with the record d0 says of its end, said of the start itself -/
theorem lw_closed {s t : State} {o : Outcome} {d0 : Drawn} {L : List Loc} {k n : Nat} (hd0 : s.drawn.sameBut d0 lw_cs) (hv : ∃ v, o = .returned v) (hW : (s.setDrawn d0).WarmedH t.vm) (hs : (s.setDrawn d0).sameButNew ({ t with vm := s.vm } : State) L k n) : State.butDraws s t lw_cs (fun t1 => Framed s o t1 L k n) := by
  have h2 : t.drawn = d0 := congrArg State.drawn hs.1
  refine ⟨⟨hv, hW, State.sameButNew.setDrawn hs s.drawn⟩, ?_, by decide⟩
  rw [h2]
  exact hd0
def lw_Q (_ : Array Value) (s : State) (o : Outcome) (t : State) : Prop := o = .returned (some (.int 1)) ∧ State.butDraws s t lw_cs (fun t1 => Framed s o t1 [] 601024 7293034)
def lw_Z (below : List Frame) (a : Array Value) (s : State) : State → Prop := fun t => ∃ o, t.status = .running ∧ Ended t below o ∧ lw_Q a s o t
/-- the law's own end, with 1 on the stack, nothing written that was there before, its room as the claim has it; d0: the record of draws at this point (at the entry s.drawn: begin with 'refine W.base ?_' and 'have hd0 := Drawn.sameBut.refl s.drawn lw_cs') -/
theorem lw_ret {p : Program} {l : Launch} {e : Env} {s : State} {m : MethodId} {below : List Frame} {meth : Method} {c : Code} {b : Nat} {d0 : Drawn} (hd0 : s.drawn.sameBut d0 lw_cs) (hx : p.tables.exec = Jvm.exec) (hb : c.code = code) (hr : meth.sig.returnType = ret) (hlocks : meth.locks = false) {pc : Nat} {H : Heap} {ls : Array Slot} (hdg : decode code pc = .ok (.ireturn, 1)) : W p l e room_1 (s.setDrawn d0) m #[Value.ref b] below meth c H [] 601024 7293034 (lw_Z below #[Value.ref b] s) (F0 m pc ls [.int 1]) := by
  intro T hT X
  obtain ⟨fs, hret, hrun, hended, hW, hframe⟩ := X.leave (v := some (.int 1)) (hlocks := hlocks) (fun h => by rw [hr] at h; cases h)
  have hmeth' : T.vm.method? m = some meth := X.method'
  refine ⟨T.setFrames fs, ?_, .returned (some (.int 1)), hrun, hended, rfl, lw_closed hd0 ⟨_, rfl⟩ hW hframe⟩
  jvm_step X.here [X.here.top, hx, hb, hdg, hmeth', hr, ret, narrow_b1]
  (try refine ⟨rfl, ?_⟩); (try refine ⟨rfl, ?_⟩)
  first | (intro acts; rw [hret _ acts rfl rfl rfl]) | rw [hret _ _ rfl rfl rfl]
  exact Steps.refl _
/-- what holds at the law's entry: the machine, the code, the tables' words (any of lw_tbl by 'hts w (by decide +kernel)'), the script of L ints xs at the cell b, what the Statement gives of the start (any of its parts by flat_of_before) -/
def lw_At (p : Program) (s : State) (m : MethodId) (meth : Method) (c : Code) (b L : Nat) (xs : Nat → Int32) : Prop :=
  p.tables.exec = Jvm.exec ∧ c.code = code ∧ meth.sig.returnType = ret ∧ c.maxLocals = 9 ∧ s.vm.findClass R_law = some m.cls ∧ (∀ w ∈ lw_tbl, w.before #[Value.ref b] s = true) ∧ va_X b L xs s s.heap ∧ b < s.heap.size ∧ meth.locks = false ∧ (Jvm.Cond.and given_1 narrow_1).before #[Value.ref b] s = true ∧ ∃ y : MethodName, s.methodNamed? y = some m ∧ meth.name = y.name
theorem zFs9_ok : zOk zFs9 := by
  have hO : hBo zF0 117 := ⟨by omega, fun j => by have := zF0_rng j; unfold zR; omega, fun j _ => by have := zF0_rng j; omega⟩
  have h := zpA_ok hO 501 zS0 0 (by omega) zS0_ok (by rw [zp_first])
  rw [zp_first] at h
  exact h
theorem zY0_ok : yOk zY0 := ⟨zFs9_ok, ⟨by decide, by decide⟩, fun i (hi : (i : Int) < 0) => by omega, fun k _ => ⟨.inl rfl, fun w => absurd rfl w⟩⟩
theorem hFc.dom {γ : zG} {M : zM} {U : Nat → Nat} {Y : zSys} (h : hFc γ M U Y) : ∀ i, i < 532 → ∃ x, M (U i) = some x := by
  obtain ⟨hI, pn, Z, iF, oF, hZ, hF, hX, -, -⟩ := h
  exact hFx.dom hF hX
theorem hFc.up {γ : zG} {M : zM} {U : Nat → Nat} {Y : zSys} {q : Nat} {x : Option va_E} (h : hFc γ M U Y) (hq : ∀ i, i < 532 → U i ≠ q) : hFc γ (va_up M q x) U Y := h.frm (S := [q]) (fun b hb => va_up_ne _ _ (fun w => hb (by rw [w]; exact List.mem_cons_self))) (fun i hi w => hq i hi (List.mem_singleton.mp w))
theorem hMo.dom {γ : zG} {M : zM} {A : Nat → Nat} {Y : zSys} {th : Int} (h : hMo γ M A Y th) : ∀ j, j < 15 → ∃ x, M (A j) = some x := by
  obtain ⟨-, F, -, ⟨s0, ⟨h7, s7, -⟩, ⟨h8, s8, -⟩, h9, s9, -⟩, -, ⟨-, -, g4, s4, -⟩, ⟨⟨e6, s6, -⟩, g5, s5, -⟩, ⟨-, f11, s11, -⟩, ⟨-, -, h13, s13, -⟩, ⟨g1, s1, -⟩, ⟨g2, s2, -⟩, ⟨g3, s3, -⟩, ⟨e10, s10⟩, ⟨e12, s12⟩, g14, s14, -⟩ := h
  intro j hj
  match j, hj with
  | 0, _ => exact ⟨_, s0⟩
  | 1, _ => exact ⟨_, s1⟩
  | 2, _ => exact ⟨_, s2⟩
  | 3, _ => exact ⟨_, s3⟩
  | 4, _ => exact ⟨_, s4⟩
  | 5, _ => exact ⟨_, s5⟩
  | 6, _ => exact ⟨_, s6⟩
  | 7, _ => exact ⟨_, s7⟩
  | 8, _ => exact ⟨_, s8⟩
  | 9, _ => exact ⟨_, s9⟩
  | 10, _ => exact ⟨_, s10⟩
  | 11, _ => exact ⟨_, s11⟩
  | 12, _ => exact ⟨_, s12⟩
  | 13, _ => exact ⟨_, s13⟩
  | 14, _ => exact ⟨_, s14⟩
  | j + 15, h => exact absurd h (by omega)
set_option maxHeartbeats 4000000 in
set_option maxRecDepth 100000 in
theorem law_all {p : Program} {l : Launch} {e : Env} {s : State} {m : MethodId} {args : Array Value} {below : List Frame} {meth : Method} {c : Code} {γ : zG} {Q : State → Prop} {xt : List ExceptionTableEntry} (C : zC p l s m args meth c γ cL_law 9 (some .boolean) RL xt) {b N : Nat} {ys : Nat → Int} (hXs : va_X b N (fun j => zi (ys j)) s s.heap) (hbs : b < γ.2.1.size) (hN : N ≤ 3072) (hys : ∀ j, zR (ys j)) (fin : ∀ M' k' n' L', k' ≤ 601024 → n' ≤ 7293034 → zAW p l e room_1 s m args below meth c γ 9 Q M' k' n' 4255 L' []) : zAW p l e room_1 s m args below meth c γ 9 Q (fun _ => none) 0 0 0 [some (.ref b), none, none, none, none, none, none, none, none] [] := by
  refine z_new C dL_law_0 nw_L_8 ⟨by decide, by decide⟩ (fun q0 hq0 => ?_)
  refine z_dup C dL_law_3 rfl ?_
  refine z_callI C dL_law_4 lk_L_192 mw_X8_init rfl mi_X8_init (k_X8_init (va_up_self _ _ _)) rfl (by first | decide | exact Nat.le_of_ble_eq_true rfl) ⟨by decide, by decide, by decide, by decide⟩ (fun _ _ h => False.elim h) (fun v M' hp => ?_)
  obtain ⟨rfl, U, rfl, hU, fU, hc4⟩ := hp
  refine z_astore_n C dL_law_7 (by decide) ?_
  refine z_new C dL_law_8 nw_L_193 ⟨by decide, by decide⟩ (fun q8 hq8 => ?_)
  refine z_dup C dL_law_11 rfl ?_
  refine z_callI C dL_law_12 lk_L_195 mw_X9_init rfl mi_X9_init (k_X9_init (va_up_self _ _ _)) rfl (by first | decide | exact Nat.le_of_ble_eq_true rfl) ⟨by decide, by decide, by decide, by decide⟩ (fun _ _ h => False.elim h) (fun v M' hp => ?_)
  obtain ⟨rfl, A, rfl, hA, fA, hm12⟩ := hp
  refine z_astore_n C dL_law_15 (by decide) ?_
  refine z_iconst C dL_law_16 ?_
  refine z_newJ C dL_law_17 t8_228 (by omega) ⟨by decide, by decide⟩ (fun q17 hq17 => ?_)
  refine z_astore_n C dL_law_19 (by decide) ?_
  refine z_iconst C dL_law_20 ?_
  refine z_newD C dL_law_21 t8_229 (by omega) ⟨by decide, by decide⟩ (fun q21 hq21 => ?_)
  refine z_astore C dL_law_23 (by decide) ?_
  refine z_iconst C dL_law_25 ?_
  refine z_istore C dL_law_26 (by decide) ?_
  have d4 := hc4.dom
  have u8 : ∀ i, i < 532 → U i ≠ A 0 := fun i hi w => by
    obtain ⟨x, hx⟩ := d4 i hi
    rw [w, hq8] at hx
    cases hx
  have hUA : ∀ i j, i < 532 → j < 15 → U i ≠ A j := fun i j hi hj w => by
    by_cases j0 : j = 0
    · rw [j0] at w
      exact u8 i hi w
    · obtain ⟨x, hx⟩ := d4 i hi
      have h1 := hA j (by omega) hj
      rw [← w, va_up_ne _ _ (u8 i hi), hx] at h1
      cases h1
  have hc12 := (hc4.up u8).frm (S := (List.range 15).map A) fA (fun i hi => mAll.no (fun j hj w => hUA i j hi hj w.symm))
  have d12 := hc12.dom
  have e12 := hm12.dom
  have uo : ∀ i, i < 532 → U i ≠ q17 := fun i hi w => by
    obtain ⟨x, hx⟩ := d12 i hi
    rw [w, hq17] at hx
    cases hx
  have ao : ∀ j, j < 15 → A j ≠ q17 := fun j hj w => by
    obtain ⟨x, hx⟩ := e12 j hj
    rw [w, hq17] at hx
    cases hx
  have od : q17 ≠ q21 := fun w => by
    rw [← w, va_up_self] at hq21
    cases hq21
  have hq21' := hq21
  rw [va_up_ne _ _ (fun w => od w.symm)] at hq21'
  have ud : ∀ i, i < 532 → U i ≠ q21 := fun i hi w => by
    obtain ⟨x, hx⟩ := d12 i hi
    rw [w, hq21'] at hx
    cases hx
  have ad : ∀ j, j < 15 → A j ≠ q21 := fun j hj w => by
    obtain ⟨x, hx⟩ := e12 j hj
    rw [w, hq21'] at hx
    cases hx
  refine z_kn (k' := 578) (n' := 154514) rfl rfl ?_
  refine law_loop C hXs hbs hN hys fin 512 _ zY0 0 0 578 154514 (by omega) ⟨(hc12.up uo).up ud, zY0_ok, hm12.frm (fun j hj => ?_), hUA, ⟨_, (va_up_ne _ _ od).trans (va_up_self _ _ _)⟩, ⟨_, va_up_self _ _ _⟩, uo, ud, ao, ad, od⟩ (by omega) (by omega) (by omega)
  rw [va_up_ne _ _ (ad j hj), va_up_ne _ _ (ao j hj)]
theorem zi_toR (x : Int32) : x = zi x.toInt ∧ zR x.toInt := by
  refine ⟨?_, ?_⟩
  · unfold zi
    exact (Int32.ofInt_toInt x).symm
  · unfold zR
    have h1 := x.le_toInt
    have h2 := x.toInt_lt
    omega
theorem whole_start {p : Program} {e : Env} {s : State} {m : MethodId} {below : List Frame} {meth : Method} {c : Code} (l : Launch) (hflags : l.flags = flags0) {b L : Nat} {xs : Nat → Int32} (hL : L ≤ 3072) (C0 : lw_At p s m meth c b L xs) : W p l e room_1 s m #[Value.ref b] below meth c s.heap [] 0 0 (lw_Z below #[Value.ref b] s) (entryFrame m ([Value.ref b] : List Value).toArray 9) := by
  obtain ⟨hx, hb, hr, hml, hown, hts, hX, hbl, hlocks, hgv, hnm⟩ := C0
  obtain ⟨γ, hγ, hev⟩ := st_ev hts hgv
  have hl0 : l.stackTraces = false := by
    unfold Launch.stackTraces
    rw [hflags]
    decide +kernel
  have C : zC p l s m #[Value.ref b] meth c γ cL_law 9 (some .boolean) RL c.exceptionTable.toList := ⟨hx, hb, hml, hr, hlocks, hown, fun w hw => hts w (LW_tbl hw), hev, hl0, rfl, by rw [hγ]; exact ⟨Nat.le_refl _, fun q _ => rfl⟩, hnm⟩
  have hX' : va_X b L (fun j => zi (xs j).toInt) s s.heap := by
    rw [show (fun j => zi (xs j).toInt) = xs from funext fun j => (zi_toR (xs j)).1.symm]
    exact hX
  have K := law_all (e := e) (below := below) (Q := lw_Z below #[Value.ref b] s) C hX' (by rw [hγ]; exact hbl) hL (fun j => (zi_toR (xs j)).2) (fun M' k' n' L' hk hn => by
    refine z_iconst C dL_law_4255 ?_
    intro H locs ls hH hl hLs hz
    refine W.widen hk hn ?_
    refine va_forget (fun q hq => by have := hl q hq; rw [hγ] at this; exact this) ?_
    exact W.base (lw_ret (d0 := s.drawn) (Drawn.sameBut.refl s.drawn lw_cs) hx hb hr hlocks dL_law_4256))
  rw [show entryFrame m ([Value.ref b] : List Value).toArray 9 = F0 m 0 ((lg_sl [Value.ref b] ++ List.replicate (9 - (lg_sl [Value.ref b]).length) Slot.unset).toArray) [] from lg_entry_eq m [Value.ref b] 9]
  refine K s.heap [] _ ⟨by rw [hγ]; exact ⟨Nat.le_refl _, fun q _ => rfl⟩, fun a e h => by cases h⟩ (fun q h => by cases h) ?_ (Nat.le_refl _)
  exact lv_entry [Value.ref b] (Nat.le_of_ble_eq_true rfl)
set_option maxHeartbeats 4000000 in
theorem lw_walk (l : Launch) (hflags : l.flags = flags0) (b : Addr) (xs : List Int32) : MetFree l x (headSpec (Jvm.Cond.code x code maxLocals ret :: tables_1) room_1) (lw_P b xs) (fun _ _ _ _ _ => True) lw_Q := by
  refine MetFree.of_bodyS (code := code) (maxLocals := maxLocals) (ret := ret) (by decide) ?_ ?_
  · intro args s m h hn
    obtain ⟨meth, c, h1, h2, h3, h4, h5, h6, -, -⟩ := Cond.code_spec hn (atoms_spec (ws := Jvm.Cond.code x code maxLocals ret :: tables_1) h _ List.mem_cons_self)
    exact ⟨meth, c, h1, h2, h3, h4, h5, h6⟩
  · intro p e s m args below meth c s₁ B hml0 hP _
    obtain ⟨rfl, hx, hbd, hgv⟩ := hP
    obtain ⟨scr, harrAt, hlist, hof, hsmall⟩ := hx
    obtain ⟨hcb, hkn, -, -⟩ := State.arrayAt?_spec harrAt
    have hown : s.vm.findClass R_law = some m.cls := findClass_of_methodNamed B.named
    have hts0 : ∀ c ∈ (Jvm.Cond.code x code maxLocals ret :: tables_1), c.before #[Value.ref b] s = true := atoms_spec (ws := Jvm.Cond.code x code maxLocals ret :: tables_1) B.pre
    have hts : ∀ w ∈ lw_tbl, w.before #[Value.ref b] s = true := k2_hts_sels lw_privs (fun w hw => hts0 w (List.mem_cons_of_mem _ hw)) lw_privs_ok
    have hml : c.maxLocals = 9 := B.maxLocals_eq (hts0 _ List.mem_cons_self)
    have X₀ : Stand p l e room_1 s m #[Value.ref b] below meth c s₁ [] 0 0 := Stand.of_body B
    have hh0 : s₁.heap = s.heap := by rw [B.state]; rfl
    have hsz : scr.slots.size = xs.length := by rw [← Array.length_toList, hlist, List.length_map]
    have hval : ∀ j : Nat, j < xs.length → scr.slots[j]? = some (.int (xs.getD j 0)) := fun j hj => by
      rw [← Array.getElem?_toList, hlist]
      simp [hj]
    have hbl : b < s.heap.size := (Array.getElem?_eq_some_iff.mp hcb).1
    have hX : va_X b xs.length (fun j => xs.getD j 0) s s.heap := ⟨scr, hcb, hof, hkn, hsz, hval⟩
    have K : W p l e room_1 s m #[Value.ref b] below meth c s₁.heap [] 0 0 (lw_Z below #[Value.ref b] s) (entryFrame m ([Value.ref b] : List Value).toArray 9) := by
      rw [hh0]
      exact whole_start l hflags hbd ⟨B.exec, B.bytes, B.returns, hml, hown, hts, hX, hbl, B.notSynchronized, hgv, ⟨_, B.named, (name_of_methodNamed B.named B.method).1⟩⟩
    obtain ⟨t, a1, o, b1, b2, b3⟩ := K s₁ rfl X₀
    exact ⟨t, o, a1, b1, b2, b3⟩
theorem lw_pre_spec {args : Array Value} {s : State} (h : (Jvm.Cond.and given_1 narrow_1).before args s = true) (hr : rest_1_c.before args s = true) : ∃ (b : Addr) (xs : List Int32), lw_P b xs args s := by
  have hs := flat_of_before _ h
  have hq := flat_of_before _ hr
  have hc : (Cond.count 1).before args s = true := hs _ (by decide +kernel)
  have harr : (Cond.arrayOf (.arg 0) .int).before args s = true := hs _ (by decide +kernel)
  have hle : (Cond.le (.length (.arg 0)) (.int 3072)).before args s = true := hs _ (by decide +kernel)
  have hlen : (Cond.isInt (.length (.arg 0))).before args s = true := hq _ (by decide +kernel)
  have hall : (Cond.all (.arg 0) (.isInt (.elem (.arg 0) (.index 0)))).before args s = true := hq _ (by decide +kernel)
  obtain ⟨b, xs, hb, hx⟩ := State.ints_of_pre rfl harr hlen hall
  have hsm : xs.length < 2 ^ 31 := hx.choose_spec.2.2.2
  have hev : (Term.length (.arg 0)).eval args s none [] s = some (.int xs.length.toInt32) := hx.length_eval hb
  have hv := Cond.le_ints hev (show (Term.int 3072).eval args s none [] s = some (.int 3072) from rfl)
  have hd : xs.length.toInt32 ≤ 3072 := by
    simpa [Cond.before, Cond.holds, hv] using hle
  have hN : xs.length ≤ 3072 := (Int32.ofNat_le_ofNat hsm (by decide)).mp (show Int32.ofNat xs.length ≤ Int32.ofNat 3072 from hd)
  exact ⟨b, xs, Cond.one_arg hc (show args[0]? = some (.ref b) from hb), hx, hN, h⟩
theorem lw_comes (l : Launch) (hflags : l.flags = flags0) : Comes l x (Jvm.Cond.code x code maxLocals ret :: tables_1) room_1 (fun tb e args s => Calls_1 tb e args s ∧ rest_1 tb e args s ∧ Pre_1 tb e args s)
    (fun _ _ args s o t => lw_Q args s o t) := by
  intro p e ha hc hk s m args below hf hfit hheap happ hpre
  obtain ⟨b, xs, hP⟩ := lw_pre_spec hpre.2.2 hpre.2.1
  obtain ⟨k, o, h1, h2, h3, hQ⟩ := lw_walk l hflags b xs p e ha hc hk s m args below hf ((Spec.applies_iff_loose hf).mp happ).1 hP trivial
  exact ⟨k, o, h1, h2, h3, hQ⟩
theorem lw_frame {s t : State} {o : Outcome} {args : Array Value} (h : State.butDraws s t lw_cs (fun t1 => Framed s o t1 [] 601024 7293034)) :
    State.butDraws s t [Jvm.Choice.named "NaN.bits"] (fun t1 => Framed s o t1 (fieldLocs frame_1_writes args s ++ arrayLocs frame_1_arrays args s ++ staticLocs frame_1_statics s) 601024 7293034) := h
theorem lw_limb (L : Cond) (hL : ∀ (args : Array Value) (s t : State), L.after args s (.returned (some (.int 1))) t = true) :
    ArmFor flags0 classFile x code maxLocals ret World_1 tables_1 room_1 Calls_1 rest_1 Pre_1
      (fun tb e a s o t => postC L tb e a s o t ∧ State.butDraws s t [Jvm.Choice.named "NaN.bits"] (fun t1 => Framed s o t1 (fieldLocs frame_1_writes a s ++ arrayLocs frame_1_arrays a s ++ staticLocs frame_1_statics s) 601024 7293034)) := by
  intro l hflags _ _ p e ha hc hk s m args below hf hfit hheap happ hpre
  obtain ⟨k, o, h1, h2, h3, rfl, hF⟩ := lw_comes l hflags p e ha hc hk s m args below hf hfit hheap happ hpre
  exact ⟨k, _, h1, h2, h3, hL args s _, lw_frame hF⟩
theorem i_vc : Claimed_1_1 ∧ Claimed_1_2 := ⟨lw_limb limb_1_1 (fun args s t => by simp [limb_1_1, Cond.after, Cond.holds, Cond.value]), lw_limb limb_1_2 (fun args s t => Cond.after_iff.mpr (by
  first | (rw [show limb_1_2 = Cond.eq .result (.int 1) from rfl, Cond.eq_ints (x := 1) (y := 1) rfl rfl]; simp; done) | (simp [limb_1_2, Cond.value, Term.eval]; done)))⟩

