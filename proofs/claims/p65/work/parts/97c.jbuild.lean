/-! StringBuilder -/
def hSb (γ : zG) (M : zM) (a v : Nat) (w : List Int) (m : Nat) : Prop := zVw w ∧ (w.length ≤ m ∧ m ≤ 1002) ∧ M a = some (.inr (9, [.ref v, .int (zi 0), .int (zi 0), .int (zi w.length)])) ∧ ∃ g, M v = some (zba γ m g) ∧ zBv g ∧ ∀ j, j < w.length → g j = w.getD j 0
theorem zVw.nil : zVw [] := ⟨by simp, fun x hx => by cases hx⟩
theorem zVw.app {w t : List Int} (h : zVw w) (q : zVw t) (hl : w.length + t.length ≤ 500) : zVw (w ++ t) := ⟨by rw [List.length_append]; exact hl, fun x hx => (List.mem_append.mp hx).elim (h.2 x) (q.2 x)⟩
theorem zVw.one {x : Int} (h : 0 ≤ x ∧ x ≤ 127) : zVw [x] := ⟨by simp, fun y hy => by rw [List.mem_singleton.mp hy]; exact h⟩
theorem zgd_l {w t : List Int} {j : Nat} (h : j < w.length) : (w ++ t).getD j 0 = w.getD j 0 := by
  rw [List.getD_eq_getElem?_getD, List.getD_eq_getElem?_getD, List.getElem?_append_left h]
theorem zgd_r {w t : List Int} {j : Nat} (h : w.length ≤ j) : (w ++ t).getD j 0 = t.getD (j - w.length) 0 := by
  rw [List.getD_eq_getElem?_getD, List.getD_eq_getElem?_getD, List.getElem?_append_right h]
theorem zba_up (γ : zG) (N : Nat) (g : Nat → Int) (k : Nat) (v : Int) : zaB γ N (va_up (fun j => zi (g j)) k (zi v)) = zba γ N (va_up g k v) := by
  refine congrArg (zaB γ N) (funext fun j => ?_)
  unfold va_up
  split <;> rfl
/-- after a change: where the bytes lie now -/
def hBx (γ : zG) (M M' : zM) (a v : Nat) (w : List Int) : Prop := ∃ v2 m2, hSb γ M' a v2 w m2 ∧ (v2 = v ∨ M v2 = none) ∧ zFr M M' [a, v2]
theorem hSb.ne {γ : zG} {M : zM} {a v m : Nat} {w : List Int} (h : hSb γ M a v w m) : a ≠ v := by
  obtain ⟨-, -, h1, g, h2, -⟩ := h
  exact zne_ka h1 h2
section ZT3
variable {p : Program} {l : Launch} {e : Env} {R : Room} {s : State} {m : MethodId} {args : Array Value} {below : List Frame} {meth : Method} {c : Code} {γ : zG} {cc : ByteArray} {nL : Nat} {ret : Option FieldType} {own : String} {xt : List ExceptionTableEntry} {Q : State → Prop} {M : zM} {k n pc mc ms : Nat} {L : zL} {st : List Value}
theorem z_gets (C : zC p l s m args meth c γ cc nL ret own xt) {ix : Nat} {Cn nm ds : String} {v : Value} (hZ : va_Z Cn nm ds v (zA γ) s γ.2.1) (hl : Cond.fieldLink own ix Cn nm ds ∈ LW) (hd : decode cc pc = .ok (.getstatic ix, 3)) (kk : zAW p l e R s m args below meth c γ nL Q M k n (pc + 3) L (v :: st)) : zAW p l e R s m args below meth c γ nL Q M k n pc L st := by
  intro H locs ls hH hlo hL hz
  exact va_gets C.ex C.by (hZ.kept fun a h1 _ => C.hb.2 a h1) (zS_of C hH hlo hz) C.ow (C.ws _ hl) (fun _ h => h) hd (kk H locs ls hH hlo hL hz)
theorem z_stb (C : zC p l s m args meth c γ cc nL ret own xt) {d N : Nat} {f : Nat → Int32} {q : Int} (hT : va_T .byte d N (fun j => .int (f j)) (zA γ) s γ.2.1) (hq : 0 ≤ q ∧ q < N) (hN : N ≤ 2147483648) (hd : decode cc pc = .ok (.baload, 1)) (kk : zAW p l e R s m args below meth c γ nL Q M k n (pc + 1) L (.int (f q.toNat) :: st)) : zAW p l e R s m args below meth c γ nL Q M k n pc L (.int (zi q) :: .ref d :: st) := by
  intro H locs ls hH hlo hL hz
  exact va_tb C.ex C.by (hT.kept fun a h1 _ => C.hb.2 a h1) (zS_of C hH hlo hz) (zi_in hq hN) (by rw [zi_nat hq hN]) hd (kk H locs ls hH hlo hL hz)
theorem z_clone (C : zC p l s m args meth c γ cc nL ret RJ7 xt) {a N : Nat} {g : Nat → Int} (hM : M a = some (zba γ N g)) (hg : zBv g) (hd : decode cc pc = .ok (.invokevirtual 310, 3)) (hR : 1 ≤ R.frames ∧ (st.map fun v => v.category).sum + 14 ≤ R.locals ∧ k + 1 ≤ R.cells ∧ n + N ≤ R.slots) (kk : ∀ q : Nat, M q = none → zAW p l e R s m args below meth c γ nL Q (va_up M q (some (zba γ N g))) (k + 1) (n + N) (pc + 3) L (.ref q :: st)) : zAW p l e R s m args below meth c γ nL Q M k n pc L (.ref a :: st) := by
  intro H locs ls hH hl hL hz
  have hc1 : H[a]? = some (vp_cell (γ.2.2.1 2) (N, .inl (fun j => zi (g j)))) := (hH.2 a _ hM).2
  have hsz : (vp_cell (γ.2.2.1 2) (N, .inl (fun j => zi (g j)))).slots.size = N := by show (arrV _ N (fun j => .int (zi (g j)))).slots.size = N; rw [arrV_size]
  have hnm : s.vm.findClass "[B" = some (γ.2.2.1 2) := (zK_ty C (i := 2) (by omega)).2
  obtain ⟨c0, t0', f1, f2, f3⟩ := Cond.castable_spec (va_Nw.use (A := args) rfl C.ev.2.2.2.2.2.1.2.2.1)
  cases hnm.symm.trans f1
  intro T hT X
  have hcellT : T.heap[a]? = some (vp_cell (γ.2.2.1 2) (N, .inl (fun j => zi (g j)))) := by rw [hT]; exact hc1
  obtain ⟨-, kA, hkA, comp, hkind⟩ := State.isArrayOf_alike X.warmed.alike ((zK_ty C (i := 2) (by omega)).1 0 (fun _ => .null))
  obtain ⟨-, kS, hkS, compS, hkindS⟩ := (zK_ty C (i := 2) (by omega)).1 0 (fun _ => .null)
  obtain ⟨vm', X', st'⟩ := X.cloneArray C.ex C.ow (C.ws _ cn_lk) (C.ws _ cn_sm) (C.ws _ cn_nt) (C.ws _ cn_in) (C.ws _ cn_se) (a := a) (cell := vp_cell (γ.2.2.1 2) (N, .inl (fun j => zi (g j)))) hcellT (fun k h => by cases h) (fun h => by cases h) hnm f2 f3
    (fun i v hv => by
      have hk' : T.vm.classes[γ.2.2.1 2]? = some kA := hkA
      have hi : i < N := by
        have := (Array.getElem?_eq_some_iff.mp hv).1
        rw [hsz] at this
        exact this
      have hv2 : v = .int (zi (g i)) := by
        have h2 : (arrV (γ.2.2.1 2) N (fun j => .int (zi (g j)))).slots[i]? = some v := hv
        rw [arrV_read _ _ hi] at h2
        exact (Option.some.inj h2).symm
      rw [hv2]
      have this : fits (zT 2) (.int (zi (g i))) = true := zfit (hg i)
      have e1 : (vp_cell (γ.2.2.1 2) (N, .inl (fun j => zi (g j)))).cls = γ.2.2.1 2 := rfl
      rw [e1]
      simpa [State.fitsSlot, State.slotType?, hk', hkind] using this)
    (g := F0 m pc ls (.ref a :: st)) rfl (hL.1.trans C.ml.symm) rfl (by rw [C.by]; exact hd) hR.1 (by have := hR.2.1; show 2 * 0 + _ + 14 ≤ _; omega) hR.2.2.1 (by rw [hsz]; exact hR.2.2.2) (hloader := Vm.clonesLoader_of_array hkS hkindS)
  have hcellE : ({ cls := (vp_cell (γ.2.2.1 2) (N, .inl (fun j => zi (g j)))).cls, slots := (vp_cell (γ.2.2.1 2) (N, .inl (fun j => zi (g j)))).slots } : Cell) = vp_cell (γ.2.2.1 2) (N, .inl (fun j => zi (g j))) := rfl
  rw [hcellE, hsz] at X'
  obtain ⟨t, b1, b2⟩ := kk H.size hH.free (H.push (vp_cell (γ.2.2.1 2) (N, .inl (fun j => zi (g j))))) locs ls (hH.push (Array.size_push ..) (fun q hq => by rw [Array.getElem?_push, if_neg (Nat.ne_of_lt hq)]) (show (H.push _)[H.size]? = some (vp_cell _ _) by rw [Array.getElem?_push_size])) hl hL (by rw [Array.size_push]; omega)
    ((T.setVm vm').pushCell (vp_cell (γ.2.2.1 2) (N, .inl (fun j => zi (g j))))) (by rw [← hT]; rfl) X'
  refine ⟨t, st' t ?_, b2⟩
  rw [hcellE, hT]
  exact b1
theorem z_castB (C : zC p l s m args meth c γ cc nL ret RJ7 xt) {a N : Nat} {f : Nat → Int32} (hM : M a = some (zaB γ N f)) (hd : decode cc pc = .ok (.checkcast 311, 3)) (kk : zAW p l e R s m args below meth c γ nL Q M k n (pc + 3) L (.ref a :: st)) : zAW p l e R s m args below meth c γ nL Q M k n pc L (.ref a :: st) := by
  intro H locs ls hH hl hL hz
  have hP : va_P γ.1 vwCl [(a, zaB γ N f)] H := by
    intro j q hq
    have hj : j < 1 := (List.getElem?_eq_some_iff.mp hq).1
    rw [show j = 0 by omega] at hq
    cases hq
    exact (hH.2 a _ hM).2
  exact va_castA C.ex C.by C.ow (C.ws _ cn_cl) hP 0 rfl (zK_ty C (i := 2) (by omega)).2 hd (kk H locs ls hH hl hL hz)
end ZT3
set_option maxHeartbeats 4000000 in
set_option maxRecDepth 100000 in
theorem k_B_newLength {l : Launch} {γ : zG} {M : zM} {x y z : Int} (hx : 0 ≤ x ∧ x ≤ 1002) (hy : 0 ≤ y ∧ y ≤ 1004) (hz : 2 ≤ z ∧ z ≤ 1004) :
    zCon l γ yJ8_newLength_cabcc cJ8_newLength_cabcc 4 (some .int) [.int (zi x), .int (zi y), .int (zi z)] M 1 30 0 0 (fun v' M' => v' = some (.int (zi (x + max y z))) ∧ M' = M) (fun _ _ => False) := by
  refine zEnter [some (.int (zi x)), some (.int (zi y)), some (.int (zi z)), none] (by decide +kernel) rfl rfl (Nat.le_of_ble_eq_true rfl) ?_
  intro p e s m args below meth c Q C hin hQ
  refine z_iload_n C dJ8_newLength_cabcc_0 rfl ?_
  refine z_iload_n C dJ8_newLength_cabcc_1 rfl ?_
  refine z_iload_n C dJ8_newLength_cabcc_2 rfl ?_
  refine z_max C dJ8_newLength_cabcc_3 lk_J8_194 mmax_st ma_in mmax_co (by omega) (by omega) ⟨by decide, (by first | decide | exact Nat.le_of_ble_eq_true rfl), by decide, by decide⟩ ?_
  refine z_iaddZ C dJ8_newLength_cabcc_6 ?_
  refine z_istore_n C dJ8_newLength_cabcc_7 (by decide) ?_
  refine z_iconst C dJ8_newLength_cabcc_8 ?_
  refine z_iload_n C dJ8_newLength_cabcc_9 rfl ?_
  refine z_icmp_geZ (tgt := 21) C dJ8_newLength_cabcc_10 (by decide) (by omega) (by omega) (fun h10 => ?_) (fun h10 => ?_)
  · exact absurd h10 (by omega)
  · refine z_iload_n C dJ8_newLength_cabcc_13 rfl ?_
    refine z_ldc C dJ8_newLength_cabcc_14 t4_31 ?_
    rw [show (2147483639 : Int32) = zi 2147483639 from rfl]
    refine z_icmp_gtZ (tgt := 21) C dJ8_newLength_cabcc_16 (by decide) (by omega) (by omega) (fun h16 => ?_) (fun h16 => ?_)
    · exact absurd h16 (by omega)
    · refine z_iload_n C dJ8_newLength_cabcc_19 rfl ?_
      refine z_iret C hQ dJ8_newLength_cabcc_20 rfl (by decide) (by decide) ?_
      exact ⟨rfl, rfl⟩
/-- the capacity that a growth gives -/
def zcap (mm : Nat) (q : Int) : Int := mm + max (q - mm) (mm + 2)
set_option maxHeartbeats 4000000 in
set_option maxRecDepth 100000 in
theorem k_B_newCap {l : Launch} {γ : zG} {M : zM} {a v mm : Nat} {w : List Int} {q : Int} (hB : hSb γ M a v w mm) (hq : mm < q ∧ q ≤ 500) :
    zCon l γ yJ5_newCapacity_0f7a4 cJ5_newCapacity_0f7a4 6 (some .int) [.ref a, .int (zi q)] M 2 60 0 0 (fun v' M' => v' = some (.int (zi (zcap mm q))) ∧ M' = M) (fun _ _ => False) := by
  obtain ⟨hw, hm, hob, g, hv, hg, hgw⟩ := hB
  refine zEnter [some (.ref a), some (.int (zi q)), none, none, none, none] (by decide +kernel) rfl rfl (Nat.le_of_ble_eq_true rfl) ?_
  intro p e s m args below meth c Q C hin hQ
  refine z_aload_n C dJ5_newCapacity_0f7a4_0 rfl ?_
  refine z_get C dJ5_newCapacity_0f7a4_1 fl_J5_15 (by first | assumption | ((repeat (first | assumption | exact va_up_self _ _ _ | refine (va_up_ne _ _ (by assumption)).trans ?_)); done) | (simp [va_up, *] <;> rfl)) rfl ?_
  refine z_alenB C dJ5_newCapacity_0f7a4_4 hv (by omega) ?_
  refine z_istore_n C dJ5_newCapacity_0f7a4_5 (by decide) ?_
  refine z_iload_n C dJ5_newCapacity_0f7a4_6 rfl ?_
  refine z_aload_n C dJ5_newCapacity_0f7a4_7 rfl ?_
  refine z_get C dJ5_newCapacity_0f7a4_8 fl_J5_22 (by first | assumption | ((repeat (first | assumption | exact va_up_self _ _ _ | refine (va_up_ne _ _ (by assumption)).trans ?_)); done) | (simp [va_up, *] <;> rfl)) rfl ?_
  refine z_ishl0 C dJ5_newCapacity_0f7a4_11 ?_
  refine z_istore_n C dJ5_newCapacity_0f7a4_12 (by decide) ?_
  refine z_iload_n C dJ5_newCapacity_0f7a4_13 rfl ?_
  refine z_iload_n C dJ5_newCapacity_0f7a4_14 rfl ?_
  refine z_isubZ C dJ5_newCapacity_0f7a4_15 ?_
  refine z_istore C dJ5_newCapacity_0f7a4_16 (by decide) ?_
  refine z_iload_n C dJ5_newCapacity_0f7a4_18 rfl ?_
  refine z_iload C dJ5_newCapacity_0f7a4_19 rfl ?_
  refine z_iload_n C dJ5_newCapacity_0f7a4_21 rfl ?_
  refine z_iconst C dJ5_newCapacity_0f7a4_22 ?_
  refine z_aload_n C dJ5_newCapacity_0f7a4_23 rfl ?_
  refine z_get C dJ5_newCapacity_0f7a4_24 fl_J5_22 (by first | assumption | ((repeat (first | assumption | exact va_up_self _ _ _ | refine (va_up_ne _ _ (by assumption)).trans ?_)); done) | (simp [va_up, *] <;> rfl)) rfl ?_
  refine z_ishl0 C dJ5_newCapacity_0f7a4_27 ?_
  refine z_iaddZ C dJ5_newCapacity_0f7a4_28 ?_
  refine z_callS C dJ5_newCapacity_0f7a4_29 lk_J5_114 mw_J8_newLength_cabcc mst_J8_newLength_cabcc (k_B_newLength (x := mm) (y := q - mm) (z := mm + 2) (by omega) (by omega) (by omega)) rfl (by first | decide | exact Nat.le_of_ble_eq_true rfl) ⟨by decide, by decide, by decide, by decide⟩ (fun _ _ h => False.elim h) (fun v M' hp => ?_)
  obtain ⟨rfl, rfl⟩ := hp
  have hc : zcap mm q = mm + max (q - mm) (mm + 2) := rfl
  refine z_istore C dJ5_newCapacity_0f7a4_32 (by decide) ?_
  refine z_iload C dJ5_newCapacity_0f7a4_34 rfl ?_
  refine z_ldc C dJ5_newCapacity_0f7a4_36 t4_35 ?_
  rw [show (2147483647 : Int32) = zi 2147483647 from rfl]
  refine z_icmp_neZ (tgt := 51) C dJ5_newCapacity_0f7a4_38 (by decide) (by omega) (by omega) (fun h38 => ?_) (fun h38 => ?_)
  · refine z_iload C dJ5_newCapacity_0f7a4_51 rfl ?_
    refine z_aload_n C dJ5_newCapacity_0f7a4_53 rfl ?_
    refine z_get C dJ5_newCapacity_0f7a4_54 fl_J5_22 (by first | assumption | ((repeat (first | assumption | exact va_up_self _ _ _ | refine (va_up_ne _ _ (by assumption)).trans ?_)); done) | (simp [va_up, *] <;> rfl)) rfl ?_
    refine z_ishr0 C dJ5_newCapacity_0f7a4_57 ?_
    refine z_iret C hQ dJ5_newCapacity_0f7a4_58 rfl (by decide) (by decide) ?_
    exact ⟨rfl, rfl⟩
  · exact absurd h38 (by omega)
set_option maxHeartbeats 4000000 in
set_option maxRecDepth 100000 in
theorem k_B_copyOf {l : Launch} {γ : zG} {M : zM} {v mm : Nat} {g : Nat → Int} {N : Int} (hv : M v = some (zba γ mm g)) (hg : zBv g) (hN : mm < N ∧ N ≤ 1002) :
    zCon l γ yJ7_copyOf_9075b cJ7_copyOf_9075b 3 (some (.array .byte)) [.ref v, .int (zi N)] M 1 30 1 1002 (fun v' M' => ∃ q, M q = none ∧ v' = some (.ref q) ∧ ∃ g', M' = va_up M q (some (zba γ N.toNat g')) ∧ zBv g' ∧ ∀ j, j < mm → g' j = g j) (fun _ _ => False) := by
  refine zEnter [some (.ref v), some (.int (zi N)), none] (by decide +kernel) rfl rfl (Nat.le_of_ble_eq_true rfl) ?_
  intro p e s m args below meth c Q C hin hQ
  refine z_iload_n C dJ7_copyOf_9075b_0 rfl ?_
  refine z_aload_n C dJ7_copyOf_9075b_1 rfl ?_
  refine z_alenB C dJ7_copyOf_9075b_2 hv (by omega) ?_
  refine z_icmp_neZ (tgt := 14) C dJ7_copyOf_9075b_3 (by decide) (by omega) (by omega) (fun h3 => ?_) (fun h3 => ?_)
  · refine z_iload_n C dJ7_copyOf_9075b_14 rfl ?_
    refine z_newB C dJ7_copyOf_9075b_15 t1_148 (by omega) ⟨by decide, by show 0 + N.toNat ≤ 1002; omega⟩ (fun q hq => ?_)
    have nq : v ≠ q := fun w => by rw [w, hq] at hv; cases hv
    have hv1 : va_up M q (some (zaB γ N.toNat (fun _ => 0))) v = some (zba γ mm g) := (va_up_ne _ _ nq).trans hv
    refine z_astore_n C dJ7_copyOf_9075b_17 (by decide) ?_
    refine z_aload_n C dJ7_copyOf_9075b_18 rfl ?_
    refine z_iconst C dJ7_copyOf_9075b_19 ?_
    refine z_aload_n C dJ7_copyOf_9075b_20 rfl ?_
    refine z_iconst C dJ7_copyOf_9075b_21 ?_
    refine z_aload_n C dJ7_copyOf_9075b_22 rfl ?_
    refine z_alenB C dJ7_copyOf_9075b_23 hv1 (by omega) ?_
    refine z_iload_n C dJ7_copyOf_9075b_24 rfl ?_
    refine z_min C dJ7_copyOf_9075b_25 lk_J7_304 mmin_st ma_in mmin_co (by omega) (by omega) ⟨by decide, (by first | decide | exact Nat.le_of_ble_eq_true rfl), by decide, by show 0 + N.toNat ≤ 1002; omega⟩ ?_
    rw [Int.min_eq_left (by omega)]
    refine z_copyB C dJ7_copyOf_9075b_28 t4_47 ar_nat ar_st ar_in hv1 (va_up_self _ _ _) (by omega) (by omega) (by omega) (by omega) (by omega) (fun j => zfit (hg j)) (by omega) (by omega) ⟨by decide, (by first | decide | exact Nat.le_of_ble_eq_true rfl)⟩ ?_
    rw [va_up_tw]
    refine z_aload_n C dJ7_copyOf_9075b_31 rfl ?_
    refine z_aret C hQ dJ7_copyOf_9075b_32 (by first | exact Or.inl ⟨_, rfl⟩ | exact Or.inr ⟨_, rfl⟩) (Or.inr ⟨_, rfl⟩) (by decide) (by show 0 + N.toNat ≤ 1002; omega) ?_
    refine ⟨q, hq, rfl, fun j => if j < mm then g j else 0, ?_, fun j => ?_, fun j hj => if_pos hj⟩
    · refine congrArg (fun x => va_up M q (some (zaB γ N.toNat x))) (funext fun j => ?_)
      show va_cpy _ _ _ _ _ j = zi (if j < mm then g j else 0)
      unfold va_cpy
      by_cases h : j < mm
      · rw [if_pos (by omega), if_pos h]
        simp
      · rw [if_neg (by omega), if_neg h]
        rfl
    · show 0 ≤ (if j < mm then g j else 0) ∧ (if j < mm then g j else 0) ≤ 127
      split
      · exact hg j
      · omega
  · exact absurd h3 (by omega)
set_option maxHeartbeats 4000000 in
set_option maxRecDepth 100000 in
theorem k_B_ensure {l : Launch} {γ : zG} {M : zM} {a v mm : Nat} {w : List Int} {q : Int} (hB : hSb γ M a v w mm) (hq : 0 ≤ q ∧ q ≤ 500) :
    zCon l γ yJ5_ensureCapacityInternal_d00df cJ5_ensureCapacityInternal_d00df 3 none [.ref a, .int (zi q)] M 3 90 1 1002 (fun v' M' => v' = none ∧ ∃ v2 m2, hSb γ M' a v2 w m2 ∧ q ≤ m2 ∧ (v2 = v ∨ M v2 = none) ∧ zFr M M' [a, v2]) (fun _ _ => False) := by
  have hB0 := hB
  obtain ⟨hw, hm, hob, g, hv, hg, hgw⟩ := hB
  refine zEnter [some (.ref a), some (.int (zi q)), none] (by decide +kernel) rfl rfl (Nat.le_of_ble_eq_true rfl) ?_
  intro p e s m args below meth c Q C hin hQ
  refine z_aload_n C dJ5_ensureCapacityInternal_d00df_0 rfl ?_
  refine z_get C dJ5_ensureCapacityInternal_d00df_1 fl_J5_15 (by first | assumption | ((repeat (first | assumption | exact va_up_self _ _ _ | refine (va_up_ne _ _ (by assumption)).trans ?_)); done) | (simp [va_up, *] <;> rfl)) rfl ?_
  refine z_alenB C dJ5_ensureCapacityInternal_d00df_4 hv (by omega) ?_
  refine z_aload_n C dJ5_ensureCapacityInternal_d00df_5 rfl ?_
  refine z_get C dJ5_ensureCapacityInternal_d00df_6 fl_J5_22 (by first | assumption | ((repeat (first | assumption | exact va_up_self _ _ _ | refine (va_up_ne _ _ (by assumption)).trans ?_)); done) | (simp [va_up, *] <;> rfl)) rfl ?_
  refine z_ishr0 C dJ5_ensureCapacityInternal_d00df_9 ?_
  refine z_istore_n C dJ5_ensureCapacityInternal_d00df_10 (by decide) ?_
  refine z_iload_n C dJ5_ensureCapacityInternal_d00df_11 rfl ?_
  refine z_iload_n C dJ5_ensureCapacityInternal_d00df_12 rfl ?_
  refine z_isubZ C dJ5_ensureCapacityInternal_d00df_13 ?_
  refine z_if_leZ (tgt := 38) C dJ5_ensureCapacityInternal_d00df_14 (by decide) (by omega) (fun h14 => ?_) (fun h14 => ?_)
  · refine z_vret C hQ dJ5_ensureCapacityInternal_d00df_38 (by decide) (by decide) ?_
    exact ⟨rfl, v, mm, hB0, by omega, .inl rfl, zFr.rf⟩
  · refine z_aload_n C dJ5_ensureCapacityInternal_d00df_17 rfl ?_
    refine z_aload_n C dJ5_ensureCapacityInternal_d00df_18 rfl ?_
    refine z_get C dJ5_ensureCapacityInternal_d00df_19 fl_J5_15 (by first | assumption | ((repeat (first | assumption | exact va_up_self _ _ _ | refine (va_up_ne _ _ (by assumption)).trans ?_)); done) | (simp [va_up, *] <;> rfl)) rfl ?_
    refine z_aload_n C dJ5_ensureCapacityInternal_d00df_22 rfl ?_
    refine z_iload_n C dJ5_ensureCapacityInternal_d00df_23 rfl ?_
    refine z_callP (Cn := RJ4) (ci := 9) C dJ5_ensureCapacityInternal_d00df_24 lk_J5_104 mw_J5_newCapacity_0f7a4 mi_J5_newCapacity_0f7a4 (sel_J4 C ⟨by decide, by decide⟩ rfl pm_J5_newCapacity_0f7a4 mi_J5_newCapacity_0f7a4) rfl hob (k_B_newCap hB0 (by omega)) rfl (by first | decide | exact Nat.le_of_ble_eq_true rfl) ⟨by decide, by decide, by decide, by decide⟩ (fun _ _ h => False.elim h) (fun v M' hp => ?_)
    obtain ⟨rfl, rfl⟩ := hp
    refine z_aload_n C dJ5_ensureCapacityInternal_d00df_27 rfl ?_
    refine z_get C dJ5_ensureCapacityInternal_d00df_28 fl_J5_22 (by first | assumption | ((repeat (first | assumption | exact va_up_self _ _ _ | refine (va_up_ne _ _ (by assumption)).trans ?_)); done) | (simp [va_up, *] <;> rfl)) rfl ?_
    refine z_ishl0 C dJ5_ensureCapacityInternal_d00df_31 ?_
    refine z_callS C dJ5_ensureCapacityInternal_d00df_32 lk_J5_108 mw_J7_copyOf_9075b mst_J7_copyOf_9075b (k_B_copyOf hv hg (N := zcap mm q) (by unfold zcap; omega)) rfl (by first | decide | exact Nat.le_of_ble_eq_true rfl) ⟨by decide, by decide, by decide, by decide⟩ (fun _ _ h => False.elim h) (fun v M' hp => ?_)
    obtain ⟨q32, hq32, rfl, g', rfl, hg', hgg⟩ := hp
    have nq : a ≠ q32 := fun w => by rw [w, hq32] at hob; cases hob
    have hob1 : va_up _ q32 (some (zba γ (zcap mm q).toNat g')) a = _ := (va_up_ne _ _ nq).trans hob
    refine z_put C dJ5_ensureCapacityInternal_d00df_35 fl_J5_15 (by first | assumption | ((repeat (first | assumption | exact va_up_self _ _ _ | refine (va_up_ne _ _ (by assumption)).trans ?_)); done) | (simp [va_up, *] <;> rfl)) rfl rfl (by simp) ?_
    refine z_vret C hQ dJ5_ensureCapacityInternal_d00df_38 (by decide) (by decide) ?_
    refine ⟨rfl, q32, (zcap mm q).toNat, ⟨hw, by unfold zcap; omega, va_up_self _ _ _, g', (va_up_ne _ _ (fun w => nq w.symm)).trans (va_up_self _ _ _), hg', fun j hj => (hgg j (by omega)).trans (hgw j hj)⟩, by unfold zcap; omega, .inr hq32, (zFr.u1 (zFr.u1 zFr.rf (by simp)) (by simp))⟩
set_option maxHeartbeats 4000000 in
set_option maxRecDepth 100000 in
theorem k_B_isLatin1 {l : Launch} {γ : zG} {M : zM} {a v mm : Nat} {w : List Int} (hB : hSb γ M a v w mm) :
    zCon l γ yJ5_isLatin1_aae02 cJ5_isLatin1_aae02 1 (some .boolean) [.ref a] M 0 0 0 0 (fun v' M' => v' = some (.int (zi 1)) ∧ M' = M) (fun _ _ => False) := by
  obtain ⟨hw, hm, hob, -⟩ := hB
  refine zEnter [some (.ref a)] (by decide +kernel) rfl rfl (Nat.le_of_ble_eq_true rfl) ?_
  intro p e s m args below meth c Q C hin hQ
  refine z_com C cm_J5 dJ5_isLatin1_aae02_0 ?_
  refine z_if_eqZ (tgt := 17) C dJ5_isLatin1_aae02_3 (by decide) (by omega) (fun h3 => ?_) (fun h3 => ?_)
  · exact absurd h3 (by decide)
  · refine z_aload_n C dJ5_isLatin1_aae02_6 rfl ?_
    refine z_get C dJ5_isLatin1_aae02_7 fl_J5_22 (by first | assumption | ((repeat (first | assumption | exact va_up_self _ _ _ | refine (va_up_ne _ _ (by assumption)).trans ?_)); done) | (simp [va_up, *] <;> rfl)) rfl ?_
    refine z_if_neZ (tgt := 17) C dJ5_isLatin1_aae02_10 (by decide) (by omega) (fun h10 => ?_) (fun h10 => ?_)
    · exact absurd rfl h10
    · refine z_iconst C dJ5_isLatin1_aae02_13 ?_
      refine z_goto (tgt := 18) C dJ5_isLatin1_aae02_14 (by decide) ?_
      refine z_iret C hQ dJ5_isLatin1_aae02_18 rfl (by decide) (by decide) ?_
      exact ⟨rfl, rfl⟩
set_option maxHeartbeats 4000000 in
set_option maxRecDepth 100000 in
theorem k_B_canEncode {l : Launch} {γ : zG} {M : zM} {x : Int} (hx : 0 ≤ x ∧ x ≤ 127) :
    zCon l γ yJ1_canEncode_fc78d cJ1_canEncode_fc78d 1 (some .boolean) [.int (zi x)] M 0 0 0 0 (fun v' M' => v' = some (.int (zi 1)) ∧ M' = M) (fun _ _ => False) := by
  refine zEnter [some (.int (zi x))] (by decide +kernel) rfl rfl (Nat.le_of_ble_eq_true rfl) ?_
  intro p e s m args below meth c Q C hin hQ
  refine z_iload_n C dJ1_canEncode_fc78d_0 rfl ?_
  refine z_sipush C dJ1_canEncode_fc78d_1 (by decide) ?_
  refine z_icmp_gtZ (tgt := 11) C dJ1_canEncode_fc78d_4 (by decide) (by omega) (by omega) (fun h4 => ?_) (fun h4 => ?_)
  · exact absurd h4 (by omega)
  · refine z_iconst C dJ1_canEncode_fc78d_7 ?_
    refine z_goto (tgt := 12) C dJ1_canEncode_fc78d_8 (by decide) ?_
    refine z_iret C hQ dJ1_canEncode_fc78d_12 rfl (by decide) (by decide) ?_
    exact ⟨rfl, rfl⟩
set_option maxHeartbeats 4000000 in
set_option maxRecDepth 100000 in
theorem k_B_appC5 {l : Launch} {γ : zG} {M : zM} {a v mm : Nat} {w : List Int} {x : Int} (hB : hSb γ M a v w mm) (hx : 0 ≤ x ∧ x ≤ 127) (hl : w.length + 1 ≤ 500) :
    zCon l γ yJ5_append_3fe6f cJ5_append_3fe6f 2 (some (.object "java/lang/AbstractStringBuilder")) [.ref a, .int (zi x)] M 4 120 1 1002 (fun v' M' => v' = some (.ref a) ∧ hBx γ M M' a v (w ++ [x])) (fun _ _ => False) := by
  have hB0 := hB
  obtain ⟨hw, hm, hob, g, hv, hg, hgw⟩ := hB
  refine zEnter [some (.ref a), some (.int (zi x))] (by decide +kernel) rfl rfl (Nat.le_of_ble_eq_true rfl) ?_
  intro p e s m args below meth c Q C hin hQ
  refine z_aload_n C dJ5_append_3fe6f_0 rfl ?_
  refine z_aload_n C dJ5_append_3fe6f_1 rfl ?_
  refine z_get C dJ5_append_3fe6f_2 fl_J5_79 (by first | assumption | ((repeat (first | assumption | exact va_up_self _ _ _ | refine (va_up_ne _ _ (by assumption)).trans ?_)); done) | (simp [va_up, *] <;> rfl)) rfl ?_
  refine z_iconst C dJ5_append_3fe6f_5 ?_
  refine z_iaddZ C dJ5_append_3fe6f_6 ?_
  refine z_callP (Cn := RJ4) (ci := 9) C dJ5_append_3fe6f_7 lk_J5_100 mw_J5_ensureCapacityInternal_d00df mi_J5_ensureCapacityInternal_d00df (sel_J4 C ⟨by decide, by decide⟩ rfl pm_J5_ensureCapacityInternal_d00df mi_J5_ensureCapacityInternal_d00df) rfl hob (k_B_ensure hB0 (by omega)) rfl (by first | decide | exact Nat.le_of_ble_eq_true rfl) ⟨by decide, by decide, by decide, by decide⟩ (fun _ _ h => False.elim h) (fun v M' hp => ?_)
  obtain ⟨rfl, v2, m2, hB1, hq7, hv7, f7⟩ := hp
  have n2 := hB1.ne
  have hB2 := hB1
  obtain ⟨-, hm1, hob1, g1, hv1, hg1, hgw1⟩ := hB1
  refine z_aload_n C dJ5_append_3fe6f_10 rfl ?_
  refine z_callV (Cn := RJ4) (ci := 9) C dJ5_append_3fe6f_11 lk_J5_83 mw_J5_isLatin1_aae02 mi_J5_isLatin1_aae02 msb_J5_isLatin1_aae02 rfl hob1 (k_B_isLatin1 hB2) rfl (by first | decide | exact Nat.le_of_ble_eq_true rfl) ⟨by decide, by decide, by decide, by decide⟩ (fun _ _ h => False.elim h) (fun v M' hp => ?_)
  obtain ⟨rfl, rfl⟩ := hp
  refine z_if_eqZ (tgt := 45) C dJ5_append_3fe6f_14 (by decide) (by omega) (fun h14 => ?_) (fun h14 => ?_)
  · exact absurd h14 (by decide)
  · refine z_iload_n C dJ5_append_3fe6f_17 rfl ?_
    refine z_callS C dJ5_append_3fe6f_18 lk_J5_191 mw_J1_canEncode_fc78d mst_J1_canEncode_fc78d (k_B_canEncode hx) rfl (by first | decide | exact Nat.le_of_ble_eq_true rfl) ⟨by decide, by decide, by decide, by decide⟩ (fun _ _ h => False.elim h) (fun v M' hp => ?_)
    obtain ⟨rfl, rfl⟩ := hp
    refine z_if_eqZ (tgt := 45) C dJ5_append_3fe6f_21 (by decide) (by omega) (fun h21 => ?_) (fun h21 => ?_)
    · exact absurd h21 (by decide)
    · refine z_aload_n C dJ5_append_3fe6f_24 rfl ?_
      refine z_get C dJ5_append_3fe6f_25 fl_J5_15 (by first | assumption | ((repeat (first | assumption | exact va_up_self _ _ _ | refine (va_up_ne _ _ (by assumption)).trans ?_)); done) | (simp [va_up, *] <;> rfl)) rfl ?_
      refine z_aload_n C dJ5_append_3fe6f_28 rfl ?_
      refine z_dup C dJ5_append_3fe6f_29 rfl ?_
      refine z_get C dJ5_append_3fe6f_30 fl_J5_79 (by first | assumption | ((repeat (first | assumption | exact va_up_self _ _ _ | refine (va_up_ne _ _ (by assumption)).trans ?_)); done) | (simp [va_up, *] <;> rfl)) rfl ?_
      refine z_dup_x1 C dJ5_append_3fe6f_33 rfl rfl ?_
      refine z_iconst C dJ5_append_3fe6f_34 ?_
      refine z_iaddZ C dJ5_append_3fe6f_35 ?_
      refine z_put C dJ5_append_3fe6f_36 fl_J5_79 (by first | assumption | ((repeat (first | assumption | exact va_up_self _ _ _ | refine (va_up_ne _ _ (by assumption)).trans ?_)); done) | (simp [va_up, *] <;> rfl)) rfl rfl (by simp) ?_
      have hv3 : va_up M' a (some (.inr (9, [.ref v2, .int (zi 0), .int (zi 0), .int (zi (w.length + 1))]))) v2 = some (zba γ m2 g1) := (va_up_ne _ _ (fun w => n2 w.symm)).trans hv1
      refine z_iload_n C dJ5_append_3fe6f_39 rfl ?_
      refine z_i2b C dJ5_append_3fe6f_40 ?_
      rw [zi2b hx]
      refine z_astB C dJ5_append_3fe6f_41 hv3 (by omega) (by omega) ?_
      rw [znarB hx, zba_up]
      refine z_goto (tgt := 75) C dJ5_append_3fe6f_42 (by decide) ?_
      refine z_aload_n C dJ5_append_3fe6f_75 rfl ?_
      refine z_aret C hQ dJ5_append_3fe6f_76 (by first | exact Or.inl ⟨_, rfl⟩ | exact Or.inr ⟨_, rfl⟩) (Or.inr ⟨_, rfl⟩) (by decide) (by decide) ?_
      refine ⟨rfl, v2, m2, ⟨hw.app (.one hx) (by simpa using hl), by simp; omega, ?_, va_up g1 w.length x, va_up_self _ _ _, fun j => ?_, fun j hj => ?_⟩, hv7, (zFr.u2 f7 (by simp) (by simp))⟩
      · rw [va_up_ne _ _ n2, va_up_self, List.length_append]
        rfl
      · unfold va_up
        split
        · exact hx
        · exact hg1 j
      · rw [List.length_append] at hj
        have hj : j < w.length + 1 := hj
        by_cases e : j = w.length
        · subst e
          rw [va_up_self, zgd_r (Nat.le_refl _)]
          simp
        · rw [va_up_ne _ _ e, zgd_l (by omega)]
          exact hgw1 j (by omega)
set_option maxHeartbeats 4000000 in
set_option maxRecDepth 100000 in
theorem k_B_appC {l : Launch} {γ : zG} {M : zM} {a v mm : Nat} {w : List Int} {x : Int} (hB : hSb γ M a v w mm) (hx : 0 ≤ x ∧ x ≤ 127) (hl : w.length + 1 ≤ 500) :
    zCon l γ yJ4_append_cf468 cJ4_append_cf468 2 (some (.object "java/lang/StringBuilder")) [.ref a, .int (zi x)] M 5 150 1 1002 (fun v' M' => v' = some (.ref a) ∧ hBx γ M M' a v (w ++ [x])) (fun _ _ => False) := by
  have hob := hB.2.2.1
  refine zEnter [some (.ref a), some (.int (zi x))] (by decide +kernel) rfl rfl (Nat.le_of_ble_eq_true rfl) ?_
  intro p e s m args below meth c Q C hin hQ
  refine z_aload_n C dJ4_append_cf468_0 rfl ?_
  refine z_iload_n C dJ4_append_cf468_1 rfl ?_
  refine z_callSU (ci := 9) C dJ4_append_cf468_2 lk_J4_50 mw_J5_append_3fe6f sm_J5_append_3fe6f su_J4 mi_J5_append_3fe6f (by decide) rfl hob (k_B_appC5 hB hx hl) rfl (by first | decide | exact Nat.le_of_ble_eq_true rfl) ⟨by decide, by decide, by decide, by decide⟩ (fun _ _ h => False.elim h) (fun v M' hp => ?_)
  obtain ⟨rfl, hx2⟩ := hp
  refine z_pop C dJ4_append_cf468_5 rfl ?_
  refine z_aload_n C dJ4_append_cf468_6 rfl ?_
  refine z_aret C hQ dJ4_append_cf468_7 (by first | exact Or.inl ⟨_, rfl⟩ | exact Or.inr ⟨_, rfl⟩) (Or.inr ⟨_, rfl⟩) (by decide) (by decide) ?_
  exact ⟨rfl, hx2⟩
set_option maxHeartbeats 4000000 in
set_option maxRecDepth 100000 in
theorem k_B_inflate {l : Launch} {γ : zG} {M : zM} {a v mm b u : Nat} {w t : List Int} (hB : hSb γ M a v w mm) (hS : hSg γ M b u t) :
    zCon l γ yJ5_inflateIfNeededFor_a7421 cJ5_inflateIfNeededFor_a7421 2 none [.ref a, .ref b] M 1 25 0 0 (fun v' M' => v' = none ∧ M' = M) (fun _ _ => False) := by
  have hob := hB.2.2.1
  refine zEnter [some (.ref a), some (.ref b)] (by decide +kernel) rfl rfl (Nat.le_of_ble_eq_true rfl) ?_
  intro p e s m args below meth c Q C hin hQ
  refine z_com C cm_J5 dJ5_inflateIfNeededFor_a7421_0 ?_
  refine z_if_eqZ (tgt := 21) C dJ5_inflateIfNeededFor_a7421_3 (by decide) (by omega) (fun h3 => ?_) (fun h3 => ?_)
  · exact absurd h3 (by decide)
  · refine z_aload_n C dJ5_inflateIfNeededFor_a7421_6 rfl ?_
    refine z_get C dJ5_inflateIfNeededFor_a7421_7 fl_J5_22 (by first | assumption | ((repeat (first | assumption | exact va_up_self _ _ _ | refine (va_up_ne _ _ (by assumption)).trans ?_)); done) | (simp [va_up, *] <;> rfl)) rfl ?_
    refine z_aload_n C dJ5_inflateIfNeededFor_a7421_10 rfl ?_
    refine z_callVT C hS dJ5_inflateIfNeededFor_a7421_11 lk_J5_40 mw_J0_coder_7d493 mi_J0_coder_7d493 ms_J0_coder_7d493 (k_T_coder hS) rfl (by first | decide | exact Nat.le_of_ble_eq_true rfl) ⟨by decide, by decide, by decide, by decide⟩ (fun _ _ h => False.elim h) (fun v M' hp => ?_)
    obtain ⟨rfl, rfl⟩ := hp
    refine z_icmp_eqZ (tgt := 21) C dJ5_inflateIfNeededFor_a7421_14 (by decide) (by omega) (by omega) (fun h14 => ?_) (fun h14 => ?_)
    · refine z_vret C hQ dJ5_inflateIfNeededFor_a7421_21 (by decide) (by decide) ?_
      exact ⟨rfl, rfl⟩
    · exact absurd rfl h14
set_option maxHeartbeats 4000000 in
set_option maxRecDepth 100000 in
theorem k_B_putString {l : Launch} {γ : zG} {M : zM} {a v mm b u : Nat} {w t : List Int} (hB : hSb γ M a v w mm) (hS : hSg γ M b u t) (hm : w.length + t.length ≤ mm) :
    zCon l γ yJ5_putStringAt_47b60 cJ5_putStringAt_47b60 3 none [.ref a, .int (zi w.length), .ref b] M 3 90 0 0 (fun v' M' => v' = none ∧ ∃ g', M' = va_up M v (some (zba γ mm g')) ∧ zBv g' ∧ ∀ j, j < w.length + t.length → g' j = (w ++ t).getD j 0) (fun _ _ => False) := by
  have hB0 := hB
  obtain ⟨hw, hm1, hob, g, hv, hg, hgw⟩ := hB
  refine zEnter [some (.ref a), some (.int (zi w.length)), some (.ref b)] (by decide +kernel) rfl rfl (Nat.le_of_ble_eq_true rfl) ?_
  intro p e s m args below meth c Q C hin hQ
  refine z_aload_n C dJ5_putStringAt_47b60_0 rfl ?_
  refine z_aload_n C dJ5_putStringAt_47b60_1 rfl ?_
  refine z_callP (Cn := RJ4) (ci := 9) C dJ5_putStringAt_47b60_2 lk_J5_397 mw_J5_inflateIfNeededFor_a7421 mi_J5_inflateIfNeededFor_a7421 (sel_J4 C ⟨by decide, by decide⟩ rfl pm_J5_inflateIfNeededFor_a7421 mi_J5_inflateIfNeededFor_a7421) rfl hob (k_B_inflate hB0 hS) rfl (by first | decide | exact Nat.le_of_ble_eq_true rfl) ⟨by decide, by decide, by decide, by decide⟩ (fun _ _ h => False.elim h) (fun v M' hp => ?_)
  obtain ⟨rfl, rfl⟩ := hp
  refine z_aload_n C dJ5_putStringAt_47b60_5 rfl ?_
  refine z_aload_n C dJ5_putStringAt_47b60_6 rfl ?_
  refine z_get C dJ5_putStringAt_47b60_7 fl_J5_15 (by first | assumption | ((repeat (first | assumption | exact va_up_self _ _ _ | refine (va_up_ne _ _ (by assumption)).trans ?_)); done) | (simp [va_up, *] <;> rfl)) rfl ?_
  refine z_iload_n C dJ5_putStringAt_47b60_10 rfl ?_
  refine z_aload_n C dJ5_putStringAt_47b60_11 rfl ?_
  refine z_get C dJ5_putStringAt_47b60_12 fl_J5_22 (by first | assumption | ((repeat (first | assumption | exact va_up_self _ _ _ | refine (va_up_ne _ _ (by assumption)).trans ?_)); done) | (simp [va_up, *] <;> rfl)) rfl ?_
  refine z_callVT C hS dJ5_putStringAt_47b60_15 lk_J5_399 mw_J0_getBytes_840e7 mi_J0_getBytes_840e7 ms_J0_getBytes_840e7 (k_T_getBytes hS hv (dp := w.length) (by omega) (by omega) (by omega)) rfl (by first | decide | exact Nat.le_of_ble_eq_true rfl) ⟨by decide, by decide, by decide, by decide⟩ (fun _ _ h => False.elim h) (fun v M' hp => ?_)
  obtain ⟨rfl, g', rfl, hg'⟩ := hp
  refine z_vret C hQ dJ5_putStringAt_47b60_18 (by decide) (by decide) ?_
  refine ⟨rfl, g', rfl, fun j => ?_, fun j hj => ?_⟩
  · rw [hg' j]
    split
    · exact hS.1.at _
    · exact hg j
  · rw [hg' j]
    by_cases h : (w.length : Int) ≤ j
    · rw [if_pos (by omega), zgd_r (by omega)]
      simp
    · rw [if_neg (by omega), zgd_l (by omega)]
      exact hgw j (by omega)
set_option maxHeartbeats 4000000 in
set_option maxRecDepth 100000 in
theorem k_B_appS5 {l : Launch} {γ : zG} {M : zM} {a v mm b u : Nat} {w t : List Int} (hB : hSb γ M a v w mm) (hS : hSg γ M b u t) (hu : ∀ y, M u = some (.inl y) → u ≠ v) (hl : w.length + t.length ≤ 500) :
    zCon l γ yJ5_append_cf1ce cJ5_append_cf1ce 3 (some (.object "java/lang/AbstractStringBuilder")) [.ref a, .ref b] M 4 120 1 1002 (fun v' M' => v' = some (.ref a) ∧ hBx γ M M' a v (w ++ t)) (fun _ _ => False) := by
  have hB0 := hB
  obtain ⟨hw, hm, hob, g, hv, hg, hgw⟩ := hB
  refine zEnter [some (.ref a), some (.ref b), none] (by decide +kernel) rfl rfl (Nat.le_of_ble_eq_true rfl) ?_
  intro p e s m args below meth c Q C hin hQ
  refine z_aload_n C dJ5_append_cf1ce_0 rfl ?_
  refine z_ifnonnull (tgt := 9) C dJ5_append_cf1ce_1 (by decide) ?_
  refine z_aload_n C dJ5_append_cf1ce_9 rfl ?_
  refine z_callVT C hS dJ5_append_cf1ce_10 lk_J5_32 mw_J0_length_8abf5 mi_J0_length_8abf5 ms_J0_length_8abf5 (k_T_length hS) rfl (by first | decide | exact Nat.le_of_ble_eq_true rfl) ⟨by decide, by decide, by decide, by decide⟩ (fun _ _ h => False.elim h) (fun v M' hp => ?_)
  obtain ⟨rfl, rfl⟩ := hp
  refine z_istore_n C dJ5_append_cf1ce_13 (by decide) ?_
  refine z_aload_n C dJ5_append_cf1ce_14 rfl ?_
  refine z_aload_n C dJ5_append_cf1ce_15 rfl ?_
  refine z_get C dJ5_append_cf1ce_16 fl_J5_79 (by first | assumption | ((repeat (first | assumption | exact va_up_self _ _ _ | refine (va_up_ne _ _ (by assumption)).trans ?_)); done) | (simp [va_up, *] <;> rfl)) rfl ?_
  refine z_iload_n C dJ5_append_cf1ce_19 rfl ?_
  refine z_iaddZ C dJ5_append_cf1ce_20 ?_
  refine z_callP (Cn := RJ4) (ci := 9) C dJ5_append_cf1ce_21 lk_J5_100 mw_J5_ensureCapacityInternal_d00df mi_J5_ensureCapacityInternal_d00df (sel_J4 C ⟨by decide, by decide⟩ rfl pm_J5_ensureCapacityInternal_d00df mi_J5_ensureCapacityInternal_d00df) rfl hob (k_B_ensure hB0 (by omega)) rfl (by first | decide | exact Nat.le_of_ble_eq_true rfl) ⟨by decide, by decide, by decide, by decide⟩ (fun _ _ h => False.elim h) (fun v M' hp => ?_)
  obtain ⟨rfl, v2, m2, hB1, hq7, hv7, f7⟩ := hp
  have n2 := hB1.ne
  have hB2 := hB1
  obtain ⟨-, hm1, hob1, g1, hv1, hg1, hgw1⟩ := hB1
  have hS1 : hSg γ M' b u t := hS.fr f7 (fun fs hx h => by
    simp only [List.mem_cons, List.not_mem_nil, or_false] at h
    rcases h with h | h
    · exact absurd h (zne_kk hx hob (by decide))
    · rcases hv7 with h7 | h7
      · exact absurd (h.trans h7) (zne_ka hx hv)
      · rw [h, h7] at hx
        cases hx) (fun y hx h => by
    simp only [List.mem_cons, List.not_mem_nil, or_false] at h
    rcases h with h | h
    · exact absurd h.symm (zne_ka hob hx)
    · rcases hv7 with h7 | h7
      · exact hu y hx (h.trans h7)
      · rw [h, h7] at hx
        cases hx)
  refine z_aload_n C dJ5_append_cf1ce_24 rfl ?_
  refine z_aload_n C dJ5_append_cf1ce_25 rfl ?_
  refine z_get C dJ5_append_cf1ce_26 fl_J5_79 (by first | assumption | ((repeat (first | assumption | exact va_up_self _ _ _ | refine (va_up_ne _ _ (by assumption)).trans ?_)); done) | (simp [va_up, *] <;> rfl)) rfl ?_
  refine z_aload_n C dJ5_append_cf1ce_29 rfl ?_
  refine z_callP (Cn := RJ4) (ci := 9) C dJ5_append_cf1ce_30 lk_J5_208 mw_J5_putStringAt_47b60 mi_J5_putStringAt_47b60 (sel_J4 C ⟨by decide, by decide⟩ rfl pm_J5_putStringAt_47b60 mi_J5_putStringAt_47b60) rfl hob1 (k_B_putString hB2 hS1 (by omega)) rfl (by first | decide | exact Nat.le_of_ble_eq_true rfl) ⟨by decide, by decide, by decide, by decide⟩ (fun _ _ h => False.elim h) (fun v M' hp => ?_)
  obtain ⟨rfl, g', rfl, hg', hgg⟩ := hp
  have hob3 := (va_up_ne M' (some (zba γ m2 g')) n2).trans hob1
  refine z_aload_n C dJ5_append_cf1ce_33 rfl ?_
  refine z_dup C dJ5_append_cf1ce_34 rfl ?_
  refine z_get C dJ5_append_cf1ce_35 fl_J5_79 (by first | assumption | ((repeat (first | assumption | exact va_up_self _ _ _ | refine (va_up_ne _ _ (by assumption)).trans ?_)); done) | (simp [va_up, *] <;> rfl)) rfl ?_
  refine z_iload_n C dJ5_append_cf1ce_38 rfl ?_
  refine z_iaddZ C dJ5_append_cf1ce_39 ?_
  refine z_put C dJ5_append_cf1ce_40 fl_J5_79 (by first | assumption | ((repeat (first | assumption | exact va_up_self _ _ _ | refine (va_up_ne _ _ (by assumption)).trans ?_)); done) | (simp [va_up, *] <;> rfl)) rfl rfl (by simp) ?_
  refine z_aload_n C dJ5_append_cf1ce_43 rfl ?_
  refine z_aret C hQ dJ5_append_cf1ce_44 (by first | exact Or.inl ⟨_, rfl⟩ | exact Or.inr ⟨_, rfl⟩) (Or.inr ⟨_, rfl⟩) (by decide) (by decide) ?_
  refine ⟨rfl, v2, m2, ⟨hw.app hS.1 hl, by rw [List.length_append]; omega, ?_, g', (va_up_ne _ _ (fun w => n2 w.symm)).trans (va_up_self _ _ _), hg', fun j hj => hgg j (by rw [List.length_append] at hj; exact hj)⟩, hv7, (zFr.u2 f7 (by simp) (by simp))⟩
  rw [va_up_self, List.length_append]
  rfl
set_option maxHeartbeats 4000000 in
set_option maxRecDepth 100000 in
theorem k_B_appS {l : Launch} {γ : zG} {M : zM} {a v mm b u : Nat} {w t : List Int} (hB : hSb γ M a v w mm) (hS : hSg γ M b u t) (hu : ∀ y, M u = some (.inl y) → u ≠ v) (hl : w.length + t.length ≤ 500) :
    zCon l γ yJ4_append_15ec4 cJ4_append_15ec4 2 (some (.object "java/lang/StringBuilder")) [.ref a, .ref b] M 5 150 1 1002 (fun v' M' => v' = some (.ref a) ∧ hBx γ M M' a v (w ++ t)) (fun _ _ => False) := by
  have hob := hB.2.2.1
  refine zEnter [some (.ref a), some (.ref b)] (by decide +kernel) rfl rfl (Nat.le_of_ble_eq_true rfl) ?_
  intro p e s m args below meth c Q C hin hQ
  refine z_aload_n C dJ4_append_15ec4_0 rfl ?_
  refine z_aload_n C dJ4_append_15ec4_1 rfl ?_
  refine z_callSU (ci := 9) C dJ4_append_15ec4_2 lk_J4_29 mw_J5_append_cf1ce sm_J5_append_cf1ce su_J4 mi_J5_append_cf1ce (by decide) rfl hob (k_B_appS5 hB hS hu hl) rfl (by first | decide | exact Nat.le_of_ble_eq_true rfl) ⟨by decide, by decide, by decide, by decide⟩ (fun _ _ h => False.elim h) (fun v M' hp => ?_)
  obtain ⟨rfl, hx2⟩ := hp
  refine z_pop C dJ4_append_15ec4_5 rfl ?_
  refine z_aload_n C dJ4_append_15ec4_6 rfl ?_
  refine z_aret C hQ dJ4_append_15ec4_7 (by first | exact Or.inl ⟨_, rfl⟩ | exact Or.inr ⟨_, rfl⟩) (Or.inr ⟨_, rfl⟩) (by decide) (by decide) ?_
  exact ⟨rfl, hx2⟩

