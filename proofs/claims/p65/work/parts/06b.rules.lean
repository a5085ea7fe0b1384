section ZR5
variable {p : Program} {l : Launch} {e : Env} {R : Room} {s : State} {m : MethodId} {args : Array Value} {below : List Frame} {meth : Method} {c : Code} {γ : zG} {cc : ByteArray} {nL : Nat} {ret : Option FieldType} {own : String} {xt : List ExceptionTableEntry} {Q : State → Prop} {M : zM} {k n pc mc ms : Nat} {L : zL} {st : List Value} {post : Option Value → zM → Prop} {px : String → zM → Prop}
/-- Math.min, Math.max -/
theorem z_min (C : zC p l s m args meth c γ cc nL ret own xt) {idx : Nat} {x y : Int} (hd : decode cc pc = .ok (.invokestatic idx, 3)) (hlk : Cond.methodLink own idx Lib.Math.min.name ∈ LW) (hst : Cond.static Lib.Math.min.name ∈ LW) (hin : Cond.initialized "java/lang/Math" ∈ LW) (hco : Cond.code Lib.Math.min.name Lib.Math.min.code 2 (some .int) ∈ LW) (hx : -2147483648 ≤ x ∧ x ≤ 2147483647) (hy : -2147483648 ≤ y ∧ y ≤ 2147483647) (hR : 1 ≤ R.frames ∧ (st.map fun v => v.category).sum + 13 ≤ R.locals ∧ k ≤ R.cells ∧ n ≤ R.slots)
    (kk : zAW p l e R s m args below meth c γ nL Q M k n (pc + 3) L (.int (zi (min x y)) :: st)) : zAW p l e R s m args below meth c γ nL Q M k n pc L (.int (zi y) :: .int (zi x) :: st) := by
  intro H locs ls hH hl hL hz
  refine va_mmin C.ex C.by (by rw [C.ml]; exact hL.1.symm) C.ow (C.ws _ hlk) (C.ws _ hst) (C.ws _ hin) (C.ws _ hco) hR.1 hR.2.1 hR.2.2.1 hR.2.2.2 hd ?_
  have e1 : (if zi y < zi x then zi y else zi x) = zi (min x y) := by
    by_cases h : y < x
    · rw [if_pos ((zi_lt hy hx).mpr h), Int.min_eq_right (by omega)]
    · rw [if_neg (fun q => h ((zi_lt hy hx).mp q)), Int.min_eq_left (by omega)]
  rw [e1]
  exact kk H locs ls hH hl hL hz
theorem z_max (C : zC p l s m args meth c γ cc nL ret own xt) {idx : Nat} {x y : Int} (hd : decode cc pc = .ok (.invokestatic idx, 3)) (hlk : Cond.methodLink own idx Lib.Math.max.name ∈ LW) (hst : Cond.static Lib.Math.max.name ∈ LW) (hin : Cond.initialized "java/lang/Math" ∈ LW) (hco : Cond.code Lib.Math.max.name Lib.Math.max.code 2 (some .int) ∈ LW) (hx : -2147483648 ≤ x ∧ x ≤ 2147483647) (hy : -2147483648 ≤ y ∧ y ≤ 2147483647) (hR : 1 ≤ R.frames ∧ (st.map fun v => v.category).sum + 13 ≤ R.locals ∧ k ≤ R.cells ∧ n ≤ R.slots)
    (kk : zAW p l e R s m args below meth c γ nL Q M k n (pc + 3) L (.int (zi (max x y)) :: st)) : zAW p l e R s m args below meth c γ nL Q M k n pc L (.int (zi y) :: .int (zi x) :: st) := by
  intro H locs ls hH hl hL hz
  refine va_mmax C.ex C.by (by rw [C.ml]; exact hL.1.symm) C.ow (C.ws _ hlk) (C.ws _ hst) (C.ws _ hin) (C.ws _ hco) hR.1 hR.2.1 hR.2.2.1 hR.2.2.2 hd ?_
  have e1 : (if zi x < zi y then zi y else zi x) = zi (max x y) := by
    by_cases h : x < y
    · rw [if_pos ((zi_lt hx hy).mpr h), Int.max_eq_right (by omega)]
    · rw [if_neg (fun q => h ((zi_lt hx hy).mp q)), Int.max_eq_left (by omega)]
  rw [e1]
  exact kk H locs ls hH hl hL hz
/-- System.arraycopy of int arrays (one may be the other) -/
theorem z_copyI (C : zC p l s m args meth c γ cc nL ret own xt) {idx a0 a n0 n1 : Nat} {f g : Nat → Int32} {sp dp q : Int} (hd : decode cc pc = .ok (.invokestatic idx, 3)) (hlk : Cond.methodLink own idx arraycopyName ∈ LW) (hnat : Cond.native arraycopyName ∈ LW) (hst : Cond.static arraycopyName ∈ LW) (hin : Cond.initialized "java/lang/System" ∈ LW) (h0 : M a0 = some (zaI γ n0 f)) (h1 : M a = some (zaI γ n1 g)) (hsp : 0 ≤ sp) (hdp : 0 ≤ dp) (hq : 0 ≤ q) (hb0 : sp + q ≤ n0) (hb1 : dp + q ≤ n1) (hn0 : n0 ≤ 2147483647) (hn1 : n1 ≤ 2147483647) (hR : 1 ≤ R.frames ∧ (st.map fun v => v.category).sum + 18 ≤ R.locals)
    (kk : zAW p l e R s m args below meth c γ nL Q (va_up M a (some (zaI γ n1 (va_cpy f g sp.toNat dp.toNat q.toNat)))) k n (pc + 3) L st) : zAW p l e R s m args below meth c γ nL Q M k n pc L (.int (zi q) :: .int (zi dp) :: .ref a :: .int (zi sp) :: .ref a0 :: st) := by
  intro H locs ls hH hl hL hz T hT X
  obtain ⟨hba0, hc0⟩ := hH.2 a0 _ h0
  obtain ⟨hba, hc1⟩ := hH.2 a _ h1
  have hc0 : H[a0]? = some (vp_cell (γ.2.2.1 0) (n0, .inl f)) := hc0
  have hc1 : H[a]? = some (vp_cell (γ.2.2.1 0) (n1, .inl g)) := hc1
  have tn : ∀ z : Int, 0 ≤ z → z ≤ 2147483647 → (zi z).toNatClampNeg = z.toNat := fun z z0 z1 => by
    show (zi z).toInt.toNat = _
    rw [zi_toInt (by omega)]
  have nz : ∀ z : Int, 0 ≤ z → z ≤ 2147483647 → ¬ zi z < 0 := fun z z0 z1 h => by rw [zi_0, zi_lt (by omega) (by omega)] at h; omega
  obtain ⟨-, k0, hk0, cm0, hkk0⟩ := (zK_ty C (i := 0) (by omega)).1 n0 (fun j => .int (f j))
  obtain ⟨-, k1, hk1, cm1, hkk1⟩ := (zK_ty C (i := 0) (by omega)).1 n1 (fun j => .int (g j))
  have hsize0 : (vp_cell (γ.2.2.1 0) (n0, .inl f)).slots.size = n0 := by show (arrV _ n0 (fun j => .int (f j))).slots.size = n0; rw [arrV_size]
  have hsize1 : (vp_cell (γ.2.2.1 0) (n1, .inl g)).slots.size = n1 := by show (arrV _ n1 (fun j => .int (g j))).slots.size = n1; rw [arrV_size]
  obtain ⟨vm', X', step⟩ := X.arraycopy C.ex C.ow (C.ws _ hlk) (C.ws _ hnat) (C.ws _ hst) (C.ws _ hin) (src := a0) (dst := a) (cs := vp_cell (γ.2.2.1 0) (n0, .inl f)) (cd := vp_cell (γ.2.2.1 0) (n1, .inl g)) (srcPos := zi sp) (destPos := zi dp) (n := zi q) (by rw [hT]; exact hc0) (by rw [hT]; exact hc1)
    (fun _ h => by cases h) (fun _ h => by cases h) (fun h => by cases h) (fun h => by cases h) hk0 hk1 hkk0 hkk1 rfl (nz _ hsp (by omega)) (nz _ hdp (by omega)) (nz _ hq (by omega))
    (by rw [zi_toInt (by omega), zi_toInt (by omega), hsize0]; omega)
    (by rw [zi_toInt (by omega), zi_toInt (by omega), hsize1]; omega)
    (fun vm₁ _ i hi => by
      rw [tn _ hq (by omega)] at hi
      have e1 : (vp_cell (γ.2.2.1 0) (n0, .inl f)).slots.getD ((zi sp).toNatClampNeg + i) .null = .int (f ((zi sp).toNatClampNeg + i)) := by
        show (arrV (γ.2.2.1 0) n0 (fun j => .int (f j))).slots.getD _ _ = _
        rw [tn _ hsp (by omega), Array.getD_eq_getD_getElem?, arrV_read _ _ (by omega)]
        rfl
      refine ⟨?_, ?_⟩
      · rw [e1]
        rfl
      · rw [e1]
        exact trivial)
    (g := F0 m pc ls (.int (zi q) :: .int (zi dp) :: .ref a :: .int (zi sp) :: .ref a0 :: st)) rfl (hL.1.trans C.ml.symm) (rest := st) rfl (by rw [C.by]; exact hd) hR.1 (by have := hR.2; show 2 * 0 + _ + (7 + 11) ≤ _; omega)
  have e1 : copied (vp_cell (γ.2.2.1 0) (n0, .inl f)) (vp_cell (γ.2.2.1 0) (n1, .inl g)) (zi sp) (zi dp) (zi q) = vp_cell (γ.2.2.1 0) (n1, .inl (va_cpy f g (zi sp).toNatClampNeg (zi dp).toNatClampNeg (zi q).toNatClampNeg)) := va_copied (fun z => .int z) (γ.2.2.1 0) (γ.2.2.1 0) f g (by rw [tn _ hsp (by omega), tn _ hq (by omega)]; omega)
  rw [tn _ hsp (by omega), tn _ hdp (by omega), tn _ hq (by omega)] at e1
  rw [e1] at X' step
  have hla : a < H.size := (Array.getElem?_eq_some_iff.mp hc1).1
  have hheap : ((T.setVm vm').setCell a (vp_cell (γ.2.2.1 0) (n1, .inl (va_cpy f g sp.toNat dp.toNat q.toNat)))).heap = H.setIfInBounds a (vp_cell (γ.2.2.1 0) (n1, .inl (va_cpy f g sp.toNat dp.toNat q.toNat))) := by rw [← hT]; rfl
  have oq : ∀ q' : Nat, q' ≠ a → (H.setIfInBounds a (vp_cell (γ.2.2.1 0) (n1, .inl (va_cpy f g sp.toNat dp.toNat q.toNat))))[q']? = H[q']? := fun q' hq' => by simp [Array.getElem?_setIfInBounds, Ne.symm hq']
  obtain ⟨t, a1, b1⟩ := kk _ _ ls (hH.set hba (by simp) oq (show (H.setIfInBounds a _)[a]? = some _ by simp [Array.getElem?_setIfInBounds, hla])) (fun q' hq' => by
      rcases List.mem_append.mp hq' with h | h
      · exact hl q' h
      · obtain ⟨z, -, hz'⟩ := List.mem_map.mp h
        rw [← hz']
        exact hba) hL (by simp; exact hz) _ hheap X'
  exact ⟨t, step t a1, b1⟩
end ZR5
