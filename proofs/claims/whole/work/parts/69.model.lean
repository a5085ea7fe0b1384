/-! the model: its object, its cells -/
section ZM1
variable {p : Program} {l : Launch} {e : Env} {R : Room} {s : State} {m : MethodId} {args : Array Value} {below : List Frame} {meth : Method} {c : Code} {γ : zG} {cc : ByteArray} {nL : Nat} {ret : Option FieldType} {own : String} {xt : List ExceptionTableEntry} {Q : State → Prop} {M : zM} {k n pc : Nat} {L : zL} {st : List Value}
/-- the model's fields: the rows' cells by A, the numbers by F -/
def mLs (A : Nat → Nat) (F : Nat → Int) : List Value := [.ref (A 1), .ref (A 2), .ref (A 3), .ref (A 4), .ref (A 5), .ref (A 6), .int (zi (F 6)), .int (zi (F 7)), .int (zi (F 8)), .ref (A 7), .int (zi (F 10)), .ref (A 8), .ref (A 9), .int (zi (F 13)), .ref (A 10), .long (zl (F 15)), .long (zl (F 16)), .int (zi (F 17)), .ref (A 11), .int (zi (F 19)), .int (zi (F 20)), .int (zi (F 21)), .int (zi (F 22)), .int (zi (F 23)), .int (zi (F 24)), .int (zi (F 25)), .int (zi (F 26)), .ref (A 12), .ref (A 13), .int (zi (F 29)), .ref (A 14), .int (zi (F 31)), .int (zi (F 32))]
abbrev mOb (A : Nat → Nat) (F : Nat → Int) : va_E := .inr (9, mLs A F)
theorem z_getM (C : zC p l s m args meth c γ cc nL ret own xt) {a kf index : Nat} {fin : Bool} {ty : FieldType} {A : Nat → Nat} {F : Nat → Int} {x : Int} (hd : decode cc pc = .ok (.getfield index, 3)) (hF : zFL own index 9 kf fin ty) (hM : M a = some (mOb A F)) (hv : (mLs A F)[kf]? = some (.int (zi (F kf)))) (hx : F kf = x) (kk : zAW p l e R s m args below meth c γ nL Q M k n (pc + 3) L (.int (zi x) :: st)) : zAW p l e R s m args below meth c γ nL Q M k n pc L (.ref a :: st) := by
  subst hx
  exact z_get C hd hF hM hv kk
theorem z_getMJ (C : zC p l s m args meth c γ cc nL ret own xt) {a kf index : Nat} {fin : Bool} {ty : FieldType} {A : Nat → Nat} {F : Nat → Int} {x : Int} (hd : decode cc pc = .ok (.getfield index, 3)) (hF : zFL own index 9 kf fin ty) (hM : M a = some (mOb A F)) (hv : (mLs A F)[kf]? = some (.long (zl (F kf)))) (hx : F kf = x) (kk : zAW p l e R s m args below meth c γ nL Q M k n (pc + 3) L (.long (zl x) :: st)) : zAW p l e R s m args below meth c γ nL Q M k n pc L (.ref a :: st) := by
  subst hx
  exact z_get C hd hF hM hv kk
theorem z_putM (C : zC p l s m args meth c γ cc nL ret own xt) {a kf index : Nat} {A : Nat → Nat} {F : Nat → Int} {x : Int} (hd : decode cc pc = .ok (.putfield index, 3)) (hF : zFL own index 9 kf false .int) (hM : M a = some (mOb A F)) (hs : (mLs A F).set kf (.int (zi x)) = mLs A (va_up F kf x)) (kk : zAW p l e R s m args below meth c γ nL Q (va_up M a (some (mOb A (va_up F kf x)))) k n (pc + 3) L st) : zAW p l e R s m args below meth c γ nL Q M k n pc L (.int (zi x) :: .ref a :: st) := by
  have hlt : kf < (mLs A F).length := by
    obtain ⟨ref, Cn, T, N, ty0, h1, h2, h3, h4, -⟩ := hF
    have : N = 33 := by
      have h3 : some _ = some (Cn, T, N) := h3
      cases h3
      rfl
    subst this
    exact h4
  refine z_put C hd hF hM rfl rfl hlt ?_
  rw [hs]
  exact kk
theorem z_putMJ (C : zC p l s m args meth c γ cc nL ret own xt) {a kf index : Nat} {A : Nat → Nat} {F : Nat → Int} {x : Int} (hd : decode cc pc = .ok (.putfield index, 3)) (hF : zFL own index 9 kf false .long) (hM : M a = some (mOb A F)) (hs : (mLs A F).set kf (.long (zl x)) = mLs A (va_up F kf x)) (kk : zAW p l e R s m args below meth c γ nL Q (va_up M a (some (mOb A (va_up F kf x)))) k n (pc + 3) L st) : zAW p l e R s m args below meth c γ nL Q M k n pc L (.long (zl x) :: .ref a :: st) := by
  have hlt : kf < (mLs A F).length := by
    obtain ⟨ref, Cn, T, N, ty0, h1, h2, h3, h4, -⟩ := hF
    have : N = 33 := by
      have h3 : some _ = some (Cn, T, N) := h3
      cases h3
      rfl
    subst this
    exact h4
  refine z_put C hd hF hM rfl rfl hlt ?_
  rw [hs]
  exact kk
/-- the model's cells are apart -/
def mIA (A : Nat → Nat) : Prop := ∀ i j, i < 15 → j < 15 → A i = A j → i = j
theorem mIA.ne {A : Nat → Nat} (h : mIA A) {i j : Nat} (q : (i < 15 ∧ j < 15) ∧ i ≠ j) : A i ≠ A j := fun w => q.2 (h i j q.1.1 q.1.2 w)
/-- what changed lies in the cells of K -/
def mF (A : Nat → Nat) (M M' : zM) (K : List Nat) : Prop := zFr M M' (K.map A)
theorem mF.rf {A : Nat → Nat} {K : List Nat} : mF A M M K := zFr.rf
theorem mF.tr {A : Nat → Nat} {M1 M2 : zM} {K K1 K2 : List Nat} (h1 : mF A M M1 K1) (h2 : mF A M1 M2 K2) (s : K1.all (fun i => K.contains i) = true ∧ K2.all (fun i => K.contains i) = true) : mF A M M2 K := by
  have aux : ∀ {K1 : List Nat}, K1.all (fun i => K.contains i) = true → ∀ b, b ∈ K1.map A → b ∈ K.map A := fun h b hb => by
    obtain ⟨i, hi, rfl⟩ := List.mem_map.mp hb
    exact List.mem_map.mpr ⟨i, by simpa using List.all_eq_true.mp h i hi, rfl⟩
  exact zFr.tr h1 h2 (aux s.1) (aux s.2)
theorem mF.up {A : Nat → Nat} {M1 : zM} {K : List Nat} {i : Nat} {x : Option va_E} (h : mF A M M1 K) (hi : K.contains i = true) : mF A M (va_up M1 (A i) x) K := zFr.u1 h (List.mem_map.mpr ⟨i, by simpa using hi, rfl⟩)
/-- cell i isn't among those of K -/
def mNi (i : Nat) (K : List Nat) : Prop := i < 15 ∧ ∀ j ∈ K, j < 15 ∧ i ≠ j
theorem mNi.of {i : Nat} {K : List Nat} (h : (decide (i < 15) && K.all (fun j => decide (j < 15) && decide (i ≠ j))) = true) : mNi i K := by
  rw [Bool.and_eq_true] at h
  refine ⟨by simpa using h.1, fun j hj => ?_⟩
  have := List.all_eq_true.mp h.2 j hj
  simpa using this
theorem mF.at {A : Nat → Nat} (hA : mIA A) {M1 : zM} {K : List Nat} {i : Nat} {x : Option va_E} (h : mF A M M1 K) (hi : mNi i K) (hx : M (A i) = x) : M1 (A i) = x := zFr.at h (fun w => by
  obtain ⟨j, hj, e1⟩ := List.mem_map.mp w
  exact hA.ne ⟨⟨(hi.2 j hj).1, hi.1⟩, fun q => (hi.2 j hj).2 q.symm⟩ e1) hx
/-- the rows that hold a state: the current one, the parsed one, the tried one -/
def mRw (q : Nat) : Prop := q = 1 ∨ q = 2 ∨ q = 3
theorem mRw.ni {q : Nat} {K : List Nat} (h : mRw q) (hK : K.all (fun j => decide (j < 15) && decide (j = 0 ∨ 3 < j)) = true) : mNi q K := by
  refine ⟨by unfold mRw at h; omega, fun j hj => ?_⟩
  have := List.all_eq_true.mp hK j hj
  simp at this
  unfold mRw at h
  omega
end ZM1

