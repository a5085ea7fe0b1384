/-! int arrays whose contents are written as whole numbers in range -/
def zR (x : Int) : Prop := -2147483648 ≤ x ∧ x ≤ 2147483647
abbrev zar (γ : zG) (N : Nat) (g : Nat → Int) : va_E := zaI γ N (fun j => zi (g j))
theorem zR_up {g : Nat → Int} (hg : ∀ j, zR (g j)) {k : Nat} {v : Int} (hv : zR v) : ∀ j, zR (va_up g k v j) := by
  intro j
  unfold va_up
  split
  · exact hv
  · exact hg j
theorem zR_cpy {f g : Nat → Int} (hf : ∀ j, zR (f j)) (hg : ∀ j, zR (g j)) {a b n : Nat} : ∀ j, zR (va_cpy f g a b n j) := by
  intro j
  unfold va_cpy
  split
  · exact hf _
  · exact hg j
theorem zar_up (γ : zG) (N : Nat) (g : Nat → Int) (k : Nat) (v : Int) : zaI γ N (va_up (fun j => zi (g j)) k (zi v)) = zar γ N (va_up g k v) := by
  have h : va_up (fun j => zi (g j)) k (zi v) = fun j => zi (va_up g k v j) := by
    funext j
    unfold va_up
    split <;> rfl
  rw [h]
theorem zar_cpy (γ : zG) (N : Nat) (f g : Nat → Int) (a b n : Nat) : zaI γ N (va_cpy (fun j => zi (f j)) (fun j => zi (g j)) a b n) = zar γ N (va_cpy f g a b n) := by
  have h : va_cpy (fun j => zi (f j)) (fun j => zi (g j)) a b n = fun j => zi (va_cpy f g a b n j) := by
    funext j
    unfold va_cpy
    split <;> rfl
  rw [h]
section ZR7
variable {p : Program} {l : Launch} {e : Env} {R : Room} {s : State} {m : MethodId} {args : Array Value} {below : List Frame} {meth : Method} {c : Code} {γ : zG} {cc : ByteArray} {nL : Nat} {ret : Option FieldType} {own : String} {xt : List ExceptionTableEntry} {Q : State → Prop} {M : zM} {k n pc mc ms : Nat} {L : zL} {st : List Value}
theorem z_aldN (C : zC p l s m args meth c γ cc nL ret own xt) {a N : Nat} {g : Nat → Int} {i : Int} (hd : decode cc pc = .ok (.iaload, 1)) (hM : M a = some (zar γ N g)) (hi : 0 ≤ i ∧ i < N) (hN : N ≤ 2147483648) (hg : ∀ j, zR (g j)) (kk : -2147483648 ≤ g i.toNat ∧ g i.toNat ≤ 2147483647 → zAW p l e R s m args below meth c γ nL Q M k n (pc + 1) L (.int (zi (g i.toNat)) :: st)) : zAW p l e R s m args below meth c γ nL Q M k n pc L (.int (zi i) :: .ref a :: st) := z_aldI C hd hM hi hN (kk (hg _))
theorem z_astN (C : zC p l s m args meth c γ cc nL ret own xt) {a N : Nat} {g : Nat → Int} {i v : Int} (hd : decode cc pc = .ok (.iastore, 1)) (hM : M a = some (zar γ N g)) (hi : 0 ≤ i ∧ i < N) (hN : N ≤ 2147483648) (hg : ∀ j, zR (g j)) (hv : -2147483648 ≤ v ∧ v ≤ 2147483647) (kk : (∀ j, zR (va_up g i.toNat v j)) → zAW p l e R s m args below meth c γ nL Q (va_up M a (some (zar γ N (va_up g i.toNat v)))) k n (pc + 1) L st) : zAW p l e R s m args below meth c γ nL Q M k n pc L (.int (zi v) :: .int (zi i) :: .ref a :: st) := z_astI C hd hM hi hN (by rw [zar_up]; exact kk (zR_up hg hv))
theorem z_copyZ (C : zC p l s m args meth c γ cc nL ret own xt) {idx a0 a n0 n1 : Nat} {f g : Nat → Int} {sp dp q : Int} (hd : decode cc pc = .ok (.invokestatic idx, 3)) (hlk : Cond.methodLink own idx arraycopyName ∈ LW) (hnat : Cond.native arraycopyName ∈ LW) (hst : Cond.static arraycopyName ∈ LW) (hin : Cond.initialized "java/lang/System" ∈ LW) (h0 : M a0 = some (zar γ n0 f)) (h1 : M a = some (zar γ n1 g)) (hsp : 0 ≤ sp) (hdp : 0 ≤ dp) (hq : 0 ≤ q) (hb0 : sp + q ≤ n0) (hb1 : dp + q ≤ n1) (hn0 : n0 ≤ 2147483647) (hn1 : n1 ≤ 2147483647) (hR : 1 ≤ R.frames ∧ (st.map fun v => v.category).sum + 18 ≤ R.locals) (hf : ∀ j, zR (f j)) (hg : ∀ j, zR (g j))
    (kk : (∀ j, zR (va_cpy f g sp.toNat dp.toNat q.toNat j)) → zAW p l e R s m args below meth c γ nL Q (va_up M a (some (zar γ n1 (va_cpy f g sp.toNat dp.toNat q.toNat)))) k n (pc + 3) L st) : zAW p l e R s m args below meth c γ nL Q M k n pc L (.int (zi q) :: .int (zi dp) :: .ref a :: .int (zi sp) :: .ref a0 :: st) := z_copyI C hd hlk hnat hst hin h0 h1 hsp hdp hq hb0 hb1 hn0 hn1 hR (by rw [zar_cpy]; exact kk (zR_cpy hf hg))
end ZR7
