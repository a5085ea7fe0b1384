/-! rows of references -/
section ZR12
variable {p : Program} {l : Launch} {e : Env} {R : Room} {s : State} {m : MethodId} {args : Array Value} {below : List Frame} {meth : Method} {c : Code} {γ : zG} {cc : ByteArray} {nL : Nat} {ret : Option FieldType} {own : String} {xt : List ExceptionTableEntry} {Q : State → Prop} {M : zM} {k n pc mc ms : Nat} {L : zL} {st : List Value}
theorem z_newQ (C : zC p l s m args meth c γ cc nL ret own xt) {N : Int} {kd idx : Nat} {Cn : String} (hd : decode cc pc = .ok (.anewarray idx, 3)) (hcl : Cond.classLink own idx Cn ∈ LW) (hk : kd < 8) (hT : zT kd = .object Cn) (hAO : va_AO Cn s) (hN : 0 ≤ N ∧ N ≤ 60000) (hR : k + 1 ≤ R.cells ∧ n + N.toNat ≤ R.slots) (kk : ∀ q : Nat, M q = none → zAW p l e R s m args below meth c γ nL Q (va_up M q (some (zaQ γ kd N.toNat (fun _ => none)))) (k + 1) (n + N.toNat) (pc + 3) L (.ref q :: st)) : zAW p l e R s m args below meth c γ nL Q M k n pc L (.int (zi N) :: st) := by
  intro H locs ls hH hl hL hz
  have hn : (zi N).toNatClampNeg = N.toNat := by
    show (zi N).toInt.toNat = _
    rw [zi_toInt (by omega)]
  refine W.anew C.ex C.by C.ow (C.ws _ hcl) (va_AO.use hAO) rfl hd rfl (fun h => by rw [zi_0, zi_lt (by omega) (by omega)] at h; omega) (by rw [hn]; omega) hR.1 (by rw [hn]; exact hR.2) fun cA kA comp f1 f2 f3 f4 => ?_
  rw [hn]
  have hra := (zK_ty C hk).2
  rw [hT] at hra
  obtain ⟨kA', comp', g1, g2, g3, g4⟩ := hra
  have hcA : cA = γ.2.2.1 kd := Option.some.inj (f1.symm.trans g4)
  subst hcA
  generalize hH1 : H.push ({ cls := γ.2.2.1 kd, slots := Array.replicate N.toNat .null, vm := .none } : Cell) = H1
  have z1 : H1.size = H.size + 1 := by rw [← hH1, Array.size_push]
  have e1 : H1[H.size]? = some (arrV (γ.2.2.1 kd) N.toNat (fun _ => .null)) := by rw [← hH1, Array.getElem?_push_size, ← arrV_new]
  have o1 : ∀ q : Nat, q < H.size → H1[q]? = H[q]? := fun q hq => by rw [← hH1, Array.getElem?_push, if_neg (Nat.ne_of_lt hq)]
  refine kk H.size hH.free H1 locs ls (hH.push z1 o1 ?_) hl hL (by omega)
  show H1[H.size]? = some (vp_cell _ _)
  rw [vp_cell_q]
  exact e1
theorem z_astQ (C : zC p l s m args meth c γ cc nL ret own xt) {a b N kd ci : Nat} {f : Nat → Option Nat} {i : Int} {fs : List Value} {r : vw_C} (hd : decode cc pc = .ok (.aastore, 1)) (hM : M a = some (zaQ γ kd N f)) (hk : kd < 8) (hc : vwCl[ci]? = some r) (hT : zT kd = .object r.1) (hb : M b = some (.inr (ci, fs))) (hi : 0 ≤ i ∧ i < N) (hN : N ≤ 2147483648) (kk : zAW p l e R s m args below meth c γ nL Q (va_up M a (some (zaQ γ kd N (va_up f i.toNat (some b))))) k n (pc + 1) L st) : zAW p l e R s m args below meth c γ nL Q M k n pc L (.ref b :: .int (zi i) :: .ref a :: st) := by
  intro H locs ls hH hl hL hz
  have hin := zi_in hi hN
  have hcl := zi_nat hi hN
  have hlt : (zi i).toNatClampNeg < N := by rw [hcl]; omega
  have h0 : ¬ zi i < 0 := fun q => hin (Or.inl q)
  obtain ⟨hba, hat⟩ := hH.2 a _ hM
  obtain ⟨r', hr', cellV, g1, g2, g3, -⟩ := (hH.2 b _ hb).2
  have hcls := (C.K.1 ci r hc).2
  have hra := (zK_ty C hk).2
  rw [hT] at hra
  obtain ⟨kA, comp, k1, k2, k3, -⟩ := hra
  have hcomp : comp = γ.1.1 ci := Option.some.inj (k3.symm.trans hcls.1)
  subst hcomp
  obtain ⟨kC, hkC, -⟩ := hcls.2
  refine W.aast C.ex C.by hat (fun q h => by cases h) (fun h => by cases h) k1 k2 rfl hkC ⟨h0, by show _ < (arrV _ _ _).slots.size; rw [arrV_size]; exact hlt⟩ g1 (fun q h => by rw [g3] at h; cases h) (by rw [g2]; exact hkC) (by rw [g2]; exact va_assign hcls) rfl rfl hd fun H1 e1 e2 e3 => ?_
  refine kk H1 _ ls (hH.set hba e2 e3 ?_) ?_ hL (by rw [e2]; exact hz)
  · show H1[a]? = some (vp_cell _ _)
    rw [e1]
    rw [vp_cell_q, vp_cell_q, arrV_store, hcl]
    congr 2
    funext q
    by_cases hq : q = i.toNat
    · subst hq
      simp [updV, va_up, va_rf]
    · simp [updV, va_up, hq]
  · intro q hq
    rcases List.mem_append.mp hq with h | h
    · exact hl q h
    · rw [List.mem_singleton.mp h]; exact hba
/-- a smaller map is enough -/
theorem z_sub {M0 : zM} (hs : ∀ a x, M0 a = some x → M a = some x) (kk : zAW p l e R s m args below meth c γ nL Q M0 k n pc L st) : zAW p l e R s m args below meth c γ nL Q M k n pc L st := fun H locs ls hH hl hL hz => kk H locs ls (hH.sub hs) hl hL hz
end ZR12

