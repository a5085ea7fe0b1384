/-! a rule that forgets how the memory was built; how all begins -/
section ZM4
variable {p : Program} {l : Launch} {e : Env} {R : Room} {s : State} {m : MethodId} {args : Array Value} {below : List Frame} {meth : Method} {c : Code} {γ : zG} {cc : ByteArray} {nL : Nat} {ret : Option FieldType} {own : String} {xt : List ExceptionTableEntry} {Q : State → Prop} {M : zM} {k n pc : Nat} {L : zL} {st : List Value}
theorem z_gen {P : zM → Prop} (hp : P M) (kk : ∀ M', P M' → zAW p l e R s m args below meth c γ nL Q M' k n pc L st) : zAW p l e R s m args below meth c γ nL Q M k n pc L st := kk M hp
end ZM4
/-- how all begins -/
def zY0 : zSys := (zFs9, 0, fun _ => zFs9, fun _ => 0, fun _ => zFs9, (fun _ => 0, 0), (fun _ => 0, 0), 0, -1)

