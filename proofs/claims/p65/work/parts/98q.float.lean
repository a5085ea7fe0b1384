/-! a double that is a number equals itself -/
theorem zord {x : FP.Core.Datum} (h : x ≠ .nan) : FP.Core.order x x = some .eq := by
  cases x with
  | nan => exact absurd rfl h
  | inf s =>
    show some (compare _ _) = some .eq
    congr 1
    exact Std.ReflCmp.compare_self
  | fin s c q =>
    show some (compare _ _) = some .eq
    congr 1
    exact Std.ReflCmp.compare_self
theorem zdn {x : UInt64} (h : vf_n64 x) : FP.Core.decode FP.Core.b64 x.toNat ≠ .nan := by
  unfold vf_n64 at h
  rw [UInt64.le_iff_toNat_le, UInt64.toNat_and] at h
  have e2 : (0x7fffffffffffffff : UInt64).toNat = 2 ^ 63 - 1 := by decide +kernel
  have e3 : (0x7ff0000000000000 : UInt64).toNat = 9218868437227405312 := by decide +kernel
  rw [e2, e3, Nat.and_two_pow_sub_one_eq_mod] at h
  unfold FP.Core.decode FP.Core.fieldE FP.Core.fieldT
  rw [zb_t, zb_e]
  split
  · rename_i w
    rw [if_pos (by omega)]
    exact fun q => by cases q
  · split
    · exact fun q => by cases q
    · exact fun q => by cases q
section ZR68
variable {p : Program} {l : Launch} {e : Env} {R : Room} {s : State} {m : MethodId} {args : Array Value} {below : List Frame} {meth : Method} {c : Code} {γ : zG} {cc : ByteArray} {nL : Nat} {ret : Option FieldType} {own : String} {xt : List ExceptionTableEntry} {Q : State → Prop} {M : zM} {k n pc : Nat} {L : zL} {st : List Value}
theorem z_dcmp0 (C : zC p l s m args meth c γ cc nL ret own xt) {x : UInt64} {op : CmpOp} (hd : decode cc pc = .ok (.dcmp op, 1)) (hv : vf_n64 x) (kk : zAW p l e R s m args below meth c γ nL Q M k n (pc + 1) L (.int (zi 0) :: st)) : zAW p l e R s m args below meth c γ nL Q M k n pc L (.double x :: .double x :: st) := by
  intro H locs ls hH hl hL hz
  refine lv_dcmp C.ex C.by hd ?_
  have e1 : FP.dcmp x x = some .eq := zord (zdn hv)
  rw [e1]
  exact kk H locs ls hH hl hL hz
end ZR68
theorem zcmp_self (x : Int) : zcmp x x = 0 := by
  unfold zcmp
  rw [if_neg (by omega), if_pos rfl]

