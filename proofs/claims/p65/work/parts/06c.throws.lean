theorem xw_ISE : ∀ w ∈ (vx_atS RX8 113 "java/lang/IllegalStateException" ["java/lang/RuntimeException", "java/lang/Exception"]).filter goodWord, w ∈ lw_tbl := by decide +kernel
theorem xo_ISE : (vx_atS RX8 113 "java/lang/IllegalStateException" ["java/lang/RuntimeException", "java/lang/Exception"]).all (fun w => goodWord w || decide (w ∈ [Cond.castable "java/lang/IllegalStateException" "java/lang/IllegalStateException", Cond.declares ⟨"java/lang/RuntimeException", "<init>", "(Ljava/lang/String;)V"⟩, Cond.declares ⟨"java/lang/Exception", "<init>", "(Ljava/lang/String;)V"⟩, Cond.declares ⟨"java/lang/Throwable", "<init>", "(Ljava/lang/String;)V"⟩])) = true := by decide +kernel
theorem xg_ISE : ∀ w ∈ Cond.classLink RX8 109 "java/lang/IllegalStateException" :: Cond.initialized "java/lang/IllegalStateException" :: vx_atS RX8 113 "java/lang/IllegalStateException" ["java/lang/RuntimeException", "java/lang/Exception"], vx_ot w = true := by decide +kernel
theorem xw_IAE : ∀ w ∈ (vx_atS RX8 123 "java/lang/IllegalArgumentException" ["java/lang/RuntimeException", "java/lang/Exception"]).filter goodWord, w ∈ lw_tbl := by decide +kernel
theorem xo_IAE : (vx_atS RX8 123 "java/lang/IllegalArgumentException" ["java/lang/RuntimeException", "java/lang/Exception"]).all (fun w => goodWord w || decide (w ∈ [Cond.castable "java/lang/IllegalArgumentException" "java/lang/IllegalArgumentException", Cond.declares ⟨"java/lang/RuntimeException", "<init>", "(Ljava/lang/String;)V"⟩, Cond.declares ⟨"java/lang/Exception", "<init>", "(Ljava/lang/String;)V"⟩, Cond.declares ⟨"java/lang/Throwable", "<init>", "(Ljava/lang/String;)V"⟩])) = true := by decide +kernel
theorem xg_IAE : ∀ w ∈ Cond.classLink RX8 119 "java/lang/IllegalArgumentException" :: Cond.initialized "java/lang/IllegalArgumentException" :: vx_atS RX8 123 "java/lang/IllegalArgumentException" ["java/lang/RuntimeException", "java/lang/Exception"], vx_ot w = true := by decide +kernel
theorem xw_IOB : ∀ w ∈ (vx_atS RX8 368 "java/lang/IndexOutOfBoundsException" ["java/lang/RuntimeException", "java/lang/Exception"]).filter goodWord, w ∈ lw_tbl := by decide +kernel
theorem xo_IOB : (vx_atS RX8 368 "java/lang/IndexOutOfBoundsException" ["java/lang/RuntimeException", "java/lang/Exception"]).all (fun w => goodWord w || decide (w ∈ [Cond.castable "java/lang/IndexOutOfBoundsException" "java/lang/IndexOutOfBoundsException", Cond.declares ⟨"java/lang/RuntimeException", "<init>", "(Ljava/lang/String;)V"⟩, Cond.declares ⟨"java/lang/Exception", "<init>", "(Ljava/lang/String;)V"⟩, Cond.declares ⟨"java/lang/Throwable", "<init>", "(Ljava/lang/String;)V"⟩])) = true := by decide +kernel
theorem xg_IOB : ∀ w ∈ Cond.classLink RX8 364 "java/lang/IndexOutOfBoundsException" :: Cond.initialized "java/lang/IndexOutOfBoundsException" :: vx_atS RX8 368 "java/lang/IndexOutOfBoundsException" ["java/lang/RuntimeException", "java/lang/Exception"], vx_ot w = true := by decide +kernel
section ZR6
variable {p : Program} {l : Launch} {e : Env} {R : Room} {s : State} {m : MethodId} {args : Array Value} {below : List Frame} {meth : Method} {c : Code} {γ : zG} {cc : ByteArray} {nL : Nat} {ret : Option FieldType} {own : String} {xt : List ExceptionTableEntry} {Q : State → Prop} {M : zM} {k n pc mc ms : Nat} {L : zL} {st : List Value} {post : Option Value → zM → Prop} {px : String → zM → Prop}
theorem zS_of (C : zC p l s m args meth c γ cc nL ret own xt) {H : Heap} {locs : List Loc} (hH : zHW γ M H) (hl : zLo γ locs) (hz : s.heap.size ≤ H.size) : va_S (zA γ) s.heap H locs :=
  ⟨hz, fun q h1 h2 => by rw [hH.1.2 q (Nat.lt_of_not_le h2), C.hb.2 q (Nat.lt_of_not_le h2)], hl⟩
/-- throw new X("a text") -/
def zXT (own X : String) (ik ic : Nat) : Prop := Cond.classLink own ik X ∈ LW ∧ Cond.initialized X ∈ LW ∧ X ∈ zCast ∧ Bundle.fit X = true ∧ (∀ w ∈ (vx_atS own ic X ["java/lang/RuntimeException", "java/lang/Exception"]).filter goodWord, w ∈ lw_tbl) ∧ (vx_atS own ic X ["java/lang/RuntimeException", "java/lang/Exception"]).all (fun w => goodWord w || decide (w ∈ [Cond.castable X X, Cond.declares ⟨"java/lang/RuntimeException", "<init>", "(Ljava/lang/String;)V"⟩, Cond.declares ⟨"java/lang/Exception", "<init>", "(Ljava/lang/String;)V"⟩, Cond.declares ⟨"java/lang/Throwable", "<init>", "(Ljava/lang/String;)V"⟩])) = true ∧ ∀ w ∈ Cond.classLink own ik X :: Cond.initialized X :: vx_atS own ic X ["java/lang/RuntimeException", "java/lang/Exception"], vx_ot w = true
theorem z_throw (C : zC p l s m args meth c γ cc nL ret own []) (hQ : Q = zRQ below γ post px args s mc ms) {X text : String} {ik is ic si : Nat} (hX : zXT own X ik ic) (hs : zStrs[si]? = some (own, is, text)) (d0 : decode cc pc = .ok (.new ik, 3)) (d3 : decode cc (pc + 3) = .ok (.dup, 1)) (d4 : decode cc (pc + 4) = .ok (.ldc is, 2)) (d6 : decode cc (pc + 6) = .ok (.invokespecial ic, 3)) (d9 : decode cc (pc + 9) = .ok (.athrow, 1))
    (hR : 5 < R.frames ∧ (st.map fun v => v.category).sum + 82 ≤ R.locals ∧ k + 1 ≤ R.cells ∧ n + 6 ≤ R.slots) (hk : k + 1 ≤ mc) (hn : n + 6 ≤ ms) (hp : px X M) : zAW p l e R s m args below meth c γ nL Q M k n pc L st := by
  subst hQ
  intro H locs ls hH hl hL hz
  obtain ⟨h1, h2, h3, h4, h5, h6, h7⟩ := hX
  have hat : ∀ w ∈ vx_atS own ic X ["java/lang/RuntimeException", "java/lang/Exception"], w.before args s = true := by
    intro w hw
    have h := List.all_eq_true.mp h6 w hw
    by_cases g : goodWord w = true
    · exact C.ws w (LW_mem (h5 w (List.mem_filter.mpr ⟨hw, g⟩)) g)
    · simp only [Bool.not_eq_true] at g
      rw [g] at h
      have h : w ∈ [Cond.castable X X, Cond.declares ⟨"java/lang/RuntimeException", "<init>", "(Ljava/lang/String;)V"⟩, Cond.declares ⟨"java/lang/Exception", "<init>", "(Ljava/lang/String;)V"⟩, Cond.declares ⟨"java/lang/Throwable", "<init>", "(Ljava/lang/String;)V"⟩] := by simpa using h
      have hC := C.ev.2.2.2.2.2.2.2.2.2.2.1 X h3
      have hD := C.ev.2.2.2.2.2.2.2.2.2.2.2.1
      rcases List.mem_cons.mp h with rfl | h
      · exact va_Nw.use rfl hC
      rcases List.mem_cons.mp h with rfl | h
      · exact va_Nw.use rfl (hD "java/lang/RuntimeException" (by decide))
      rcases List.mem_cons.mp h with rfl | h
      · exact va_Nw.use rfl (hD "java/lang/Exception" (by decide))
      rcases List.mem_cons.mp h with rfl | h
      · exact va_Nw.use rfl (hD "java/lang/Throwable" (by decide))
      · cases h
  exact vx_throwS (A := zA γ) C.ex C.by C.tr C.ow h4 (by decide +kernel) (C.ws _ h1) (C.ws _ h2) (C.ev.2.2.2.1 si _ hs) hat h7 (C.ev.2.1.kept fun a h1 h2 => C.hb.2 a h1) (C.ev.2.2.1.kept fun a h1 h2 => C.hb.2 a h1) (zS_of C hH hl hz) (hL.1.trans C.ml.symm) d0 d3 d4 d6 d9 (by rw [C.xtb]; intro x hx; cases hx) hR.1 hR.2.1 hR.2.2.1 hR.2.2.2 C.lk (fun t ht h1 h2 => ⟨⟨M, hp, hH.kept h1 h2⟩, by omega⟩) hl hk hn
theorem z_throwW (C : zC p l s m args meth c γ cc nL ret own []) (hQ : Q = zRQ below γ post px args s mc ms) {X text : String} {ik is ic si : Nat} (hX : zXT own X ik ic) (hs : zStrs[si]? = some (own, is, text)) (d0 : decode cc pc = .ok (.new ik, 3)) (d3 : decode cc (pc + 3) = .ok (.dup, 1)) (d4 : decode cc (pc + 4) = .ok (.ldc_w is, 3)) (d6 : decode cc (pc + 7) = .ok (.invokespecial ic, 3)) (d9 : decode cc (pc + 10) = .ok (.athrow, 1))
    (hR : 5 < R.frames ∧ (st.map fun v => v.category).sum + 82 ≤ R.locals ∧ k + 1 ≤ R.cells ∧ n + 6 ≤ R.slots) (hk : k + 1 ≤ mc) (hn : n + 6 ≤ ms) (hp : px X M) : zAW p l e R s m args below meth c γ nL Q M k n pc L st := by
  subst hQ
  intro H locs ls hH hl hL hz
  obtain ⟨h1, h2, h3, h4, h5, h6, h7⟩ := hX
  have hat : ∀ w ∈ vx_atS own ic X ["java/lang/RuntimeException", "java/lang/Exception"], w.before args s = true := by
    intro w hw
    have h := List.all_eq_true.mp h6 w hw
    by_cases g : goodWord w = true
    · exact C.ws w (LW_mem (h5 w (List.mem_filter.mpr ⟨hw, g⟩)) g)
    · simp only [Bool.not_eq_true] at g
      rw [g] at h
      have h : w ∈ [Cond.castable X X, Cond.declares ⟨"java/lang/RuntimeException", "<init>", "(Ljava/lang/String;)V"⟩, Cond.declares ⟨"java/lang/Exception", "<init>", "(Ljava/lang/String;)V"⟩, Cond.declares ⟨"java/lang/Throwable", "<init>", "(Ljava/lang/String;)V"⟩] := by simpa using h
      have hC := C.ev.2.2.2.2.2.2.2.2.2.2.1 X h3
      have hD := C.ev.2.2.2.2.2.2.2.2.2.2.2.1
      rcases List.mem_cons.mp h with rfl | h
      · exact va_Nw.use rfl hC
      rcases List.mem_cons.mp h with rfl | h
      · exact va_Nw.use rfl (hD "java/lang/RuntimeException" (by decide))
      rcases List.mem_cons.mp h with rfl | h
      · exact va_Nw.use rfl (hD "java/lang/Exception" (by decide))
      rcases List.mem_cons.mp h with rfl | h
      · exact va_Nw.use rfl (hD "java/lang/Throwable" (by decide))
      · cases h
  exact vx_throwSW (A := zA γ) C.ex C.by C.tr C.ow h4 (by decide +kernel) (C.ws _ h1) (C.ws _ h2) (C.ev.2.2.2.1 si _ hs) hat h7 (C.ev.2.1.kept fun a h1 h2 => C.hb.2 a h1) (C.ev.2.2.1.kept fun a h1 h2 => C.hb.2 a h1) (zS_of C hH hl hz) (hL.1.trans C.ml.symm) d0 d3 d4 d6 d9 (by rw [C.xtb]; intro x hx; cases hx) hR.1 hR.2.1 hR.2.2.1 hR.2.2.2 C.lk (fun t ht h1 h2 => ⟨⟨M, hp, hH.kept h1 h2⟩, by omega⟩) hl hk hn
end ZR6
