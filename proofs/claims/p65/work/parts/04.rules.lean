-- the text constants: class, place, text
def zStrs : List (String × Nat × String) := [("TrigramReaders", 82, "reader ann a;reader bob c;document abra_cadabra;document banana;train ann 0;train bob 0;train bob 1;year;train ann 1;"), ("TrigramReaders$Parser", 38, "reader"), ("TrigramReaders$Parser", 159, "a"), ("TrigramReaders$Parser", 161, "c"), ("TrigramReaders$Parser", 163, "d"), ("TrigramReaders$Parser", 48, "document"), ("TrigramReaders$Parser", 53, "train"), ("TrigramReaders$Parser", 58, "year"), ("TrigramReaders", 111, "the input buffer is full"), ("TrigramReaders", 121, "the length is out of range"), ("TrigramReaders", 134, "the text has an error"), ("TrigramReaders", 366, "the reader does not exist"), ("TrigramReaders", 372, "the document does not exist"), ("TrigramReaders", 180, "the document has no such position"), ("TrigramReaders", 382, "the symbol is not valid"), ("TrigramReaders", 384, "the context is not valid"), ("TrigramReaders", 224, "the rank is out of range"), ("TrigramReaders", 283, "both are the same reader"), ("TrigramReaders", 376, "the method is out of range"), ("TrigramReadersLaw", 52, "reader r"), ("TrigramReadersLaw", 57, "xyz"), ("TrigramReadersLaw", 59, "acd"), ("TrigramReadersLaw", 61, "document "), ("TrigramReadersLaw", 36, "abcdefghijklmnopqrstuvwxyz"), ("TrigramReadersLaw", 71, "year;"), ("TrigramReadersLaw", 73, "train r")]
def zStrLen : List Nat := [117, 6, 1, 1, 1, 8, 5, 4, 24, 26, 21, 25, 27, 33, 23, 24, 24, 24, 26, 8, 3, 3, 9, 26, 5, 7]
def zStrByt : List (List Int32) := [[114, 101, 97, 100, 101, 114, 32, 97, 110, 110, 32, 97, 59, 114, 101, 97, 100, 101, 114, 32, 98, 111, 98, 32, 99, 59, 100, 111, 99, 117, 109, 101, 110, 116, 32, 97, 98, 114, 97, 95, 99, 97, 100, 97, 98, 114, 97, 59, 100, 111, 99, 117, 109, 101, 110, 116, 32, 98, 97, 110, 97, 110, 97, 59, 116, 114, 97, 105, 110, 32, 97, 110, 110, 32, 48, 59, 116, 114, 97, 105, 110, 32, 98, 111, 98, 32, 48, 59, 116, 114, 97, 105, 110, 32, 98, 111, 98, 32, 49, 59, 121, 101, 97, 114, 59, 116, 114, 97, 105, 110, 32, 97, 110, 110, 32, 49, 59], [114, 101, 97, 100, 101, 114], [97], [99], [100], [100, 111, 99, 117, 109, 101, 110, 116], [116, 114, 97, 105, 110], [121, 101, 97, 114], [116, 104, 101, 32, 105, 110, 112, 117, 116, 32, 98, 117, 102, 102, 101, 114, 32, 105, 115, 32, 102, 117, 108, 108], [116, 104, 101, 32, 108, 101, 110, 103, 116, 104, 32, 105, 115, 32, 111, 117, 116, 32, 111, 102, 32, 114, 97, 110, 103, 101], [116, 104, 101, 32, 116, 101, 120, 116, 32, 104, 97, 115, 32, 97, 110, 32, 101, 114, 114, 111, 114], [116, 104, 101, 32, 114, 101, 97, 100, 101, 114, 32, 100, 111, 101, 115, 32, 110, 111, 116, 32, 101, 120, 105, 115, 116], [116, 104, 101, 32, 100, 111, 99, 117, 109, 101, 110, 116, 32, 100, 111, 101, 115, 32, 110, 111, 116, 32, 101, 120, 105, 115, 116], [116, 104, 101, 32, 100, 111, 99, 117, 109, 101, 110, 116, 32, 104, 97, 115, 32, 110, 111, 32, 115, 117, 99, 104, 32, 112, 111, 115, 105, 116, 105, 111, 110], [116, 104, 101, 32, 115, 121, 109, 98, 111, 108, 32, 105, 115, 32, 110, 111, 116, 32, 118, 97, 108, 105, 100], [116, 104, 101, 32, 99, 111, 110, 116, 101, 120, 116, 32, 105, 115, 32, 110, 111, 116, 32, 118, 97, 108, 105, 100], [116, 104, 101, 32, 114, 97, 110, 107, 32, 105, 115, 32, 111, 117, 116, 32, 111, 102, 32, 114, 97, 110, 103, 101], [98, 111, 116, 104, 32, 97, 114, 101, 32, 116, 104, 101, 32, 115, 97, 109, 101, 32, 114, 101, 97, 100, 101, 114], [116, 104, 101, 32, 109, 101, 116, 104, 111, 100, 32, 105, 115, 32, 111, 117, 116, 32, 111, 102, 32, 114, 97, 110, 103, 101], [114, 101, 97, 100, 101, 114, 32, 114], [120, 121, 122], [97, 99, 100], [100, 111, 99, 117, 109, 101, 110, 116, 32], [97, 98, 99, 100, 101, 102, 103, 104, 105, 106, 107, 108, 109, 110, 111, 112, 113, 114, 115, 116, 117, 118, 119, 120, 121, 122], [121, 101, 97, 114, 59], [116, 114, 97, 105, 110, 32, 114]]
/-- the nest links -/
def zNest : List (String × Nat × MethodName × String) := [(RX8, 43, yX0_init, "TrigramReaders"), (RX7, 33, yX6_init, "TrigramReaders"), (RX6, 24, yX2_init, "TrigramReaders"), (RX7, 34, yX3_init, "TrigramReaders"), (RX4, 145, yX8_isLetter, "TrigramReaders"), (RX4, 148, yX8_isDigit, "TrigramReaders"), (RX0, 27, yX8_isLetter, "TrigramReaders"), (RX3, 34, yX8_isLetter, "TrigramReaders"), (RX4, 165, yX8_withDigit, "TrigramReaders"), (RX2, 47, yX8_firstOrder, "TrigramReaders"), (RX2, 50, yX8_contextStart, "TrigramReaders"), (RX8, 59, yX2_init, "TrigramReaders"), (RX8, 66, yX5_init, "TrigramReaders"), (RX8, 73, yX1_init, "TrigramReaders"), (RX5, 25, yX8_firstOrder, "TrigramReaders"), (RX5, 29, yX8_contextStart, "TrigramReaders"), (RX1, 25, yX8_firstOrder, "TrigramReaders"), (RX1, 38, yX8_contextStart, "TrigramReaders")]
def zCast : List String := ["java/lang/IllegalStateException", "java/lang/IllegalArgumentException", "java/util/NoSuchElementException", "java/lang/IndexOutOfBoundsException"]
def zDecl : List String := ["java/lang/RuntimeException", "java/lang/Exception", "java/lang/Throwable"]
def zNot : List (String × String) := [("java/lang/IllegalStateException", "java/lang/IllegalArgumentException")]
abbrev zG0 : Type := va_G × Heap × (Nat → ClassId) × (Nat → Nat) × (Nat → Nat)
theorem va_Nw.warmP {x : MethodName} {s U : State} (hW : s.WarmedH U.vm) (hZ : va_Nw (.privateMethod x) s) : va_Nw (.privateMethod x) U := va_tabs rfl (rfl : (s.setVm U.vm).vm = U.vm) (by rw [Cond.privateMethod_setVm hW.alike]; exact hZ)
/-- StringBuilder's own private methods that are called -/
def zPrv : List MethodName := [yJ5_ensureCapacityInternal_d00df, yJ5_newCapacity_0f7a4, yJ5_putStringAt_47b60, yJ5_inflateIfNeededFor_a7421]
/-- the script: its place and length are at 26 of the last two, its numbers behind -/
def zsc (γ : zG0) (j : Nat) : Int32 := (UInt32.ofNat (γ.2.2.2.2 (27 + j))).toInt32
def zJdk (γ : zG0) (U : State) : Prop := va_Z "java/lang/String" "COMPACT_STRINGS" "Z" (.int 1) (fun q => γ.2.1.size ≤ q) U γ.2.1 ∧ va_Zq "jdk/internal/util/Preconditions" "SIOOBE_FORMATTER" "Ljava/util/function/BiFunction;" (fun q => γ.2.1.size ≤ q) U γ.2.1 ∧ va_Nw (.castable "[B" "java/lang/Cloneable") U ∧ (∃ d, va_Z "java/lang/Integer" "DigitOnes" "[B" (.ref d) (fun q => γ.2.1.size ≤ q) U γ.2.1 ∧ va_T .byte d 100 (fun j => .int (Int32.ofInt (48 + ((j : Int) % 10)))) (fun q => γ.2.1.size ≤ q) U γ.2.1) ∧ va_X (γ.2.2.2.1 26) (γ.2.2.2.2 26) (zsc γ) U γ.2.1 ∧ (γ.2.2.2.1 26 < γ.2.1.size ∧ γ.2.2.2.2 26 ≤ 260) ∧ ∀ y ∈ zPrv, va_Nw (.privateMethod y) U
theorem zJdk.warm {γ : zG0} {u U : State} (hW : u.WarmedH U.vm) (h : zJdk γ u) : zJdk γ U := by
  obtain ⟨h1, h2, h3, ⟨d, h4, h5⟩, h6, h7, h8⟩ := h
  exact ⟨va_Z.moved hW.alike h1, va_Zq.moved hW.alike h2, h3.warmC hW, ⟨d, va_Z.moved hW.alike h4, va_T.moved hW.alike h5⟩, va_X.moved hW.alike h6, h7, fun y hy => (h8 y hy).warmP hW⟩
theorem zJdk.same {γ : zG0} {u U : State} (hW : U.vm = u.vm) (h : zJdk γ u) : zJdk γ U := by
  have ha : u.vm.Alike U.vm := by rw [hW]; exact Vm.Alike.refl _
  obtain ⟨h1, h2, h3, ⟨d, h4, h5⟩, h6, h7, h8⟩ := h
  exact ⟨va_Z.moved ha h1, va_Zq.moved ha h2, va_Nw.same rfl hW.symm h3, ⟨d, va_Z.moved ha h4, va_T.moved ha h5⟩, va_X.moved ha h6, h7, fun y hy => va_Nw.same rfl hW.symm (h8 y hy)⟩
/-! THE WORLD AS A MAP: zM says what each address of ours holds; zHW that a heap holds it (and what lay there before, unchanged); zAW is W over every heap that holds the map. -/
abbrev zM : Type := Nat → Option va_E
abbrev zG : Type := va_G × Heap × (Nat → ClassId) × (Nat → Nat) × (Nat → Nat)
abbrev zL : Type := List (Option Value)
def zT : Nat → FieldType := fun i => match i with
  | 0 => .int
  | 1 => .boolean
  | 2 => .byte
  | 3 => .int
  | 4 => .int
  | 5 => .object "TrigramReaders$Reader"
  | 6 => .object "TrigramReaders$Document"
  | _ => .object "TrigramReaders$State"
abbrev zTys (γ : zG) : List (ClassId × FieldType) := (List.range 8).map fun i => (γ.2.2.1 i, zT i)
abbrev zA (γ : zG) : Nat → Prop := fun q => γ.2.1.size ≤ q
def zHW (γ : zG) (M : zM) (H : Heap) : Prop := (γ.2.1.size ≤ H.size ∧ ∀ q : Nat, q < γ.2.1.size → H[q]? = γ.2.1[q]?) ∧ ∀ (a : Nat) (e : va_E), M a = some e → γ.2.1.size ≤ a ∧ va_at γ.1 vwCl (a, e) H
/-- what the tables say, and what lies below our cells -/
def zEV (γ : zG) (U : State) : Prop := va_K γ.1 vwCl (zTys γ) U ∧ vx_Zq Bundle.tN "UNASSIGNED_STACK" Bundle.steD (zA γ) U γ.2.1 ∧ vx_Zq Bundle.tN "SUPPRESSED_SENTINEL" Bundle.listD (zA γ) U γ.2.1 ∧ (∀ (i : Nat) (q : String × Nat × String), zStrs[i]? = some q → vk_R q.1 q.2.1 q.2.2 (γ.2.2.2.1 (i % 26)) U) ∧ vk_S 26 zStrLen zStrByt γ.2.2.2.1 γ.2.2.2.2 (zA γ) U γ.2.1 ∧ zJdk γ U ∧ (∀ q ∈ zNest, va_Nw (.methodLinkNest q.1 q.2.1 q.2.2.1 q.2.2.2) U) ∧ va_AO "TrigramReaders$Reader" U ∧ va_AO "TrigramReaders$Document" U ∧ va_AO "TrigramReaders$State" U ∧ (∀ X ∈ zCast, va_Nw (.castable X X) U) ∧ (∀ X ∈ zDecl, va_Nw (.declares ⟨X, "<init>", "(Ljava/lang/String;)V"⟩) U) ∧ ∀ q ∈ zNot, va_Nc q.1 q.2 U
theorem zEV.warm {γ : zG} {u U : State} (hW : u.WarmedH U.vm) (h : zEV γ u) : zEV γ U :=
  ⟨h.1.moved hW.alike, h.2.1.moved hW.alike, h.2.2.1.moved hW.alike, fun i q hq => (h.2.2.2.1 i q hq).warm hW, h.2.2.2.2.1.moved hW.alike, h.2.2.2.2.2.1.warm hW, fun q hq => (h.2.2.2.2.2.2.1 q hq).warmM hW, va_AO.moved hW.alike h.2.2.2.2.2.2.2.1, va_AO.moved hW.alike h.2.2.2.2.2.2.2.2.1, va_AO.moved hW.alike h.2.2.2.2.2.2.2.2.2.1, fun X hX => (h.2.2.2.2.2.2.2.2.2.2.1 X hX).warmC hW, fun X hX => (h.2.2.2.2.2.2.2.2.2.2.2.1 X hX).warmD hW, fun q hq => (h.2.2.2.2.2.2.2.2.2.2.2.2 q hq).moved hW.alike⟩
theorem zEV.same {γ : zG} {u U : State} (hW : U.vm = u.vm) (h : zEV γ u) : zEV γ U :=
  have ha : u.vm.Alike U.vm := by rw [hW]; exact Vm.Alike.refl _
  ⟨h.1.moved ha, h.2.1.moved ha, h.2.2.1.moved ha, fun i q hq => (h.2.2.2.1 i q hq).same hW, h.2.2.2.2.1.moved ha, h.2.2.2.2.2.1.same hW, fun q hq => va_Nw.same rfl hW.symm (h.2.2.2.2.2.2.1 q hq), va_AO.moved ha h.2.2.2.2.2.2.2.1, va_AO.moved ha h.2.2.2.2.2.2.2.2.1, va_AO.moved ha h.2.2.2.2.2.2.2.2.2.1, fun X hX => va_Nw.same rfl hW.symm (h.2.2.2.2.2.2.2.2.2.2.1 X hX), fun X hX => va_Nw.same rfl hW.symm (h.2.2.2.2.2.2.2.2.2.2.2.1 X hX), fun q hq => (h.2.2.2.2.2.2.2.2.2.2.2.2 q hq).moved ha⟩
theorem zHW.lt {γ : zG} {M : zM} {H : Heap} {a : Nat} {e : va_E} (h : zHW γ M H) (ha : M a = some e) : a < H.size := (h.2 a e ha).2.lt
/-- one cell of ours is written -/
theorem zHW.set {γ : zG} {M : zM} {H H1 : Heap} {a : Nat} {e : va_E} (h : zHW γ M H) (hb : γ.2.1.size ≤ a) (z : H1.size = H.size) (oq : ∀ q : Nat, q ≠ a → H1[q]? = H[q]?) (he : va_at γ.1 vwCl (a, e) H1) : zHW γ (va_up M a (some e)) H1 := by
  refine ⟨⟨by rw [z]; exact h.1.1, fun q hq => ?_⟩, fun b e' hb' => ?_⟩
  · rw [oq q (by omega)]
    exact h.1.2 q hq
  · by_cases hba : b = a
    · subst hba
      rw [va_up_self] at hb'
      cases hb'
      exact ⟨hb, he⟩
    · rw [va_up_ne _ _ hba] at hb'
      obtain ⟨h1, h2⟩ := h.2 b e' hb'
      exact ⟨h1, h2.kept (oq b hba)⟩
/-- a cell is made -/
theorem zHW.push {γ : zG} {M : zM} {H H1 : Heap} {e : va_E} (h : zHW γ M H) (z : H1.size = H.size + 1) (oq : ∀ q : Nat, q < H.size → H1[q]? = H[q]?) (he : va_at γ.1 vwCl (H.size, e) H1) : zHW γ (va_up M H.size (some e)) H1 := by
  refine ⟨⟨by have := h.1.1; omega, fun q hq => ?_⟩, fun b e' hb' => ?_⟩
  · rw [oq q (Nat.lt_of_lt_of_le hq h.1.1)]
    exact h.1.2 q hq
  · by_cases hba : b = H.size
    · subst hba
      rw [va_up_self] at hb'
      cases hb'
      exact ⟨h.1.1, he⟩
    · rw [va_up_ne _ _ hba] at hb'
      obtain ⟨h1, h2⟩ := h.2 b e' hb'
      exact ⟨h1, h2.kept (oq b h2.lt)⟩
theorem zHW.free {γ : zG} {M : zM} {H : Heap} (h : zHW γ M H) : M H.size = none := by
  cases hM : M H.size with
  | none => rfl
  | some e => exact absurd (h.lt hM) (Nat.lt_irrefl _)
/-- a smaller map -/
theorem zHW.sub {γ : zG} {M M' : zM} {H : Heap} (h : zHW γ M H) (hs : ∀ a e, M' a = some e → M a = some e) : zHW γ M' H := ⟨h.1, fun a e he => h.2 a e (hs a e he)⟩
theorem zHW.kept {γ : zG} {M : zM} {H H1 : Heap} (h : zHW γ M H) (hz : H.size ≤ H1.size) (hq : ∀ q : Nat, q < H.size → H1[q]? = H[q]?) : zHW γ M H1 :=
  ⟨⟨Nat.le_trans h.1.1 hz, fun q hq' => by rw [hq q (Nat.lt_of_lt_of_le hq' h.1.1)]; exact h.1.2 q hq'⟩, fun a e he => ⟨(h.2 a e he).1, (h.2 a e he).2.kept (hq a (h.lt he))⟩⟩
/-! locals -/
def zPr : Nat → zL → List (Nat × Value)
  | _, [] => []
  | i, none :: r => zPr (i + 1) r
  | i, some v :: r => (i, v) :: zPr (i + 1) r
def zg : zL → Nat → Option Value
  | [], _ => none
  | x :: _, 0 => x
  | _ :: r, i + 1 => zg r i
def zcl : Option Value → Option Value
  | some (.long _) => none
  | some (.double _) => none
  | x => x
def zs1 : zL → Nat → Value → zL
  | [], _, _ => []
  | _ :: r, 0, v => some v :: r
  | x :: r, 1, v => zcl x :: zs1 r 0 v
  | x :: r, i + 2, v => x :: zs1 r (i + 1) v
def zn0 : zL → zL
  | [] => []
  | _ :: r => none :: r
def zs2 : zL → Nat → Value → zL
  | [], _, _ => []
  | _ :: r, 0, v => some v :: zn0 r
  | x :: r, 1, v => zcl x :: zs2 r 0 v
  | x :: r, i + 2, v => x :: zs2 r (i + 1) v
theorem zPr_mem : ∀ (L : zL) (j i : Nat) (v : Value), (i, v) ∈ zPr j L ↔ ∃ k, i = j + k ∧ zg L k = some v
  | [], j, i, v => by simp [zPr, zg]
  | none :: r, j, i, v => by
    rw [zPr, zPr_mem r (j + 1) i v]
    constructor
    · rintro ⟨k, h1, h2⟩
      exact ⟨k + 1, by omega, h2⟩
    · rintro ⟨k, h1, h2⟩
      cases k with
      | zero => simp [zg] at h2
      | succ k => exact ⟨k, by omega, h2⟩
  | some x :: r, j, i, v => by
    rw [zPr, List.mem_cons, zPr_mem r (j + 1) i v]
    constructor
    · rintro (h | ⟨k, h1, h2⟩)
      · cases h
        exact ⟨0, rfl, rfl⟩
      · exact ⟨k + 1, by omega, h2⟩
    · rintro ⟨k, h1, h2⟩
      cases k with
      | zero => simp only [zg, Option.some.injEq] at h2; subst h2; exact Or.inl (by simp [h1])
      | succ k => exact Or.inr ⟨k, by omega, h2⟩
def zLH (ls : Array Slot) (nL : Nat) (L : zL) : Prop := lv_has ls nL (zPr 0 L)
theorem zLH.at {ls : Array Slot} {nL : Nat} {L : zL} (h : zLH ls nL L) {i : Nat} {v : Value} (hg : zg L i = some v) : ls[i]? = some (.val v) := h.2.2 (i, v) ((zPr_mem L 0 i v).mpr ⟨i, by omega, hg⟩)
theorem zcl_some {x : Option Value} {v : Value} (h : zcl x = some v) : x = some v ∧ ¬ v.category = 2 := by
  cases x with
  | none => cases h
  | some w => cases w <;> simp [zcl] at h <;> subst h <;> exact ⟨rfl, by simp [Value.category]⟩
theorem zs1_get : ∀ (L : zL) (i j : Nat) (v w : Value), zg (zs1 L i v) j = some w → (j = i ∧ w = v) ∨ (j ≠ i ∧ zg L j = some w ∧ ¬ (j + 1 = i ∧ w.category = 2))
  | [], i, j, v, w, h => by simp [zs1, zg] at h
  | x :: r, 0, j, v, w, h => by
    cases j with
    | zero => simp only [zs1, zg, Option.some.injEq] at h; exact Or.inl ⟨rfl, h.symm⟩
    | succ j => exact Or.inr ⟨by omega, h, by omega⟩
  | x :: r, 1, j, v, w, h => by
    cases j with
    | zero =>
      obtain ⟨h1, h2⟩ := zcl_some (x := x) h
      exact Or.inr ⟨by omega, h1, fun q => h2 q.2⟩
    | succ j =>
      rcases zs1_get r 0 j v w h with ⟨a, b⟩ | ⟨a, b, c⟩
      · exact Or.inl ⟨by omega, b⟩
      · exact Or.inr ⟨by omega, b, by omega⟩
  | x :: r, i + 2, j, v, w, h => by
    cases j with
    | zero => exact Or.inr ⟨by omega, h, by omega⟩
    | succ j =>
      rcases zs1_get r (i + 1) j v w h with ⟨a, b⟩ | ⟨a, b, c⟩
      · exact Or.inl ⟨by omega, b⟩
      · exact Or.inr ⟨by omega, b, fun q => c ⟨by omega, q.2⟩⟩
theorem zs2_get : ∀ (L : zL) (i j : Nat) (v w : Value), zg (zs2 L i v) j = some w → (j = i ∧ w = v) ∨ (j ≠ i ∧ j ≠ i + 1 ∧ zg L j = some w ∧ ¬ (j + 1 = i ∧ w.category = 2))
  | [], i, j, v, w, h => by simp [zs2, zg] at h
  | x :: r, 0, j, v, w, h => by
    cases j with
    | zero => simp only [zs2, zg, Option.some.injEq] at h; exact Or.inl ⟨rfl, h.symm⟩
    | succ j =>
      cases r with
      | nil => simp [zs2, zn0, zg] at h
      | cons y r =>
        cases j with
        | zero => simp [zs2, zn0, zg] at h
        | succ j => exact Or.inr ⟨by omega, by omega, h, by omega⟩
  | x :: r, 1, j, v, w, h => by
    cases j with
    | zero =>
      obtain ⟨h1, h2⟩ := zcl_some (x := x) h
      exact Or.inr ⟨by omega, by omega, h1, fun q => h2 q.2⟩
    | succ j =>
      rcases zs2_get r 0 j v w h with ⟨a, b⟩ | ⟨a, a2, b, c⟩
      · exact Or.inl ⟨by omega, b⟩
      · exact Or.inr ⟨by omega, by omega, b, by omega⟩
  | x :: r, i + 2, j, v, w, h => by
    cases j with
    | zero => exact Or.inr ⟨by omega, by omega, h, by omega⟩
    | succ j =>
      rcases zs2_get r (i + 1) j v w h with ⟨a, b⟩ | ⟨a, a2, b, c⟩
      · exact Or.inl ⟨by omega, b⟩
      · exact Or.inr ⟨by omega, by omega, b, fun q => c ⟨by omega, q.2⟩⟩
theorem zLH.of1 {ls' : Array Slot} {nL i : Nat} {L : zL} {v : Value} (h : lv_has ls' nL ((i, v) :: (zPr 0 L).filter (fun q => !(q.1 == i) && !(q.1 + 1 == i && q.2.category == 2)))) : zLH ls' nL (zs1 L i v) := by
  refine ⟨h.1, h.2.1, fun q hq => ?_⟩
  obtain ⟨k, h1, h2⟩ := (zPr_mem _ _ _ _).mp (show (q.1, q.2) ∈ _ from hq)
  rcases zs1_get _ _ _ _ _ h2 with ⟨a, b⟩ | ⟨a, b, c⟩
  · refine h.2.2 q (List.mem_cons.mpr (Or.inl ?_))
    rw [← b, show i = q.1 by omega]
  · refine h.2.2 q (List.mem_cons.mpr (Or.inr (List.mem_filter.mpr ⟨(zPr_mem L 0 q.1 q.2).mpr ⟨k, h1, b⟩, ?_⟩)))
    have e : q.1 = k := by omega
    simp only [Bool.and_eq_true, Bool.not_eq_true', beq_eq_false_iff_ne, Bool.and_eq_false_iff, ne_eq]
    refine ⟨by omega, ?_⟩
    by_cases hc : q.1 + 1 = i
    · exact Or.inr fun z => c ⟨by omega, z⟩
    · exact Or.inl hc
theorem zLH.of2 {ls' : Array Slot} {nL i : Nat} {L : zL} {v : Value} (h : lv_has ls' nL ((i, v) :: (zPr 0 L).filter (fun q => !(q.1 == i) && (!(q.1 == i + 1) && !(q.1 + 1 == i && q.2.category == 2))))) : zLH ls' nL (zs2 L i v) := by
  refine ⟨h.1, h.2.1, fun q hq => ?_⟩
  obtain ⟨k, h1, h2⟩ := (zPr_mem _ _ _ _).mp (show (q.1, q.2) ∈ _ from hq)
  rcases zs2_get _ _ _ _ _ h2 with ⟨a, b⟩ | ⟨a, a2, b, c⟩
  · refine h.2.2 q (List.mem_cons.mpr (Or.inl ?_))
    rw [← b, show i = q.1 by omega]
  · refine h.2.2 q (List.mem_cons.mpr (Or.inr (List.mem_filter.mpr ⟨(zPr_mem L 0 q.1 q.2).mpr ⟨k, h1, b⟩, ?_⟩)))
    have e : q.1 = k := by omega
    simp only [Bool.and_eq_true, Bool.not_eq_true', beq_eq_false_iff_ne, Bool.and_eq_false_iff, ne_eq]
    refine ⟨by omega, by omega, ?_⟩
    by_cases hc : q.1 + 1 = i
    · exact Or.inr fun z => c ⟨by omega, z⟩
    · exact Or.inl hc
/-! the walk -/
def zLo (γ : zG) (locs : List Loc) : Prop := ∀ q ∈ locs, γ.2.1.size ≤ q.base
def zC (p : Program) (l : Launch) (s : State) (m : MethodId) (args : Array Value) (meth : Method) (c : Code) (γ : zG) (cc : ByteArray) (nL : Nat) (ret : Option FieldType) (own : String) (xt : List ExceptionTableEntry) : Prop :=
  p.tables.exec = Jvm.exec ∧ c.code = cc ∧ c.maxLocals = nL ∧ meth.sig.returnType = ret ∧ meth.locks = false ∧ s.vm.findClass own = some m.cls ∧ (∀ w ∈ LW, w.before args s = true) ∧ zEV γ s ∧ l.stackTraces = false ∧ c.exceptionTable.toList = xt ∧ (γ.2.1.size ≤ s.heap.size ∧ ∀ q : Nat, q < γ.2.1.size → s.heap[q]? = γ.2.1[q]?) ∧ (∃ y : MethodName, s.methodNamed? y = some m ∧ meth.name = y.name)
def zAW (p : Program) (l : Launch) (e : Env) (R : Room) (s : State) (m : MethodId) (args : Array Value) (below : List Frame) (meth : Method) (c : Code) (γ : zG) (nL : Nat) (Q : State → Prop) (M : zM) (k n pc : Nat) (L : zL) (st : List Value) : Prop :=
  ∀ (H : Heap) (locs : List Loc) (ls : Array Slot), zHW γ M H → zLo γ locs → zLH ls nL L → s.heap.size ≤ H.size → W p l e R s m args below meth c H locs k n Q (F0 m pc ls st)

section ZR
variable {p : Program} {l : Launch} {e : Env} {R : Room} {s : State} {m : MethodId} {args : Array Value} {below : List Frame} {meth : Method} {c : Code} {γ : zG} {cc : ByteArray} {nL : Nat} {ret : Option FieldType} {own : String} {xt : List ExceptionTableEntry} {Q : State → Prop} {M : zM} {k n pc : Nat} {L : zL} {st : List Value}
theorem zC.ex (C : zC p l s m args meth c γ cc nL ret own xt) : p.tables.exec = Jvm.exec := C.1
theorem zC.by (C : zC p l s m args meth c γ cc nL ret own xt) : c.code = cc := C.2.1
theorem zC.ml (C : zC p l s m args meth c γ cc nL ret own xt) : c.maxLocals = nL := C.2.2.1
theorem zC.rt (C : zC p l s m args meth c γ cc nL ret own xt) : meth.sig.returnType = ret := C.2.2.2.1
theorem zC.lk (C : zC p l s m args meth c γ cc nL ret own xt) : meth.locks = false := C.2.2.2.2.1
theorem zC.ow (C : zC p l s m args meth c γ cc nL ret own xt) : s.vm.findClass own = some m.cls := C.2.2.2.2.2.1
theorem zC.ws (C : zC p l s m args meth c γ cc nL ret own xt) : ∀ w ∈ LW, w.before args s = true := C.2.2.2.2.2.2.1
theorem zC.ev (C : zC p l s m args meth c γ cc nL ret own xt) : zEV γ s := C.2.2.2.2.2.2.2.1
theorem zC.tr (C : zC p l s m args meth c γ cc nL ret own xt) : l.stackTraces = false := C.2.2.2.2.2.2.2.2.1
theorem zC.xtb (C : zC p l s m args meth c γ cc nL ret own xt) : c.exceptionTable.toList = xt := C.2.2.2.2.2.2.2.2.2.1
theorem zC.hb (C : zC p l s m args meth c γ cc nL ret own xt) : γ.2.1.size ≤ s.heap.size ∧ ∀ q : Nat, q < γ.2.1.size → s.heap[q]? = γ.2.1[q]? := C.2.2.2.2.2.2.2.2.2.2.1
theorem zC.nm (C : zC p l s m args meth c γ cc nL ret own xt) : ∃ y : MethodName, s.methodNamed? y = some m ∧ meth.name = y.name := C.2.2.2.2.2.2.2.2.2.2.2
theorem zC.K (C : zC p l s m args meth c γ cc nL ret own xt) : va_K γ.1 vwCl (zTys γ) s := C.ev.1
abbrev zi (x : Int) : Int32 := Int32.ofInt x
abbrev zl (x : Int) : Int64 := Int64.ofInt x
theorem z_iconst (C : zC p l s m args meth c γ cc nL ret own xt) {v : Int} (hd : decode cc pc = .ok (.iconst v, 1)) 
    (kk : zAW p l e R s m args below meth c γ nL Q M k n (pc + 1) L (.int (zi v) :: st)) : zAW p l e R s m args below meth c γ nL Q M k n pc L st := by
  intro H locs ls hH hl hL hz
  exact lv_iconst C.ex C.by hd rfl (kk H locs ls hH hl hL hz)
theorem z_bipush (C : zC p l s m args meth c γ cc nL ret own xt) {v : Int} (hd : decode cc pc = .ok (.bipush v, 2)) (hv : (Int8.ofInt v).toInt32 = zi v) 
    (kk : zAW p l e R s m args below meth c γ nL Q M k n (pc + 2) L (.int (zi v) :: st)) : zAW p l e R s m args below meth c γ nL Q M k n pc L st := by
  intro H locs ls hH hl hL hz
  exact lv_bipush C.ex C.by hd hv (kk H locs ls hH hl hL hz)
theorem z_sipush (C : zC p l s m args meth c γ cc nL ret own xt) {v : Int} (hd : decode cc pc = .ok (.sipush v, 3)) (hv : (Int16.ofInt v).toInt32 = zi v) 
    (kk : zAW p l e R s m args below meth c γ nL Q M k n (pc + 3) L (.int (zi v) :: st)) : zAW p l e R s m args below meth c γ nL Q M k n pc L st := by
  intro H locs ls hH hl hL hz
  exact lv_sipush C.ex C.by hd hv (kk H locs ls hH hl hL hz)
theorem z_lconst (C : zC p l s m args meth c γ cc nL ret own xt) {v : Fin 2} (hd : decode cc pc = .ok (.lconst v, 1)) (hv : Int64.ofNat (v : Nat) = zl (v : Nat)) 
    (kk : zAW p l e R s m args below meth c γ nL Q M k n (pc + 1) L (.long (zl (v : Nat)) :: st)) : zAW p l e R s m args below meth c γ nL Q M k n pc L st := by
  intro H locs ls hH hl hL hz
  exact lv_lconst C.ex C.by hd hv (kk H locs ls hH hl hL hz)
theorem z_null (C : zC p l s m args meth c γ cc nL ret own xt) (hd : decode cc pc = .ok (.aconst_null, 1)) 
    (kk : zAW p l e R s m args below meth c γ nL Q M k n (pc + 1) L (.null :: st)) : zAW p l e R s m args below meth c γ nL Q M k n pc L st := by
  intro H locs ls hH hl hL hz
  exact lv_null C.ex C.by hd (kk H locs ls hH hl hL hz)
theorem z_iload_n (C : zC p l s m args meth c γ cc nL ret own xt) {i : Fin 4} {x : Int32} (hd : decode cc pc = .ok (.iload_n i, 1)) (hg : zg L (i : Nat) = some (.int x)) 
    (kk : zAW p l e R s m args below meth c γ nL Q M k n (pc + 1) L (.int x :: st)) : zAW p l e R s m args below meth c γ nL Q M k n pc L st := by
  intro H locs ls hH hl hL hz
  exact lv_iload_n C.ex C.by hd rfl (hL.at hg) (kk H locs ls hH hl hL hz)
theorem z_iload (C : zC p l s m args meth c γ cc nL ret own xt) {i : Nat} {x : Int32} (hd : decode cc pc = .ok (.iload i, 2)) (hg : zg L i = some (.int x)) 
    (kk : zAW p l e R s m args below meth c γ nL Q M k n (pc + 2) L (.int x :: st)) : zAW p l e R s m args below meth c γ nL Q M k n pc L st := by
  intro H locs ls hH hl hL hz
  exact lv_iload C.ex C.by hd (hL.at hg) (kk H locs ls hH hl hL hz)
theorem z_istore_n (C : zC p l s m args meth c γ cc nL ret own xt) {i : Fin 4} {x : Int32} (hd : decode cc pc = .ok (.istore_n i, 1)) (hn : (i : Nat) < nL) 
    (kk : zAW p l e R s m args below meth c γ nL Q M k n (pc + 1) (zs1 L (i : Nat) (.int x)) st) : zAW p l e R s m args below meth c γ nL Q M k n pc L (.int x :: st) := by
  intro H locs ls hH hl hL hz
  exact lv_istore_n C.ex C.by hd rfl hL hn rfl (fun ls1 h1 => kk H locs ls1 hH hl (zLH.of1 h1) hz)
theorem z_istore (C : zC p l s m args meth c γ cc nL ret own xt) {i : Nat} {x : Int32} (hd : decode cc pc = .ok (.istore i, 2)) (hn : i < nL) 
    (kk : zAW p l e R s m args below meth c γ nL Q M k n (pc + 2) (zs1 L i (.int x)) st) : zAW p l e R s m args below meth c γ nL Q M k n pc L (.int x :: st) := by
  intro H locs ls hH hl hL hz
  exact lv_istore C.ex C.by hd hL hn rfl (fun ls1 h1 => kk H locs ls1 hH hl (zLH.of1 h1) hz)
theorem z_lload_n (C : zC p l s m args meth c γ cc nL ret own xt) {i : Fin 4} {x : Int64} (hd : decode cc pc = .ok (.lload_n i, 1)) (hg : zg L (i : Nat) = some (.long x)) 
    (kk : zAW p l e R s m args below meth c γ nL Q M k n (pc + 1) L (.long x :: st)) : zAW p l e R s m args below meth c γ nL Q M k n pc L st := by
  intro H locs ls hH hl hL hz
  exact lv_lload_n C.ex C.by hd rfl (hL.at hg) (kk H locs ls hH hl hL hz)
theorem z_lload (C : zC p l s m args meth c γ cc nL ret own xt) {i : Nat} {x : Int64} (hd : decode cc pc = .ok (.lload i, 2)) (hg : zg L i = some (.long x)) 
    (kk : zAW p l e R s m args below meth c γ nL Q M k n (pc + 2) L (.long x :: st)) : zAW p l e R s m args below meth c γ nL Q M k n pc L st := by
  intro H locs ls hH hl hL hz
  exact lv_lload C.ex C.by hd (hL.at hg) (kk H locs ls hH hl hL hz)
theorem z_lstore_n (C : zC p l s m args meth c γ cc nL ret own xt) {i : Fin 4} {x : Int64} (hd : decode cc pc = .ok (.lstore_n i, 1)) (hn : (i : Nat) + 1 < nL) 
    (kk : zAW p l e R s m args below meth c γ nL Q M k n (pc + 1) (zs2 L (i : Nat) (.long x)) st) : zAW p l e R s m args below meth c γ nL Q M k n pc L (.long x :: st) := by
  intro H locs ls hH hl hL hz
  exact lv_lstore_n C.ex C.by hd rfl hL hn rfl (fun ls1 h1 => kk H locs ls1 hH hl (zLH.of2 h1) hz)
theorem z_lstore (C : zC p l s m args meth c γ cc nL ret own xt) {i : Nat} {x : Int64} (hd : decode cc pc = .ok (.lstore i, 2)) (hn : i + 1 < nL) 
    (kk : zAW p l e R s m args below meth c γ nL Q M k n (pc + 2) (zs2 L i (.long x)) st) : zAW p l e R s m args below meth c γ nL Q M k n pc L (.long x :: st) := by
  intro H locs ls hH hl hL hz
  exact lv_lstore C.ex C.by hd hL hn rfl (fun ls1 h1 => kk H locs ls1 hH hl (zLH.of2 h1) hz)
theorem z_aload_n (C : zC p l s m args meth c γ cc nL ret own xt) {i : Fin 4} {x : Nat} (hd : decode cc pc = .ok (.aload_n i, 1)) (hg : zg L (i : Nat) = some (.ref x)) 
    (kk : zAW p l e R s m args below meth c γ nL Q M k n (pc + 1) L (.ref x :: st)) : zAW p l e R s m args below meth c γ nL Q M k n pc L st := by
  intro H locs ls hH hl hL hz
  exact lv_aload_n C.ex C.by hd rfl (hL.at hg) (kk H locs ls hH hl hL hz)
theorem z_aload (C : zC p l s m args meth c γ cc nL ret own xt) {i : Nat} {x : Nat} (hd : decode cc pc = .ok (.aload i, 2)) (hg : zg L i = some (.ref x)) 
    (kk : zAW p l e R s m args below meth c γ nL Q M k n (pc + 2) L (.ref x :: st)) : zAW p l e R s m args below meth c γ nL Q M k n pc L st := by
  intro H locs ls hH hl hL hz
  exact lv_aload C.ex C.by hd (hL.at hg) (kk H locs ls hH hl hL hz)
theorem z_astore_n (C : zC p l s m args meth c γ cc nL ret own xt) {i : Fin 4} {x : Nat} (hd : decode cc pc = .ok (.astore_n i, 1)) (hn : (i : Nat) < nL) 
    (kk : zAW p l e R s m args below meth c γ nL Q M k n (pc + 1) (zs1 L (i : Nat) (.ref x)) st) : zAW p l e R s m args below meth c γ nL Q M k n pc L (.ref x :: st) := by
  intro H locs ls hH hl hL hz
  exact lv_astore_n C.ex C.by hd rfl hL hn rfl (fun ls1 h1 => kk H locs ls1 hH hl (zLH.of1 h1) hz)
theorem z_astore (C : zC p l s m args meth c γ cc nL ret own xt) {i : Nat} {x : Nat} (hd : decode cc pc = .ok (.astore i, 2)) (hn : i < nL) 
    (kk : zAW p l e R s m args below meth c γ nL Q M k n (pc + 2) (zs1 L i (.ref x)) st) : zAW p l e R s m args below meth c γ nL Q M k n pc L (.ref x :: st) := by
  intro H locs ls hH hl hL hz
  exact lv_astore C.ex C.by hd hL hn rfl (fun ls1 h1 => kk H locs ls1 hH hl (zLH.of1 h1) hz)
theorem z_dload_n (C : zC p l s m args meth c γ cc nL ret own xt) {i : Fin 4} {x : UInt64} (hd : decode cc pc = .ok (.dload_n i, 1)) (hg : zg L (i : Nat) = some (.double x)) 
    (kk : zAW p l e R s m args below meth c γ nL Q M k n (pc + 1) L (.double x :: st)) : zAW p l e R s m args below meth c γ nL Q M k n pc L st := by
  intro H locs ls hH hl hL hz
  exact lv_dload_n C.ex C.by hd rfl (hL.at hg) (kk H locs ls hH hl hL hz)
theorem z_dload (C : zC p l s m args meth c γ cc nL ret own xt) {i : Nat} {x : UInt64} (hd : decode cc pc = .ok (.dload i, 2)) (hg : zg L i = some (.double x)) 
    (kk : zAW p l e R s m args below meth c γ nL Q M k n (pc + 2) L (.double x :: st)) : zAW p l e R s m args below meth c γ nL Q M k n pc L st := by
  intro H locs ls hH hl hL hz
  exact lv_dload C.ex C.by hd (hL.at hg) (kk H locs ls hH hl hL hz)
theorem z_dstore_n (C : zC p l s m args meth c γ cc nL ret own xt) {i : Fin 4} {x : UInt64} (hd : decode cc pc = .ok (.dstore_n i, 1)) (hn : (i : Nat) + 1 < nL) 
    (kk : zAW p l e R s m args below meth c γ nL Q M k n (pc + 1) (zs2 L (i : Nat) (.double x)) st) : zAW p l e R s m args below meth c γ nL Q M k n pc L (.double x :: st) := by
  intro H locs ls hH hl hL hz
  exact lv_dstore_n C.ex C.by hd rfl hL hn rfl (fun ls1 h1 => kk H locs ls1 hH hl (zLH.of2 h1) hz)
theorem z_dstore (C : zC p l s m args meth c γ cc nL ret own xt) {i : Nat} {x : UInt64} (hd : decode cc pc = .ok (.dstore i, 2)) (hn : i + 1 < nL) 
    (kk : zAW p l e R s m args below meth c γ nL Q M k n (pc + 2) (zs2 L i (.double x)) st) : zAW p l e R s m args below meth c γ nL Q M k n pc L (.double x :: st) := by
  intro H locs ls hH hl hL hz
  exact lv_dstore C.ex C.by hd hL hn rfl (fun ls1 h1 => kk H locs ls1 hH hl (zLH.of2 h1) hz)
theorem z_fload_n (C : zC p l s m args meth c γ cc nL ret own xt) {i : Fin 4} {x : UInt32} (hd : decode cc pc = .ok (.fload_n i, 1)) (hg : zg L (i : Nat) = some (.float x)) 
    (kk : zAW p l e R s m args below meth c γ nL Q M k n (pc + 1) L (.float x :: st)) : zAW p l e R s m args below meth c γ nL Q M k n pc L st := by
  intro H locs ls hH hl hL hz
  exact lv_fload_n C.ex C.by hd rfl (hL.at hg) (kk H locs ls hH hl hL hz)
theorem z_fload (C : zC p l s m args meth c γ cc nL ret own xt) {i : Nat} {x : UInt32} (hd : decode cc pc = .ok (.fload i, 2)) (hg : zg L i = some (.float x)) 
    (kk : zAW p l e R s m args below meth c γ nL Q M k n (pc + 2) L (.float x :: st)) : zAW p l e R s m args below meth c γ nL Q M k n pc L st := by
  intro H locs ls hH hl hL hz
  exact lv_fload C.ex C.by hd (hL.at hg) (kk H locs ls hH hl hL hz)
theorem z_fstore_n (C : zC p l s m args meth c γ cc nL ret own xt) {i : Fin 4} {x : UInt32} (hd : decode cc pc = .ok (.fstore_n i, 1)) (hn : (i : Nat) < nL) 
    (kk : zAW p l e R s m args below meth c γ nL Q M k n (pc + 1) (zs1 L (i : Nat) (.float x)) st) : zAW p l e R s m args below meth c γ nL Q M k n pc L (.float x :: st) := by
  intro H locs ls hH hl hL hz
  exact lv_fstore_n C.ex C.by hd rfl hL hn rfl (fun ls1 h1 => kk H locs ls1 hH hl (zLH.of1 h1) hz)
theorem z_fstore (C : zC p l s m args meth c γ cc nL ret own xt) {i : Nat} {x : UInt32} (hd : decode cc pc = .ok (.fstore i, 2)) (hn : i < nL) 
    (kk : zAW p l e R s m args below meth c γ nL Q M k n (pc + 2) (zs1 L i (.float x)) st) : zAW p l e R s m args below meth c γ nL Q M k n pc L (.float x :: st) := by
  intro H locs ls hH hl hL hz
  exact lv_fstore C.ex C.by hd hL hn rfl (fun ls1 h1 => kk H locs ls1 hH hl (zLH.of1 h1) hz)
theorem zPr_at {L : zL} {i : Nat} {v : Value} (h : zg L i = some v) : ∃ j : Nat, (zPr 0 L)[j]? = some (i, v) := List.getElem?_of_mem ((zPr_mem L 0 i v).mpr ⟨i, by omega, h⟩)
theorem z_iinc (C : zC p l s m args meth c γ cc nL ret own xt) {i : Nat} {v : Int} {x : Int32} (hd : decode cc pc = .ok (.iinc i v, 3)) (hg : zg L i = some (.int x)) (hn : i < nL) 
    (kk : zAW p l e R s m args below meth c γ nL Q M k n (pc + 3) (zs1 L i (.int (x + zi v))) st) : zAW p l e R s m args below meth c γ nL Q M k n pc L st := by
  intro H locs ls hH hl hL hz
  obtain ⟨j, hj⟩ := zPr_at hg
  exact lv_iinc C.ex C.by hd hL hj rfl hn rfl (fun ls1 h1 => kk H locs ls1 hH hl (zLH.of1 h1) hz)
theorem z_iadd (C : zC p l s m args meth c γ cc nL ret own xt) {x y : Int32} (hd : decode cc pc = .ok (.iadd, 1)) 
    (kk : zAW p l e R s m args below meth c γ nL Q M k n (pc + 1) L (.int (x + y) :: st)) : zAW p l e R s m args below meth c γ nL Q M k n pc L (.int y :: .int x :: st) := by
  intro H locs ls hH hl hL hz
  exact lv_iadd C.ex C.by hd (kk H locs ls hH hl hL hz)
theorem z_isub (C : zC p l s m args meth c γ cc nL ret own xt) {x y : Int32} (hd : decode cc pc = .ok (.isub, 1)) 
    (kk : zAW p l e R s m args below meth c γ nL Q M k n (pc + 1) L (.int (x - y) :: st)) : zAW p l e R s m args below meth c γ nL Q M k n pc L (.int y :: .int x :: st) := by
  intro H locs ls hH hl hL hz
  exact lv_isub C.ex C.by hd (kk H locs ls hH hl hL hz)
theorem z_imul (C : zC p l s m args meth c γ cc nL ret own xt) {x y : Int32} (hd : decode cc pc = .ok (.imul, 1)) 
    (kk : zAW p l e R s m args below meth c γ nL Q M k n (pc + 1) L (.int (x * y) :: st)) : zAW p l e R s m args below meth c γ nL Q M k n pc L (.int y :: .int x :: st) := by
  intro H locs ls hH hl hL hz
  exact lv_imul C.ex C.by hd (kk H locs ls hH hl hL hz)
theorem z_iand (C : zC p l s m args meth c γ cc nL ret own xt) {x y : Int32} (hd : decode cc pc = .ok (.iand, 1)) 
    (kk : zAW p l e R s m args below meth c γ nL Q M k n (pc + 1) L (.int (x &&& y) :: st)) : zAW p l e R s m args below meth c γ nL Q M k n pc L (.int y :: .int x :: st) := by
  intro H locs ls hH hl hL hz
  exact lv_iand C.ex C.by hd (kk H locs ls hH hl hL hz)
theorem z_ior (C : zC p l s m args meth c γ cc nL ret own xt) {x y : Int32} (hd : decode cc pc = .ok (.ior, 1)) 
    (kk : zAW p l e R s m args below meth c γ nL Q M k n (pc + 1) L (.int (x ||| y) :: st)) : zAW p l e R s m args below meth c γ nL Q M k n pc L (.int y :: .int x :: st) := by
  intro H locs ls hH hl hL hz
  exact lv_ior C.ex C.by hd (kk H locs ls hH hl hL hz)
theorem z_ishl (C : zC p l s m args meth c γ cc nL ret own xt) {x y : Int32} (hd : decode cc pc = .ok (.ishl, 1)) 
    (kk : zAW p l e R s m args below meth c γ nL Q M k n (pc + 1) L (.int (x <<< (y &&& 31)) :: st)) : zAW p l e R s m args below meth c γ nL Q M k n pc L (.int y :: .int x :: st) := by
  intro H locs ls hH hl hL hz
  exact lv_ishl C.ex C.by hd (kk H locs ls hH hl hL hz)
theorem z_ishr (C : zC p l s m args meth c γ cc nL ret own xt) {x y : Int32} (hd : decode cc pc = .ok (.ishr, 1)) 
    (kk : zAW p l e R s m args below meth c γ nL Q M k n (pc + 1) L (.int (x >>> (y &&& 31)) :: st)) : zAW p l e R s m args below meth c γ nL Q M k n pc L (.int y :: .int x :: st) := by
  intro H locs ls hH hl hL hz
  exact lv_ishr C.ex C.by hd (kk H locs ls hH hl hL hz)
theorem z_iushr (C : zC p l s m args meth c γ cc nL ret own xt) {x y : Int32} (hd : decode cc pc = .ok (.iushr, 1)) 
    (kk : zAW p l e R s m args below meth c γ nL Q M k n (pc + 1) L (.int ((x.toUInt32 >>> (y.toUInt32 &&& Int32.toUInt32 31)).toInt32) :: st)) : zAW p l e R s m args below meth c γ nL Q M k n pc L (.int y :: .int x :: st) := by
  intro H locs ls hH hl hL hz
  exact lv_iushr C.ex C.by hd rfl (kk H locs ls hH hl hL hz)
theorem z_idiv (C : zC p l s m args meth c γ cc nL ret own xt) {x y : Int32} (hd : decode cc pc = .ok (.idiv, 1)) (hne : ¬ y = 0) 
    (kk : zAW p l e R s m args below meth c γ nL Q M k n (pc + 1) L (.int (x / y) :: st)) : zAW p l e R s m args below meth c γ nL Q M k n pc L (.int y :: .int x :: st) := by
  intro H locs ls hH hl hL hz
  exact lv_idiv C.ex C.by hd hne (kk H locs ls hH hl hL hz)
theorem z_irem (C : zC p l s m args meth c γ cc nL ret own xt) {x y : Int32} (hd : decode cc pc = .ok (.irem, 1)) (hne : ¬ y = 0) 
    (kk : zAW p l e R s m args below meth c γ nL Q M k n (pc + 1) L (.int (x - x / y * y) :: st)) : zAW p l e R s m args below meth c γ nL Q M k n pc L (.int y :: .int x :: st) := by
  intro H locs ls hH hl hL hz
  exact lv_irem C.ex C.by hd hne (kk H locs ls hH hl hL hz)
theorem z_ladd (C : zC p l s m args meth c γ cc nL ret own xt) {x y : Int64} (hd : decode cc pc = .ok (.ladd, 1)) 
    (kk : zAW p l e R s m args below meth c γ nL Q M k n (pc + 1) L (.long (x + y) :: st)) : zAW p l e R s m args below meth c γ nL Q M k n pc L (.long y :: .long x :: st) := by
  intro H locs ls hH hl hL hz
  exact lv_ladd C.ex C.by hd (kk H locs ls hH hl hL hz)
theorem z_lsub (C : zC p l s m args meth c γ cc nL ret own xt) {x y : Int64} (hd : decode cc pc = .ok (.lsub, 1)) 
    (kk : zAW p l e R s m args below meth c γ nL Q M k n (pc + 1) L (.long (x - y) :: st)) : zAW p l e R s m args below meth c γ nL Q M k n pc L (.long y :: .long x :: st) := by
  intro H locs ls hH hl hL hz
  exact lv_lsub C.ex C.by hd (kk H locs ls hH hl hL hz)
theorem z_lmul (C : zC p l s m args meth c γ cc nL ret own xt) {x y : Int64} (hd : decode cc pc = .ok (.lmul, 1)) 
    (kk : zAW p l e R s m args below meth c γ nL Q M k n (pc + 1) L (.long (x * y) :: st)) : zAW p l e R s m args below meth c γ nL Q M k n pc L (.long y :: .long x :: st) := by
  intro H locs ls hH hl hL hz
  exact lv_lmul C.ex C.by hd (kk H locs ls hH hl hL hz)
theorem z_ldiv (C : zC p l s m args meth c γ cc nL ret own xt) {x y : Int64} (hd : decode cc pc = .ok (.ldiv, 1)) (hne : ¬ y = 0) 
    (kk : zAW p l e R s m args below meth c γ nL Q M k n (pc + 1) L (.long (x / y) :: st)) : zAW p l e R s m args below meth c γ nL Q M k n pc L (.long y :: .long x :: st) := by
  intro H locs ls hH hl hL hz
  exact lv_ldiv C.ex C.by hd hne (kk H locs ls hH hl hL hz)
theorem z_lrem (C : zC p l s m args meth c γ cc nL ret own xt) {x y : Int64} (hd : decode cc pc = .ok (.lrem, 1)) (hne : ¬ y = 0) 
    (kk : zAW p l e R s m args below meth c γ nL Q M k n (pc + 1) L (.long (x - x / y * y) :: st)) : zAW p l e R s m args below meth c γ nL Q M k n pc L (.long y :: .long x :: st) := by
  intro H locs ls hH hl hL hz
  exact lv_lrem C.ex C.by hd hne (kk H locs ls hH hl hL hz)
theorem z_lcmp (C : zC p l s m args meth c γ cc nL ret own xt) {x y : Int64} (hd : decode cc pc = .ok (.lcmp, 1)) 
    (kk : zAW p l e R s m args below meth c γ nL Q M k n (pc + 1) L (.int (lg_cmp x y) :: st)) : zAW p l e R s m args below meth c γ nL Q M k n pc L (.long y :: .long x :: st) := by
  intro H locs ls hH hl hL hz
  exact W.lcmp C.ex C.by hd (kk H locs ls hH hl hL hz)
theorem z_i2l (C : zC p l s m args meth c γ cc nL ret own xt) {x : Int32} (hd : decode cc pc = .ok (.i2l, 1)) 
    (kk : zAW p l e R s m args below meth c γ nL Q M k n (pc + 1) L (.long x.toInt64 :: st)) : zAW p l e R s m args below meth c γ nL Q M k n pc L (.int x :: st) := by
  intro H locs ls hH hl hL hz
  exact lv_i2l C.ex C.by hd rfl (kk H locs ls hH hl hL hz)
theorem z_i2b (C : zC p l s m args meth c γ cc nL ret own xt) {x : Int32} (hd : decode cc pc = .ok (.i2b, 1)) 
    (kk : zAW p l e R s m args below meth c γ nL Q M k n (pc + 1) L (.int x.toInt8.toInt32 :: st)) : zAW p l e R s m args below meth c γ nL Q M k n pc L (.int x :: st) := by
  intro H locs ls hH hl hL hz
  exact lv_i2b C.ex C.by hd rfl (kk H locs ls hH hl hL hz)
theorem z_dup (C : zC p l s m args meth c γ cc nL ret own xt) {v : Value} (hd : decode cc pc = .ok (.dup, 1)) (hv : v.category = 1) 
    (kk : zAW p l e R s m args below meth c γ nL Q M k n (pc + 1) L (v :: v :: st)) : zAW p l e R s m args below meth c γ nL Q M k n pc L (v :: st) := by
  intro H locs ls hH hl hL hz
  exact lv_dup C.ex C.by hd hv (kk H locs ls hH hl hL hz)
theorem z_pop (C : zC p l s m args meth c γ cc nL ret own xt) {v : Value} (hd : decode cc pc = .ok (.pop, 1)) (hv : v.category = 1) 
    (kk : zAW p l e R s m args below meth c γ nL Q M k n (pc + 1) L st) : zAW p l e R s m args below meth c γ nL Q M k n pc L (v :: st) := by
  intro H locs ls hH hl hL hz
  exact lv_pop C.ex C.by hd hv (kk H locs ls hH hl hL hz)
theorem z_dup2 (C : zC p l s m args meth c γ cc nL ret own xt) {v u : Value} (hd : decode cc pc = .ok (.dup2, 1)) (hv : v.category = 1) (hu : u.category = 1) 
    (kk : zAW p l e R s m args below meth c γ nL Q M k n (pc + 1) L (v :: u :: v :: u :: st)) : zAW p l e R s m args below meth c γ nL Q M k n pc L (v :: u :: st) := by
  intro H locs ls hH hl hL hz
  exact lv_dup2_11 C.ex C.by hd hv hu (kk H locs ls hH hl hL hz)
theorem z_dup2L (C : zC p l s m args meth c γ cc nL ret own xt) {v : Value} (hd : decode cc pc = .ok (.dup2, 1)) (hv : v.category = 2) 
    (kk : zAW p l e R s m args below meth c γ nL Q M k n (pc + 1) L (v :: v :: st)) : zAW p l e R s m args below meth c γ nL Q M k n pc L (v :: st) := by
  intro H locs ls hH hl hL hz
  exact lv_dup2_2 C.ex C.by hd hv (kk H locs ls hH hl hL hz)
end ZR
