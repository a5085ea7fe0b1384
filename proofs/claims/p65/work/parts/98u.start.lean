/-! what the Statement gives of the start -/
def nF : List Cond := flatC (Jvm.Cond.and given_1 narrow_1)
def sTm (i : Nat) : Term := .string (zStrs.getD i ("", 0, "")).1 (zStrs.getD i ("", 0, "")).2.1
def sBs : List Nat := [276, 397, 407, 412, 417, 422, 434, 443, 511, 539, 569, 451, 480, 690, 727, 812, 840, 784, 754, 594, 606, 613, 620, 633, 670, 679]
def sExp (i : Nat) : List Cond := [.exactly (sTm i) "java/lang/String", .eq (.field (sTm i) "java/lang/String" "coder" "B") (.int 0), .arrayOf (.field (sTm i) "java/lang/String" "value" "[B") .byte, .eq (.length (.field (sTm i) "java/lang/String" "value" "[B")) (.int (Int32.ofNat (zStrLen.getD i 0)))] ++ (List.range (zStrLen.getD i 0)).map (fun j => .eq (.elem (.field (sTm i) "java/lang/String" "value" "[B") (.int (Int32.ofNat j))) (.int ((zStrByt.getD i []).getD j 0)))
set_option maxRecDepth 100000 in
theorem sSeg : ∀ i, i < 26 → (nF.drop (sBs.getD i 0)).take (4 + zStrLen.getD i 0) = sExp i := by decide +kernel
theorem sMem {i : Nat} (hi : i < 26) {w : Cond} (hw : w ∈ sExp i) : w ∈ nF := List.mem_of_mem_drop (List.mem_of_mem_take (by rw [sSeg i hi]; exact hw))
theorem sEl {i j : Nat} (hj : j < zStrLen.getD i 0) : Cond.eq (.elem (.field (sTm i) "java/lang/String" "value" "[B") (.int (Int32.ofNat j))) (.int ((zStrByt.getD i []).getD j 0)) ∈ sExp i := List.mem_append_right _ (List.mem_map.mpr ⟨j, List.mem_range.mpr hj, rfl⟩)
def dTm : Term := .static "java/lang/Integer" "DigitOnes" "[B"
def dExp : List Cond := (List.range 100).map (fun j => .eq (.elem dTm (.int (Int32.ofNat j))) (.int (Int32.ofInt (48 + ((j : Int) % 10)))))
set_option maxRecDepth 100000 in
theorem dSeg : (nF.drop 14).take 100 = dExp := by decide +kernel
theorem dMem {j : Nat} (hj : j < 100) : Cond.eq (.elem dTm (.int (Int32.ofNat j))) (.int (Int32.ofInt (48 + ((j : Int) % 10)))) ∈ nF := List.mem_of_mem_drop (List.mem_of_mem_take (by rw [dSeg]; exact List.mem_map.mpr ⟨j, List.mem_range.mpr hj, rfl⟩))
theorem sLen : ∀ i, i < 26 → zStrLen.getD i 0 < 2 ^ 31 := by decide +kernel
theorem sDif : ∀ i, i < 26 → ∀ j, j < 26 → i ≠ j → zStrLen.getD i 0 ≠ zStrLen.getD j 0 ∨ ∃ k, k < zStrLen.getD i 0 ∧ k < zStrLen.getD j 0 ∧ (zStrByt.getD i []).getD k 0 ≠ (zStrByt.getD j []).getD k 0 := by decide +kernel
theorem zlen_cg {args : Array Value} {s : State} (t u : Term) (h : t.eval args s none [] s = u.eval args s none [] s) : (Term.length t).eval args s none [] s = (Term.length u).eval args s none [] s := by simp only [Term.eval, h]
theorem zelem_cg {args : Array Value} {s : State} (t u v : Term) (h : t.eval args s none [] s = u.eval args s none [] s) : (Term.elem t v).eval args s none [] s = (Term.elem u v).eval args s none [] s := by simp only [Term.eval, h]
theorem zSof {args : Array Value} {s : State} {N : Nat} {tm : Nat → Term} {len : List Nat} {byt : List (List Int32)} {A : Nat → Prop} (hN : ∀ i : Nat, i < N → len.getD i 0 < 2 ^ 31) (hex : ∀ i : Nat, i < N → (Cond.exactly (tm i) "java/lang/String").before args s = true) (hco : ∀ i : Nat, i < N → (Cond.eq (.field (tm i) "java/lang/String" "coder" "B") (.int 0)).before args s = true)
    (har : ∀ i : Nat, i < N → (Cond.arrayOf (.field (tm i) "java/lang/String" "value" "[B") .byte).before args s = true) (hle : ∀ i : Nat, i < N → (Cond.eq (.length (.field (tm i) "java/lang/String" "value" "[B")) (.int (Int32.ofNat (len.getD i 0)))).before args s = true)
    (hel : ∀ i : Nat, i < N → ∀ j : Nat, j < len.getD i 0 → (Cond.eq (.elem (.field (tm i) "java/lang/String" "value" "[B") (.int (Int32.ofNat j))) (.int ((byt.getD i []).getD j 0))).before args s = true)
    (hd : ∀ i, i < N → ∀ j, j < N → i ≠ j → len.getD i 0 ≠ len.getD j 0 ∨ ∃ k, k < len.getD i 0 ∧ k < len.getD j 0 ∧ (byt.getD i []).getD k 0 ≠ (byt.getD j []).getD k 0) (hA : ∀ a : Nat, a < s.heap.size → ¬ A a) :
    ∃ adK adV : Nat → Nat, vk_S N len byt adK adV A s s.heap ∧ ∀ i : Nat, i < N → (tm i).eval args s none [] s = some (.ref (adK i)) := by
  have h0 : ∀ i : Nat, ∃ q : Nat × Nat, i < N → (tm i).eval args s none [] s = some (.ref q.1) ∧ va_O "java/lang/String" q.1 A s s.heap ∧ va_OF "java/lang/String" "coder" "B" (.int 0) q.1 A s s.heap ∧ va_OF "java/lang/String" "value" "[B" (.ref q.2) q.1 A s s.heap ∧ va_T .byte q.2 (len.getD i 0) (fun j => .int ((byt.getD i []).getD j 0)) A s s.heap := by
    intro i
    by_cases hi : i < N
    · obtain ⟨a, c, cA, kA, q1, q2, q3, q4, q5, q6, -⟩ := Cond.exactly_spec (args := args) (first := s) (o := none) (s := s) (idx := []) (t := tm i) (cls := "java/lang/String") (hex i hi)
      obtain ⟨t, ht, hT⟩ := va_Tof (f := fun j => .int ((byt.getD i []).getD j 0)) (A := A) (hN i hi) (har i hi) (va_eqt (hle i hi)) (fun j hj => va_eqt (hel i hi j hj)) hA
      exact ⟨(a, t), fun _ => ⟨q1, ⟨cA, q3, q5, by rw [q6]; exact q2, hA a (Array.getElem?_eq_some_iff.mp q3).1⟩, vk_OFof q1 (va_eqt (hco i hi)) hA, vk_OFof q1 ht hA, hT⟩⟩
    · exact ⟨(0, 0), fun h => absurd h hi⟩
  obtain ⟨ad, had⟩ := Classical.axiomOfChoice h0
  refine ⟨fun i => (ad i).1, fun i => (ad i).2, ⟨fun i hi => (had i hi).2, fun i j hi hj e1 => ?_⟩, fun i hi => (had i hi).1⟩
  by_cases hij : i = j
  · exact hij
  · have e1 : (ad i).1 = (ad j).1 := e1
    have ti := (had i hi).1
    have tj := (had j hj).1
    rw [← e1] at tj
    have ef : (Term.field (tm i) "java/lang/String" "value" "[B").eval args s none [] s = (Term.field (tm j) "java/lang/String" "value" "[B").eval args s none [] s := by rw [va_fe ti, va_fe tj]
    have li := va_eqt (hle i hi)
    rw [zlen_cg _ _ ef, va_eqt (hle j hj)] at li
    have lij : Int32.ofNat (len.getD j 0) = Int32.ofNat (len.getD i 0) := by
      injection li with li
      injection li
    have hNi := hN i hi
    have hNj := hN j hj
    have q1 : Int32.ofNat (len.getD j 0) = zi (len.getD j 0 : Nat) := zi_nI (by omega)
    have q2 : Int32.ofNat (len.getD i 0) = zi (len.getD i 0 : Nat) := zi_nI (by omega)
    rw [q1, q2] at lij
    have l2 := congrArg Int32.toInt lij
    rw [zi_toInt (by omega), zi_toInt (by omega)] at l2
    rcases hd i hi j hj hij with w | ⟨k, k1, k2, k3⟩
    · exact absurd (by omega) w
    · have ei := va_eqt (hel i hi k k1)
      rw [zelem_cg _ _ _ ef, va_eqt (hel j hj k k2)] at ei
      injection ei with ei
      injection ei with ei
      exact absurd ei.symm k3
theorem zeq_ref {args : Array Value} {s : State} {t u : Term} {a : Nat} (h : (Cond.eq t u).before args s = true) (ht : t.eval args s none [] s = some (.ref a)) : u.eval args s none [] s = some (.ref a) := by
  cases hv : u.eval args s none [] s with
  | none => simp [Cond.before, Cond.holds, Cond.value, hv, ht] at h
  | some w =>
    simp only [Cond.before, Cond.holds, Cond.value, hv, ht] at h
    cases w <;> simp_all
section ST
variable {s : State} {b : Nat}
theorem st_arr {T : FieldType} (h : (Cond.arrayClass T).before #[Value.ref b] s = true) (hT : ∀ C, T ≠ .object C) : ∃ cA, ArrOfT s cA T ∧ va_RA s cA T := by
  obtain ⟨c, k, comp, h1, h2, h3⟩ := Cond.arrayClass_spec h
  refine ⟨c, fun N z => ⟨fun k0 h0 => (by cases h0), k, h2, comp, h3⟩, ?_⟩
  cases T with
  | object C => exact absurd rfl (hT C)
  | _ => exact h1
theorem st_arq {C : String} (h : (Cond.arrayOver (.object C)).before #[Value.ref b] s = true) : ∃ cA, ArrOfT s cA (.object C) ∧ va_RA s cA (.object C) := by
  obtain ⟨comp, c, k, h1, -, h3, h4, h5⟩ := Cond.arrayOver_spec h
  exact ⟨c, fun N z => ⟨fun k0 h0 => (by cases h0), k, h3, comp, h4⟩, k, comp, h3, h4, h1, h5⟩
theorem zsc_of (x : Int32) : (UInt32.ofNat x.toUInt32.toNat).toInt32 = x := by
  rw [UInt32.ofNat_toNat]
  rfl
set_option maxHeartbeats 4000000 in
set_option maxRecDepth 100000 in
theorem st_ev {L : Nat} {xs : Nat → Int32} (hX : va_X b L xs s s.heap) (hbl : b < s.heap.size) (hL : L ≤ 260) (hts : ∀ w ∈ lw_tbl, w.before #[Value.ref b] s = true) (hgv : (Jvm.Cond.and given_1 narrow_1).before #[Value.ref b] s = true) : ∃ γ : zG, γ.2.1 = s.heap ∧ γ.2.2.2.1 26 = b ∧ zEV γ s := by
  have hn : ∀ w ∈ nF, w.before #[Value.ref b] s = true := flat_of_before _ hgv
  have hlw : ∀ w ∈ LW, w.before #[Value.ref b] s = true := fun w hw => hts w (LW_tbl hw)
  have hA : ∀ a : Nat, a < s.heap.size → ¬ (fun q : Nat => s.heap.size ≤ q) a := fun a h w => absurd w (Nat.not_le.mpr h)
  have hC : ∀ k : Nat, ∃ x : ClassId × (Nat → Nat), ∀ q : vw_C, vwCl[k]? = some q → u_Kn s q.1 q.2.1 q.2.2 x.1 x.2 := by
    intro k
    match k with
    | 0 =>
      obtain ⟨c0, i0, h0⟩ := u_known (C := RX0) (T := TX0) (N := 2) (n := 2) hlw uw_X0 (hts _ (mt_1 (List.mem_of_getElem? (i := 41) rfl)))
      exact ⟨(c0, i0), fun q hq => by cases hq; exact h0⟩
    | 1 =>
      obtain ⟨c0, i0, h0⟩ := u_known (C := RX1) (T := TX1) (N := 4) (n := 4) hlw uw_X1 (hts _ (mt_2 (List.mem_of_getElem? (i := 194) rfl)))
      exact ⟨(c0, i0), fun q hq => by cases hq; exact h0⟩
    | 2 =>
      obtain ⟨c0, i0, h0⟩ := u_known (C := RX2) (T := TX2) (N := 3) (n := 3) hlw uw_X2 (hts _ (mt_1 (List.mem_of_getElem? (i := 125) rfl)))
      exact ⟨(c0, i0), fun q hq => by cases hq; exact h0⟩
    | 3 =>
      obtain ⟨c0, i0, h0⟩ := u_known (C := RX3) (T := TX3) (N := 3) (n := 3) hlw uw_X3 (hts _ (mt_1 (List.mem_of_getElem? (i := 175) rfl)))
      exact ⟨(c0, i0), fun q hq => by cases hq; exact h0⟩
    | 4 =>
      obtain ⟨c0, i0, h0⟩ := u_known (C := RX4) (T := TX4) (N := 7) (n := 7) hlw uw_X4 (hts _ (mt_1 (List.mem_of_getElem? (i := 215) rfl)))
      exact ⟨(c0, i0), fun q hq => by cases hq; exact h0⟩
    | 5 =>
      obtain ⟨c0, i0, h0⟩ := u_known (C := RX5) (T := TX5) (N := 4) (n := 4) hlw uw_X5 (hts _ (mt_2 (List.mem_of_getElem? (i := 174) rfl)))
      exact ⟨(c0, i0), fun q hq => by cases hq; exact h0⟩
    | 6 =>
      obtain ⟨c0, i0, h0⟩ := u_known (C := RX6) (T := TX6) (N := 6) (n := 6) hlw uw_X6 (hts _ (mt_1 (List.mem_of_getElem? (i := 119) rfl)))
      exact ⟨(c0, i0), fun q hq => by cases hq; exact h0⟩
    | 7 =>
      obtain ⟨c0, i0, h0⟩ := u_known (C := RX7) (T := TX7) (N := 5) (n := 5) hlw uw_X7 (hts _ (mt_1 (List.mem_of_getElem? (i := 110) rfl)))
      exact ⟨(c0, i0), fun q hq => by cases hq; exact h0⟩
    | 8 =>
      obtain ⟨c0, i0, h0⟩ := u_known (C := RX8) (T := TX8) (N := 15) (n := 15) hlw uw_X8 (hts _ (mt_1 (List.mem_of_getElem? (i := 30) rfl)))
      exact ⟨(c0, i0), fun q hq => by cases hq; exact h0⟩
    | 9 =>
      obtain ⟨c0, i0, h0⟩ := u_known (C := RJ4) (T := TJ4) (N := 4) (n := 4) hlw uw_J4 (hts _ (mt_3 (List.mem_of_getElem? (i := 216) rfl)))
      exact ⟨(c0, i0), fun q hq => by cases hq; exact h0⟩
    | 10 =>
      obtain ⟨c0, i0, h0⟩ := u_known (C := RJ0) (T := TJ0) (N := 4) (n := 4) hlw uw_J0 (hts _ (mt_4 (List.mem_of_getElem? (i := 131) rfl)))
      exact ⟨(c0, i0), fun q hq => by cases hq; exact h0⟩
    | k + 11 => exact ⟨(0, fun _ => 0), fun q hq => by cases hq⟩
  have hR : ∀ k : Nat, ∃ cA, k < 8 → ArrOfT s cA (zT k) ∧ va_RA s cA (zT k) := by
    intro k
    match k with
    | 0 =>
      obtain ⟨cA, h0⟩ := st_arr (T := .int) (hts _ (mt_1 (List.mem_of_getElem? (i := 55) rfl))) (fun C h => by cases h)
      exact ⟨cA, fun _ => h0⟩
    | 1 =>
      obtain ⟨cA, h0⟩ := st_arr (T := .boolean) (hts _ (mt_2 (List.mem_of_getElem? (i := 192) rfl))) (fun C h => by cases h)
      exact ⟨cA, fun _ => h0⟩
    | 2 =>
      obtain ⟨cA, h0⟩ := st_arr (T := .byte) (hts _ (mt_1 (List.mem_of_getElem? (i := 148) rfl))) (fun C h => by cases h)
      exact ⟨cA, fun _ => h0⟩
    | 3 =>
      obtain ⟨cA, h0⟩ := st_arr (T := .int) (hts _ (mt_1 (List.mem_of_getElem? (i := 55) rfl))) (fun C h => by cases h)
      exact ⟨cA, fun _ => h0⟩
    | 4 =>
      obtain ⟨cA, h0⟩ := st_arr (T := .int) (hts _ (mt_1 (List.mem_of_getElem? (i := 55) rfl))) (fun C h => by cases h)
      exact ⟨cA, fun _ => h0⟩
    | 5 =>
      obtain ⟨cA, h0⟩ := st_arq (C := "TrigramReaders$Reader") (hts _ (mt_1 (List.mem_of_getElem? (i := 116) rfl)))
      exact ⟨cA, fun _ => h0⟩
    | 6 =>
      obtain ⟨cA, h0⟩ := st_arq (C := "TrigramReaders$Document") (hts _ (mt_1 (List.mem_of_getElem? (i := 118) rfl)))
      exact ⟨cA, fun _ => h0⟩
    | 7 =>
      obtain ⟨cA, h0⟩ := st_arq (C := "TrigramReaders$State") (hts _ (mt_2 (List.mem_of_getElem? (i := 170) rfl)))
      exact ⟨cA, fun _ => h0⟩
    | k + 8 => exact ⟨0, fun h => absurd h (by omega)⟩
  obtain ⟨dC, hdC⟩ := Classical.axiomOfChoice hC
  obtain ⟨ac, hac⟩ := Classical.axiomOfChoice hR
  obtain ⟨adK, adV, hS, hE⟩ := zSof (args := #[Value.ref b]) (s := s) (N := 26) (tm := sTm) (len := zStrLen) (byt := zStrByt) (A := fun q : Nat => s.heap.size ≤ q) sLen (fun i hi => hn _ (sMem hi (by simp [sExp]))) (fun i hi => hn _ (sMem hi (by simp [sExp]))) (fun i hi => hn _ (sMem hi (by simp [sExp]))) (fun i hi => hn _ (sMem hi (by simp [sExp]))) (fun i hi j hj => hn _ (sMem hi (sEl hj))) sDif hA
  obtain ⟨dd, hdd, hdT⟩ := va_Tof (tm := dTm) (ty := .byte) (N := 100) (f := fun j => .int (Int32.ofInt (48 + ((j : Int) % 10)))) (A := fun q : Nat => s.heap.size ≤ q) (by decide) (hn _ (List.mem_of_getElem? (i := 12) (by decide +kernel))) (va_eqt (hn _ (List.mem_of_getElem? (i := 13) (by decide +kernel)))) (fun j hj => va_eqt (hn _ (dMem hj))) hA
  refine ⟨((fun k => (dC k).1, fun k => (dC k).2), s.heap, ac, fun i => if i = 26 then b else adK i, fun i => if i < 26 then adV i else if i = 26 then L else (xs (i - 27)).toUInt32.toNat), rfl, rfl, ⟨fun k q hq => hdC k q hq, fun k q hq => ?_⟩, ?_, ?_, ?_, ⟨fun i hi => ?_, fun i j hi hj hij => ?_⟩, ⟨?_, ?_, ?_, ?_, ?_, ⟨hbl, hL⟩, ?_⟩, ?_, ?_, ?_, ?_, ?_, ?_, ?_⟩
  · have hk : k < 8 := by
      have := (List.getElem?_eq_some_iff.mp hq).1
      simpa [zTys] using this
    rw [List.getElem?_map, List.getElem?_range hk] at hq
    cases hq
    exact hac k hk
  · exact vx_Zqof (hts _ (mt_3 (List.mem_of_getElem? (i := 68) rfl))) (hts _ (mt_1 (List.mem_of_getElem? (i := 20) rfl))) (hn _ (List.mem_of_getElem? (i := 9) (by decide +kernel))) hA
  · exact vx_Zqof (hts _ (mt_3 (List.mem_of_getElem? (i := 70) rfl))) (hts _ (mt_1 (List.mem_of_getElem? (i := 20) rfl))) (hn _ (List.mem_of_getElem? (i := 10) (by decide +kernel))) hA
  · intro i q hq
    match i, hq with
    | 0, hq => cases hq; exact vk_R.of (hts _ (mt_1 (List.mem_of_getElem? (i := 56) rfl))) (hE 0 (by decide))
    | 1, hq => cases hq; exact vk_R.of (hts _ (mt_2 (List.mem_of_getElem? (i := 28) rfl))) (hE 1 (by decide))
    | 2, hq => cases hq; exact vk_R.of (hts _ (mt_2 (List.mem_of_getElem? (i := 66) rfl))) (hE 2 (by decide))
    | 3, hq => cases hq; exact vk_R.of (hts _ (mt_2 (List.mem_of_getElem? (i := 67) rfl))) (hE 3 (by decide))
    | 4, hq => cases hq; exact vk_R.of (hts _ (mt_2 (List.mem_of_getElem? (i := 68) rfl))) (hE 4 (by decide))
    | 5, hq => cases hq; exact vk_R.of (hts _ (mt_2 (List.mem_of_getElem? (i := 85) rfl))) (hE 5 (by decide))
    | 6, hq => cases hq; exact vk_R.of (hts _ (mt_2 (List.mem_of_getElem? (i := 104) rfl))) (hE 6 (by decide))
    | 7, hq => cases hq; exact vk_R.of (hts _ (mt_2 (List.mem_of_getElem? (i := 157) rfl))) (hE 7 (by decide))
    | 8, hq => cases hq; exact vk_R.of (hts _ (mt_3 (List.mem_of_getElem? (i := 141) rfl))) (hE 8 (by decide))
    | 9, hq => cases hq; exact vk_R.of (hts _ (mt_3 (List.mem_of_getElem? (i := 166) rfl))) (hE 9 (by decide))
    | 10, hq => cases hq; exact vk_R.of (hts _ (mt_3 (List.mem_of_getElem? (i := 189) rfl))) (hE 10 (by decide))
    | 11, hq => cases hq; exact vk_R.of (hts _ (mt_3 (List.mem_of_getElem? (i := 83) rfl))) (hE 11 (by decide))
    | 12, hq => cases hq; exact vk_R.of (hts _ (mt_3 (List.mem_of_getElem? (i := 118) rfl))) (hE 12 (by decide))
    | 13, hq => cases hq; exact vk_R.of (hts _ (mt_5 (List.mem_of_getElem? (i := 14) rfl))) (hE 13 (by decide))
    | 14, hq => cases hq; exact vk_R.of (hts _ (mt_5 (List.mem_of_getElem? (i := 31) rfl))) (hE 14 (by decide))
    | 15, hq => cases hq; exact vk_R.of (hts _ (mt_5 (List.mem_of_getElem? (i := 146) rfl))) (hE 15 (by decide))
    | 16, hq => cases hq; exact vk_R.of (hts _ (mt_5 (List.mem_of_getElem? (i := 147) rfl))) (hE 16 (by decide))
    | 17, hq => cases hq; exact vk_R.of (hts _ (mt_5 (List.mem_of_getElem? (i := 116) rfl))) (hE 17 (by decide))
    | 18, hq => cases hq; exact vk_R.of (hts _ (mt_5 (List.mem_of_getElem? (i := 111) rfl))) (hE 18 (by decide))
    | 19, hq => cases hq; exact vk_R.of (hts _ (mt_4 (List.mem_of_getElem? (i := 5) rfl))) (hE 19 (by decide))
    | 20, hq => cases hq; exact vk_R.of (hts _ (mt_4 (List.mem_of_getElem? (i := 103) rfl))) (hE 20 (by decide))
    | 21, hq => cases hq; exact vk_R.of (hts _ (mt_4 (List.mem_of_getElem? (i := 117) rfl))) (hE 21 (by decide))
    | 22, hq => cases hq; exact vk_R.of (hts _ (mt_4 (List.mem_of_getElem? (i := 118) rfl))) (hE 22 (by decide))
    | 23, hq => cases hq; exact vk_R.of (hts _ (mt_4 (List.mem_of_getElem? (i := 125) rfl))) (hE 23 (by decide))
    | 24, hq => cases hq; exact vk_R.of (hts _ (mt_4 (List.mem_of_getElem? (i := 215) rfl))) (hE 24 (by decide))
    | 25, hq => cases hq; exact vk_R.of (hts _ (mt_4 (List.mem_of_getElem? (i := 216) rfl))) (hE 25 (by decide))
    | i + 26, hq => cases hq
  · show va_O _ (if i = 26 then b else adK i) _ _ _ ∧ va_OF _ _ _ _ (if i = 26 then b else adK i) _ _ _ ∧ va_OF _ _ _ (.ref (if i < 26 then adV i else _)) (if i = 26 then b else adK i) _ _ _ ∧ va_T _ (if i < 26 then adV i else _) _ _ _ _ _
    rw [if_neg (show ¬ i = 26 by omega), if_pos hi]
    exact hS.1 i hi
  · have hij : (if i = 26 then b else adK i) = (if j = 26 then b else adK j) := hij
    rw [if_neg (show ¬ i = 26 by omega), if_neg (show ¬ j = 26 by omega)] at hij
    exact hS.2 i j hi hj hij
  · exact va_Zof (hts _ (mt_1 (List.mem_of_getElem? (i := 66) rfl))) (hts _ (mt_1 (List.mem_of_getElem? (i := 3) rfl))) (va_eqi (hn _ (List.mem_of_getElem? (i := 4) (by decide +kernel)))) hA
  · exact va_Zqof (hts _ (mt_1 (List.mem_of_getElem? (i := 82) rfl))) (hts _ (mt_1 (List.mem_of_getElem? (i := 5) rfl))) (hn _ (List.mem_of_getElem? (i := 5) (by decide +kernel))) hA
  · exact va_Nw.of rfl (hts _ (mt_4 (List.mem_of_getElem? (i := 44) rfl)))
  · exact ⟨dd, va_Zof (hts _ (mt_4 (List.mem_of_getElem? (i := 179) rfl))) (hts _ (mt_1 (List.mem_of_getElem? (i := 25) rfl))) hdd hA, hdT⟩
  · obtain ⟨scr, x1, x2, x3, x4, x5⟩ := hX
    refine ⟨scr, x1, x2, x3, x4, fun j hj => ?_⟩
    rw [x5 j hj]
    have e : zsc ((fun k => (dC k).1, fun k => (dC k).2), s.heap, ac, fun i => if i = 26 then b else adK i, fun i => if i < 26 then adV i else if i = 26 then L else (xs (i - 27)).toUInt32.toNat) j = xs j := by
      show (UInt32.ofNat (if 27 + j < 26 then adV (27 + j) else if 27 + j = 26 then L else (xs (27 + j - 27)).toUInt32.toNat)).toInt32 = xs j
      rw [if_neg (by omega), if_neg (by omega), Nat.add_sub_cancel_left, zsc_of]
    rw [e]
  · intro y hy
    simp only [zPrv, List.mem_cons, List.not_mem_nil, or_false] at hy
    rcases hy with rfl | rfl | rfl | rfl
    · exact va_Nw.of rfl (hts _ (mt_4 (List.mem_of_getElem? (i := 18) rfl)))
    · exact va_Nw.of rfl (hts _ (mt_4 (List.mem_of_getElem? (i := 22) rfl)))
    · exact va_Nw.of rfl (hts _ (mt_4 (List.mem_of_getElem? (i := 70) rfl)))
    · exact va_Nw.of rfl (hts _ (mt_4 (List.mem_of_getElem? (i := 74) rfl)))
  · intro q hq
    simp only [zNest, List.mem_cons, List.not_mem_nil, or_false] at hq
    rcases hq with rfl | rfl | rfl | rfl | rfl | rfl | rfl | rfl | rfl | rfl | rfl | rfl | rfl | rfl | rfl | rfl | rfl | rfl
    · exact va_Nw.of rfl (hts _ (mt_1 (List.mem_of_getElem? (i := 42) rfl)))
    · exact va_Nw.of rfl (hts _ (mt_1 (List.mem_of_getElem? (i := 120) rfl)))
    · exact va_Nw.of rfl (hts _ (mt_1 (List.mem_of_getElem? (i := 126) rfl)))
    · exact va_Nw.of rfl (hts _ (mt_1 (List.mem_of_getElem? (i := 176) rfl)))
    · exact va_Nw.of rfl (hts _ (mt_2 (List.mem_of_getElem? (i := 22) rfl)))
    · exact va_Nw.of rfl (hts _ (mt_2 (List.mem_of_getElem? (i := 25) rfl)))
    · exact va_Nw.of rfl (hts _ (mt_2 (List.mem_of_getElem? (i := 48) rfl)))
    · exact va_Nw.of rfl (hts _ (mt_2 (List.mem_of_getElem? (i := 103) rfl)))
    · exact va_Nw.of rfl (hts _ (mt_2 (List.mem_of_getElem? (i := 113) rfl)))
    · exact va_Nw.of rfl (hts _ (mt_2 (List.mem_of_getElem? (i := 135) rfl)))
    · exact va_Nw.of rfl (hts _ (mt_2 (List.mem_of_getElem? (i := 138) rfl)))
    · exact va_Nw.of rfl (hts _ (mt_2 (List.mem_of_getElem? (i := 172) rfl)))
    · exact va_Nw.of rfl (hts _ (mt_2 (List.mem_of_getElem? (i := 175) rfl)))
    · exact va_Nw.of rfl (hts _ (mt_2 (List.mem_of_getElem? (i := 195) rfl)))
    · exact va_Nw.of rfl (hts _ (mt_5 (List.mem_of_getElem? (i := 75) rfl)))
    · exact va_Nw.of rfl (hts _ (mt_5 (List.mem_of_getElem? (i := 76) rfl)))
    · exact va_Nw.of rfl (hts _ (mt_5 (List.mem_of_getElem? (i := 206) rfl)))
    · exact va_Nw.of rfl (hts _ (mt_5 (List.mem_of_getElem? (i := 207) rfl)))
  · exact va_AO.of (hts _ (mt_1 (List.mem_of_getElem? (i := 116) rfl)))
  · exact va_AO.of (hts _ (mt_1 (List.mem_of_getElem? (i := 118) rfl)))
  · exact va_AO.of (hts _ (mt_2 (List.mem_of_getElem? (i := 170) rfl)))
  · intro X hX
    simp only [zCast, List.mem_cons, List.not_mem_nil, or_false] at hX
    rcases hX with rfl | rfl | rfl | rfl
    · exact va_Nw.of rfl (hts _ (mt_3 (List.mem_of_getElem? (i := 134) rfl)))
    · exact va_Nw.of rfl (hts _ (mt_3 (List.mem_of_getElem? (i := 159) rfl)))
    · exact va_Nw.of rfl (hts _ (mt_5 (List.mem_of_getElem? (i := 7) rfl)))
    · exact va_Nw.of rfl (hts _ (mt_3 (List.mem_of_getElem? (i := 43) rfl)))
  · intro X hX
    simp only [zDecl, List.mem_cons, List.not_mem_nil, or_false] at hX
    rcases hX with rfl | rfl | rfl
    · exact va_Nw.of rfl (hts _ (mt_3 (List.mem_of_getElem? (i := 45) rfl)))
    · exact va_Nw.of rfl (hts _ (mt_3 (List.mem_of_getElem? (i := 47) rfl)))
    · exact va_Nw.of rfl (hts _ (mt_3 (List.mem_of_getElem? (i := 49) rfl)))
  · intro q hq
    simp only [zNot, List.mem_cons, List.not_mem_nil, or_false] at hq
    rcases hq with rfl
    · exact va_Nc.of (hn _ (List.mem_of_getElem? (i := 228) (by decide +kernel)))
end ST

