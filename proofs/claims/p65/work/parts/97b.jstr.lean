/-! texts: a constant, or one that the run has made -/
def zSw (i : Nat) : List Int := (zStrByt.getD i []).map Int32.toInt
/-- a text of at most 500 signs -/
def zVw (w : List Int) : Prop := w.length ≤ 500 ∧ ∀ x ∈ w, 0 ≤ x ∧ x ≤ 127
theorem zVw.at {w : List Int} (h : zVw w) (j : Nat) : 0 ≤ w.getD j 0 ∧ w.getD j 0 ≤ 127 := by
  rw [List.getD_eq_getElem?_getD]
  cases e : w[j]? with
  | none => decide
  | some x => exact h.2 x (List.mem_of_getElem? e)
theorem zSw_len {i : Nat} (hi : i < 26) : (zSw i).length = zStrLen.getD i 0 := by
  rw [(zStr_all i hi).1]
  exact List.length_map _
theorem zSw_at {i j : Nat} (hj : j < (zSw i).length) : (zSw i).getD j 0 = zSc i j := by
  unfold zSw at hj ⊢
  unfold zSc
  rw [List.length_map] at hj
  generalize zStrByt.getD i [] = l at hj ⊢
  rw [List.getD_eq_getElem?_getD, List.getD_eq_getElem?_getD, List.getElem?_map, List.getElem?_eq_getElem hj]
  rfl
theorem zSw_ok {i : Nat} (hi : i < 26) : zVw (zSw i) := by
  have h := zStr_all i hi
  refine ⟨by rw [zSw_len hi]; omega, fun x hx => ?_⟩
  obtain ⟨b, hb, rfl⟩ := List.mem_map.mp hx
  exact h.2.2 b hb
/-- the bytes of a text -/
def hBb (γ : zG) (M : zM) (v : Nat) (w : List Int) : Prop := (∃ i, i < 26 ∧ v = γ.2.2.2.2 i ∧ w = zSw i) ∨ ∃ g, M v = some (zba γ w.length g) ∧ zBv g ∧ ∀ j, j < w.length → g j = w.getD j 0
def hSg (γ : zG) (M : zM) (a v : Nat) (w : List Int) : Prop := zVw w ∧ hBb γ M v w ∧ ((∃ i, i < 26 ∧ a = γ.2.2.2.1 i ∧ v = γ.2.2.2.2 i) ∨ M a = some (.inr (10, [.ref v, .int (zi 0), .int (zi 0), .int (zi 0)])))
theorem hSg.con (γ : zG) (M : zM) {i : Nat} (hi : i < 26) : hSg γ M (γ.2.2.2.1 i) (γ.2.2.2.2 i) (zSw i) := ⟨zSw_ok hi, .inl ⟨i, hi, rfl, rfl⟩, .inl ⟨i, hi, rfl, rfl⟩⟩
theorem hBb.fr {γ : zG} {M M' : zM} {v : Nat} {w : List Int} {S : List Nat} (h : hBb γ M v w) (f : zFr M M' S) (hv : ∀ y, M v = some (.inl y) → v ∉ S) : hBb γ M' v w := by
  rcases h with h | ⟨g, h1, h2, h3⟩
  · exact .inl h
  · exact .inr ⟨g, f.at (hv _ h1) h1, h2, h3⟩
theorem hSg.fr {γ : zG} {M M' : zM} {a v : Nat} {w : List Int} {S : List Nat} (h : hSg γ M a v w) (f : zFr M M' S) (ha : ∀ fs, M a = some (.inr (10, fs)) → a ∉ S) (hv : ∀ y, M v = some (.inl y) → v ∉ S) : hSg γ M' a v w := by
  obtain ⟨h1, h2, h3⟩ := h
  refine ⟨h1, h2.fr f hv, ?_⟩
  rcases h3 with h | h
  · exact .inl h
  · exact .inr (f.at (ha _ h) h)
section ZT2
variable {p : Program} {l : Launch} {e : Env} {R : Room} {s : State} {m : MethodId} {args : Array Value} {below : List Frame} {meth : Method} {c : Code} {γ : zG} {cc : ByteArray} {nL : Nat} {ret : Option FieldType} {own : String} {xt : List ExceptionTableEntry} {Q : State → Prop} {M : zM} {k n pc mc ms : Nat} {L : zL} {st : List Value} {a v : Nat} {w : List Int}
theorem z_tval (C : zC p l s m args meth c γ cc nL ret RJ0 xt) (hS : hSg γ M a v w) (hd : decode cc pc = .ok (.getfield 9, 3)) (kk : zAW p l e R s m args below meth c γ nL Q M k n (pc + 3) L (.ref v :: st)) : zAW p l e R s m args below meth c γ nL Q M k n pc L (.ref a :: st) := by
  rcases hS.2.2 with ⟨i, hi, rfl, rfl⟩ | h
  · exact z_sval C hi hd kk
  · exact z_get C hd fl_J0_9 h rfl kk
theorem z_tcod (C : zC p l s m args meth c γ cc nL ret RJ0 xt) (hS : hSg γ M a v w) (hd : decode cc pc = .ok (.getfield 15, 3)) (kk : zAW p l e R s m args below meth c γ nL Q M k n (pc + 3) L (.int (zi 0) :: st)) : zAW p l e R s m args below meth c γ nL Q M k n pc L (.ref a :: st) := by
  rcases hS.2.2 with ⟨i, hi, rfl, rfl⟩ | h
  · exact z_scod C hi hd kk
  · exact z_get C hd fl_J0_15 h rfl kk
theorem z_tlen (C : zC p l s m args meth c γ cc nL ret own xt) (hB : hBb γ M v w) (hw : zVw w) (hd : decode cc pc = .ok (.arraylength, 1)) (kk : zAW p l e R s m args below meth c γ nL Q M k n (pc + 1) L (.int (zi w.length) :: st)) : zAW p l e R s m args below meth c γ nL Q M k n pc L (.ref v :: st) := by
  have hl := hw.1
  rcases hB with ⟨i, hi, rfl, rfl⟩ | ⟨g, h1, h2, h3⟩
  · exact z_slen C hi hd (by rw [← zSw_len hi]; exact kk)
  · exact z_alenB C hd h1 (by omega) kk
theorem z_tbyt (C : zC p l s m args meth c γ cc nL ret own xt) (hB : hBb γ M v w) (hw : zVw w) {q : Int} (hq : 0 ≤ q ∧ q < w.length) (hd : decode cc pc = .ok (.baload, 1)) (kk : zAW p l e R s m args below meth c γ nL Q M k n (pc + 1) L (.int (zi (w.getD q.toNat 0)) :: st)) : zAW p l e R s m args below meth c γ nL Q M k n pc L (.int (zi q) :: .ref v :: st) := by
  have hl := hw.1
  rcases hB with ⟨i, hi, rfl, rfl⟩ | ⟨g, h1, h2, h3⟩
  · rw [zSw_at (by omega)] at kk
    exact z_sbyt C hi (by rw [← zSw_len hi]; exact hq) hd kk
  · refine z_aldB C hd h1 hq (by omega) ?_
    rw [h3 q.toNat (by omega)]
    exact kk
theorem z_callVT (C : zC p l s m args meth c γ cc nL ret own xt) {y : MethodName} {bytes : ByteArray} {nL' idx fr lo mc' ms' : Nat} {rt : Option FieldType} {post' : Option Value → zM → Prop} {px' : String → zM → Prop} {As rest : List Value} (hS : hSg γ M a v w) (hd : decode cc pc = .ok (.invokevirtual idx, 3)) (hlk : Cond.methodLink own idx y ∈ LW) (hw : zMW y bytes nL' rt As.length) (hin : Cond.instanceMethod y ∈ LW) (hse : Cond.selects "java/lang/String" y y ∈ LW) (hM : zCon l γ y bytes nL' rt (.ref a :: As) M fr lo mc' ms' post' px') (hst : st = As.reverse ++ .ref a :: rest) (hW : (rest.map fun v => v.category).sum ≤ 8) (hR : fr + 1 ≤ R.frames ∧ 8 + (nL' + 11) + lo ≤ R.locals ∧ k + mc' ≤ R.cells ∧ n + ms' ≤ R.slots) (kx : ∀ E M', px' E M' → zXW p l e R s m args below meth c γ nL Q M' (k + mc') (n + ms') pc L E) (kk : ∀ v M', post' v M' → zAW p l e R s m args below meth c γ nL Q M' (k + mc') (n + ms') (pc + 3) L (v.toList ++ rest)) : zAW p l e R s m args below meth c γ nL Q M k n pc L st := by
  rcases hS.2.2 with ⟨i, hi, rfl, rfl⟩ | h
  · exact z_callVS C hi hd hlk hw hin hse hM hst hW hR kx kk
  · exact z_callV (Cn := RJ0) (ci := 10) C hd hlk hw hin hse rfl h hM hst hW hR kx kk
/-- bytes of a constant copied -/
theorem z_copyT (C : zC p l s m args meth c γ cc nL ret own xt) {i idx a n1 : Nat} {g : Nat → Int32} {sp dp q : Int} (hi : i < 26) (hd : decode cc pc = .ok (.invokestatic idx, 3)) (hlk : Cond.methodLink own idx arraycopyName ∈ LW) (hnat : Cond.native arraycopyName ∈ LW) (hst : Cond.static arraycopyName ∈ LW) (hin : Cond.initialized "java/lang/System" ∈ LW) (h1 : M a = some (zaB γ n1 g)) (hsp : 0 ≤ sp) (hdp : 0 ≤ dp) (hq : 0 ≤ q) (hb0 : sp + q ≤ (zStrLen.getD i 0 : Nat)) (hb1 : dp + q ≤ n1) (hn1 : n1 ≤ 2147483647) (hR : 1 ≤ R.frames ∧ (st.map fun v => v.category).sum + 18 ≤ R.locals)
    (kk : zAW p l e R s m args below meth c γ nL Q (va_up M a (some (zaB γ n1 (va_cpy (fun j => (zStrByt.getD i []).getD j 0) g sp.toNat dp.toNat q.toNat)))) k n (pc + 3) L st) : zAW p l e R s m args below meth c γ nL Q M k n pc L (.int (zi q) :: .int (zi dp) :: .ref a :: .int (zi sp) :: .ref (γ.2.2.2.2 i) :: st) := by
  intro H locs ls hH hl hL hz T hT X
  have hn0 := (zStr_all i hi).2.1
  obtain ⟨scr, hs1, hs2, hs3, hs4, -, hs5, hs7⟩ := (C.str.1 i hi).2.2.2
  have hvl : γ.2.2.2.2 i < γ.2.1.size := Nat.not_le.mp hs7
  obtain ⟨hba, hc1⟩ := hH.2 a _ h1
  have hc0 : H[γ.2.2.2.2 i]? = some scr := by rw [hH.1.2 _ hvl, ← C.hb.2 _ hvl]; exact hs1
  have hc1 : H[a]? = some (vp_cell (γ.2.2.1 2) (n1, .inl g)) := hc1
  have tn : ∀ z : Int, 0 ≤ z → z ≤ 2147483647 → (zi z).toNatClampNeg = z.toNat := fun z z0 z1 => by
    show (zi z).toInt.toNat = _
    rw [zi_toInt (by omega)]
  have nz : ∀ z : Int, 0 ≤ z → z ≤ 2147483647 → ¬ zi z < 0 := fun z z0 z1 h => by rw [zi_0, zi_lt (by omega) (by omega)] at h; omega
  obtain ⟨hs6, k0, hk0, cm0, hkk0⟩ := hs2
  obtain ⟨-, k1, hk1, cm1, hkk1⟩ := (zK_ty C (i := 2) (by omega)).1 n1 (fun j => .int (g j))
  have hsize1 : (vp_cell (γ.2.2.1 2) (n1, .inl g)).slots.size = n1 := by show (arrV _ n1 (fun j => .int (g j))).slots.size = n1; rw [arrV_size]
  obtain ⟨vm', X', step⟩ := X.arraycopy C.ex C.ow (C.ws _ hlk) (C.ws _ hnat) (C.ws _ hst) (C.ws _ hin) (src := γ.2.2.2.2 i) (dst := a) (cs := scr) (cd := vp_cell (γ.2.2.1 2) (n1, .inl g)) (srcPos := zi sp) (destPos := zi dp) (n := zi q) (by rw [hT]; exact hc0) (by rw [hT]; exact hc1)
    hs6 (fun _ h => by cases h) hs3 (fun h => by cases h) hk0 hk1 hkk0 hkk1 rfl (nz _ hsp (by omega)) (nz _ hdp (by omega)) (nz _ hq (by omega))
    (by rw [zi_toInt (by omega), zi_toInt (by omega)]; omega)
    (by rw [zi_toInt (by omega), zi_toInt (by omega), hsize1]; omega)
    (fun vm₁ _ j hj => by
      rw [tn _ hq (by omega)] at hj
      have e1 : scr.slots.getD ((zi sp).toNatClampNeg + j) .null = .int ((zStrByt.getD i []).getD (sp.toNat + j) 0) := by
        rw [tn _ hsp (by omega), Array.getD_eq_getD_getElem?, hs5 _ (by omega)]
        rfl
      refine ⟨?_, ?_⟩
      · rw [e1]
        have := zSc_rng (i := i) (k := sp.toNat + j) hi
        rw [show (zStrByt.getD i []).getD (sp.toNat + j) 0 = zi (zSc i (sp.toNat + j)) from zi_of _]
        exact zfit this
      · rw [e1]
        exact trivial)
    (g := F0 m pc ls (.int (zi q) :: .int (zi dp) :: .ref a :: .int (zi sp) :: .ref (γ.2.2.2.2 i) :: st)) rfl (hL.1.trans C.ml.symm) (rest := st) rfl (by rw [C.by]; exact hd) hR.1 (by have := hR.2; show 2 * 0 + _ + (7 + 11) ≤ _; omega)
  have e1 : copied scr (vp_cell (γ.2.2.1 2) (n1, .inl g)) (zi sp) (zi dp) (zi q) = vp_cell (γ.2.2.1 2) (n1, .inl (va_cpy (fun j => (zStrByt.getD i []).getD j 0) g (zi sp).toNatClampNeg (zi dp).toNatClampNeg (zi q).toNatClampNeg)) := va_copiedX (fun z => .int z) scr (γ.2.2.1 2) (fun j => (zStrByt.getD i []).getD j 0) g hs5 (by rw [tn _ hsp (by omega), tn _ hq (by omega)]; omega)
  rw [tn _ hsp (by omega), tn _ hdp (by omega), tn _ hq (by omega)] at e1
  rw [e1] at X' step
  have hla : a < H.size := (Array.getElem?_eq_some_iff.mp hc1).1
  have hheap : ((T.setVm vm').setCell a (vp_cell (γ.2.2.1 2) (n1, .inl (va_cpy (fun j => (zStrByt.getD i []).getD j 0) g sp.toNat dp.toNat q.toNat)))).heap = H.setIfInBounds a (vp_cell (γ.2.2.1 2) (n1, .inl (va_cpy (fun j => (zStrByt.getD i []).getD j 0) g sp.toNat dp.toNat q.toNat))) := by rw [← hT]; rfl
  have oq : ∀ q' : Nat, q' ≠ a → (H.setIfInBounds a (vp_cell (γ.2.2.1 2) (n1, .inl (va_cpy (fun j => (zStrByt.getD i []).getD j 0) g sp.toNat dp.toNat q.toNat))))[q']? = H[q']? := fun q' hq' => by simp [Array.getElem?_setIfInBounds, Ne.symm hq']
  obtain ⟨t, a1, b1⟩ := kk _ _ ls (hH.set hba (by simp) oq (show (H.setIfInBounds a _)[a]? = some _ by simp [Array.getElem?_setIfInBounds, hla])) (fun q' hq' => by
      rcases List.mem_append.mp hq' with h | h
      · exact hl q' h
      · obtain ⟨z, -, hz'⟩ := List.mem_map.mp h
        rw [← hz']
        exact hba) hL (by simp; exact hz) _ hheap X'
  exact ⟨t, step t a1, b1⟩
/-- the bytes of a text copied -/
theorem z_tcopy (C : zC p l s m args meth c γ cc nL ret own xt) {idx a n1 : Nat} {g : Nat → Int} {dp : Int} (hB : hBb γ M v w) (hw : zVw w) (hd : decode cc pc = .ok (.invokestatic idx, 3)) (hlk : Cond.methodLink own idx arraycopyName ∈ LW) (h1 : M a = some (zba γ n1 g)) (hdp : 0 ≤ dp) (hb1 : dp + w.length ≤ n1) (hn1 : n1 ≤ 2147483647) (hR : 1 ≤ R.frames ∧ (st.map fun v => v.category).sum + 18 ≤ R.locals)
    (kk : ∀ g' : Nat → Int, (∀ j : Nat, g' j = if dp ≤ j ∧ (j : Int) < dp + w.length then w.getD (j - dp.toNat) 0 else g j) → zAW p l e R s m args below meth c γ nL Q (va_up M a (some (zba γ n1 g'))) k n (pc + 3) L st) : zAW p l e R s m args below meth c γ nL Q M k n pc L (.int (zi w.length) :: .int (zi dp) :: .ref a :: .int (zi 0) :: .ref v :: st) := by
  have hl := hw.1
  have K := kk (fun j => if dp ≤ j ∧ (j : Int) < dp + w.length then w.getD (j - dp.toNat) 0 else g j) (fun j => rfl)
  rcases hB with ⟨i, hi, rfl, rfl⟩ | ⟨g0, h2, h3, h4⟩
  · refine z_copyT C hi hd hlk ar_nat ar_st ar_in h1 (by omega) hdp (by omega) (by rw [← zSw_len hi]; omega) hb1 hn1 hR ?_
    refine Eq.mp (congrArg (fun x => zAW p l e R s m args below meth c γ nL Q (va_up M a (some x)) k n (pc + 3) L st) (congrArg (zaB γ n1) (funext fun j => ?_))) K
    show zi (if _ then _ else _) = if _ then _ else _
    by_cases h : dp ≤ (j : Int) ∧ (j : Int) < dp + (zSw i).length
    · rw [if_pos h, if_pos (by omega), zSw_at (by omega), show (0 : Int).toNat + (j - dp.toNat) = j - dp.toNat by simp]
      exact (zi_of _).symm
    · rw [if_neg h, if_neg (by omega)]
  · refine z_copyB C hd hlk ar_nat ar_st ar_in h2 h1 (by omega) hdp (by omega) (by omega) hb1 (fun j => zfit (h3 j)) (by omega) hn1 hR ?_
    refine Eq.mp (congrArg (fun x => zAW p l e R s m args below meth c γ nL Q (va_up M a (some x)) k n (pc + 3) L st) (congrArg (zaB γ n1) (funext fun j => ?_))) K
    show zi (if _ then _ else _) = if _ then _ else _
    by_cases h : dp ≤ (j : Int) ∧ (j : Int) < dp + w.length
    · rw [if_pos h, if_pos (by omega), show (0 : Int).toNat + (j - dp.toNat) = j - dp.toNat by simp]
      exact congrArg zi (h4 _ (by omega)).symm
    · rw [if_neg h, if_neg (by omega)]
end ZT2
/-! String's methods on any text -/
set_option maxHeartbeats 4000000 in
set_option maxRecDepth 100000 in
theorem k_T_chk {l : Launch} {γ : zG} {M : zM} {i n : Int} {v : Value} (hv : v = .null ∨ (∃ t, v = .ref t)) (hi : 0 ≤ i ∧ i < n) (hn : n ≤ 500) :
    zCon l γ yJ3_checkIndex_8e157 cJ3_checkIndex_8e157 3 (some .int) [.int (zi i), .int (zi n), v] M 0 0 0 0 (fun v' M' => ∃ r : Int, v' = some (.int (zi r)) ∧ M' = M) (fun _ _ => False) := by
  rcases hv with rfl | ⟨t, rfl⟩
  · have _u : True := trivial
    refine zEnter [some (.int (zi i)), some (.int (zi n)), some .null] (by decide +kernel) rfl rfl (Nat.le_of_ble_eq_true rfl) ?_
    intro p e s m args below meth c Q C hin hQ
    refine z_iload_n C dJ3_checkIndex_8e157_0 rfl ?_
    refine z_if_ltZ (tgt := 9) C dJ3_checkIndex_8e157_1 (by decide) (by omega) (fun h1 => ?_) (fun h1 => ?_)
    · exact absurd h1 (by omega)
    · refine z_iload_n C dJ3_checkIndex_8e157_4 rfl ?_
      refine z_iload_n C dJ3_checkIndex_8e157_5 rfl ?_
      refine z_icmp_ltZ (tgt := 16) C dJ3_checkIndex_8e157_6 (by decide) (by omega) (by omega) (fun h6 => ?_) (fun h6 => ?_)
      · refine z_iload_n C dJ3_checkIndex_8e157_16 rfl ?_
        refine z_iret C hQ dJ3_checkIndex_8e157_17 rfl (by decide) (by decide) ?_
        exact ⟨i, rfl, rfl⟩
      · exact absurd h6 (by omega)
  · have _u : True := trivial
    refine zEnter [some (.int (zi i)), some (.int (zi n)), some (.ref t)] (by decide +kernel) rfl rfl (Nat.le_of_ble_eq_true rfl) ?_
    intro p e s m args below meth c Q C hin hQ
    refine z_iload_n C dJ3_checkIndex_8e157_0 rfl ?_
    refine z_if_ltZ (tgt := 9) C dJ3_checkIndex_8e157_1 (by decide) (by omega) (fun h1 => ?_) (fun h1 => ?_)
    · exact absurd h1 (by omega)
    · refine z_iload_n C dJ3_checkIndex_8e157_4 rfl ?_
      refine z_iload_n C dJ3_checkIndex_8e157_5 rfl ?_
      refine z_icmp_ltZ (tgt := 16) C dJ3_checkIndex_8e157_6 (by decide) (by omega) (by omega) (fun h6 => ?_) (fun h6 => ?_)
      · refine z_iload_n C dJ3_checkIndex_8e157_16 rfl ?_
        refine z_iret C hQ dJ3_checkIndex_8e157_17 rfl (by decide) (by decide) ?_
        exact ⟨i, rfl, rfl⟩
      · exact absurd h6 (by omega)
set_option maxHeartbeats 4000000 in
set_option maxRecDepth 100000 in
theorem k_T_chk0 {l : Launch} {γ : zG} {M : zM} {i n : Int} (hi : 0 ≤ i ∧ i < n) (hn : n ≤ 500) :
    zCon l γ yJ0_checkIndex_df160 cJ0_checkIndex_df160 2 none [.int (zi i), .int (zi n)] M 1 22 0 0 (fun v' M' => v' = none ∧ M' = M) (fun _ _ => False) := by
  refine zEnter [some (.int (zi i)), some (.int (zi n))] (by decide +kernel) rfl rfl (Nat.le_of_ble_eq_true rfl) ?_
  intro p e s m args below meth c Q C hin hQ
  refine z_iload_n C dJ0_checkIndex_df160_0 rfl ?_
  refine z_iload_n C dJ0_checkIndex_df160_1 rfl ?_
  refine z_sfmt C dJ0_checkIndex_df160_2 (fun v hv => ?_)
  refine z_callS C dJ0_checkIndex_df160_5 lk_J0_1059 mw_J3_checkIndex_8e157 mst_J3_checkIndex_8e157 (k_T_chk hv hi hn) rfl (by first | decide | exact Nat.le_of_ble_eq_true rfl) ⟨by decide, by decide, by decide, by decide⟩ (fun _ _ h => False.elim h) (fun v M' hp => ?_)
  obtain ⟨r5, rfl, rfl⟩ := hp
  refine z_pop C dJ0_checkIndex_df160_8 rfl ?_
  refine z_vret C hQ dJ0_checkIndex_df160_9 (by decide) (by decide) ?_
  exact ⟨rfl, rfl⟩
set_option maxHeartbeats 4000000 in
set_option maxRecDepth 100000 in
theorem k_T_bAt {l : Launch} {γ : zG} {M : zM} {v : Nat} {w : List Int} {i : Int} (hB : hBb γ M v w) (hw : zVw w) (hi : 0 ≤ i ∧ i < w.length) :
    zCon l γ yJ1_charAt_3b067 cJ1_charAt_3b067 2 (some .char) [.ref v, .int (zi i)] M 2 43 0 0 (fun v' M' => v' = some (.int (zi (w.getD i.toNat 0))) ∧ M' = M) (fun _ _ => False) := by
  have hl := hw.1
  have hr := z_and255 (hw.at i.toNat)
  refine zEnter [some (.ref v), some (.int (zi i))] (by decide +kernel) rfl rfl (Nat.le_of_ble_eq_true rfl) ?_
  intro p e s m args below meth c Q C hin hQ
  refine z_iload_n C dJ1_charAt_3b067_0 rfl ?_
  refine z_aload_n C dJ1_charAt_3b067_1 rfl ?_
  refine z_tlen C hB hw dJ1_charAt_3b067_2 ?_
  refine z_callS C dJ1_charAt_3b067_3 lk_J1_9 mw_J0_checkIndex_df160 mst_J0_checkIndex_df160 (k_T_chk0 hi (by omega)) rfl (by first | decide | exact Nat.le_of_ble_eq_true rfl) ⟨by decide, by decide, by decide, by decide⟩ (fun _ _ h => False.elim h) (fun v M' hp => ?_)
  obtain ⟨rfl, rfl⟩ := hp
  refine z_aload_n C dJ1_charAt_3b067_6 rfl ?_
  refine z_iload_n C dJ1_charAt_3b067_7 rfl ?_
  refine z_tbyt C hB hw hi dJ1_charAt_3b067_8 ?_
  refine z_sipush C dJ1_charAt_3b067_9 (by decide) ?_
  refine z_iand C dJ1_charAt_3b067_12 ?_
  rw [hr.1]
  refine z_i2c C dJ1_charAt_3b067_13 ?_
  rw [hr.2.1]
  refine z_iret C hQ dJ1_charAt_3b067_14 hr.2.2 (by decide) (by decide) ?_
  exact ⟨rfl, rfl⟩
set_option maxHeartbeats 4000000 in
set_option maxRecDepth 100000 in
theorem k_T_isLatin1 {l : Launch} {γ : zG} {M : zM} {a v : Nat} {w : List Int} (hS : hSg γ M a v w) :
    zCon l γ yJ0_isLatin1_aae02 cJ0_isLatin1_aae02 1 (some .boolean) [.ref a] M 0 0 0 0 (fun v' M' => v' = some (.int (zi 1)) ∧ M' = M) (fun _ _ => False) := by
  refine zEnter [some (.ref a)] (by decide +kernel) rfl rfl (Nat.le_of_ble_eq_true rfl) ?_
  intro p e s m args below meth c Q C hin hQ
  refine z_com C cm_J0 dJ0_isLatin1_aae02_0 ?_
  refine z_if_eqZ (tgt := 17) C dJ0_isLatin1_aae02_3 (by decide) (by omega) (fun h3 => ?_) (fun h3 => ?_)
  · exact absurd h3 (by decide)
  · refine z_aload_n C dJ0_isLatin1_aae02_6 rfl ?_
    refine z_tcod C hS dJ0_isLatin1_aae02_7 ?_
    refine z_if_neZ (tgt := 17) C dJ0_isLatin1_aae02_10 (by decide) (by omega) (fun h10 => ?_) (fun h10 => ?_)
    · exact absurd rfl h10
    · refine z_iconst C dJ0_isLatin1_aae02_13 ?_
      refine z_goto (tgt := 18) C dJ0_isLatin1_aae02_14 (by decide) ?_
      refine z_iret C hQ dJ0_isLatin1_aae02_18 rfl (by decide) (by decide) ?_
      exact ⟨rfl, rfl⟩
set_option maxHeartbeats 4000000 in
set_option maxRecDepth 100000 in
theorem k_T_charAt {l : Launch} {γ : zG} {M : zM} {a v : Nat} {w : List Int} {i : Int} (hS : hSg γ M a v w) (hi : 0 ≤ i ∧ i < w.length) :
    zCon l γ yJ0_charAt_5068e cJ0_charAt_5068e 2 (some .char) [.ref a, .int (zi i)] M 3 64 0 0 (fun v' M' => v' = some (.int (zi (w.getD i.toNat 0))) ∧ M' = M) (fun _ _ => False) := by
  have hr := z_and255 (hS.1.at i.toNat)
  refine zEnter [some (.ref a), some (.int (zi i))] (by decide +kernel) rfl rfl (Nat.le_of_ble_eq_true rfl) ?_
  intro p e s m args below meth c Q C hin hQ
  refine z_aload_n C dJ0_charAt_5068e_0 rfl ?_
  refine z_callVT C hS dJ0_charAt_5068e_1 lk_J0_492 mw_J0_isLatin1_aae02 mi_J0_isLatin1_aae02 ms_J0_isLatin1_aae02 (k_T_isLatin1 hS) rfl (by first | decide | exact Nat.le_of_ble_eq_true rfl) ⟨by decide, by decide, by decide, by decide⟩ (fun _ _ h => False.elim h) (fun v M' hp => ?_)
  obtain ⟨rfl, rfl⟩ := hp
  refine z_if_eqZ (tgt := 16) C dJ0_charAt_5068e_4 (by decide) (by omega) (fun h4 => ?_) (fun h4 => ?_)
  · exact absurd h4 (by decide)
  · refine z_aload_n C dJ0_charAt_5068e_7 rfl ?_
    refine z_tval C hS dJ0_charAt_5068e_8 ?_
    refine z_iload_n C dJ0_charAt_5068e_11 rfl ?_
    refine z_callS C dJ0_charAt_5068e_12 lk_J0_495 mw_J1_charAt_3b067 mst_J1_charAt_3b067 (k_T_bAt hS.2.1 hS.1 hi) rfl (by first | decide | exact Nat.le_of_ble_eq_true rfl) ⟨by decide, by decide, by decide, by decide⟩ (fun _ _ h => False.elim h) (fun v M' hp => ?_)
    obtain ⟨rfl, rfl⟩ := hp
    refine z_iret C hQ dJ0_charAt_5068e_15 hr.2.2 (by decide) (by decide) ?_
    exact ⟨rfl, rfl⟩
set_option maxHeartbeats 4000000 in
set_option maxRecDepth 100000 in
theorem k_T_coder {l : Launch} {γ : zG} {M : zM} {a v : Nat} {w : List Int} (hS : hSg γ M a v w) :
    zCon l γ yJ0_coder_7d493 cJ0_coder_7d493 1 (some .byte) [.ref a] M 0 0 0 0 (fun v' M' => v' = some (.int (zi 0)) ∧ M' = M) (fun _ _ => False) := by
  refine zEnter [some (.ref a)] (by decide +kernel) rfl rfl (Nat.le_of_ble_eq_true rfl) ?_
  intro p e s m args below meth c Q C hin hQ
  refine z_com C cm_J0 dJ0_coder_7d493_0 ?_
  refine z_if_eqZ (tgt := 13) C dJ0_coder_7d493_3 (by decide) (by omega) (fun h3 => ?_) (fun h3 => ?_)
  · exact absurd h3 (by decide)
  · refine z_aload_n C dJ0_coder_7d493_6 rfl ?_
    refine z_tcod C hS dJ0_coder_7d493_7 ?_
    refine z_goto (tgt := 14) C dJ0_coder_7d493_10 (by decide) ?_
    refine z_iret C hQ dJ0_coder_7d493_14 rfl (by decide) (by decide) ?_
    exact ⟨rfl, rfl⟩
set_option maxHeartbeats 4000000 in
set_option maxRecDepth 100000 in
theorem k_T_length {l : Launch} {γ : zG} {M : zM} {a v : Nat} {w : List Int} (hS : hSg γ M a v w) :
    zCon l γ yJ0_length_8abf5 cJ0_length_8abf5 1 (some .int) [.ref a] M 1 20 0 0 (fun v' M' => v' = some (.int (zi w.length)) ∧ M' = M) (fun _ _ => False) := by
  refine zEnter [some (.ref a)] (by decide +kernel) rfl rfl (Nat.le_of_ble_eq_true rfl) ?_
  intro p e s m args below meth c Q C hin hQ
  refine z_aload_n C dJ0_length_8abf5_0 rfl ?_
  refine z_tval C hS dJ0_length_8abf5_1 ?_
  refine z_tlen C hS.2.1 hS.1 dJ0_length_8abf5_4 ?_
  refine z_aload_n C dJ0_length_8abf5_5 rfl ?_
  refine z_callVT C hS dJ0_length_8abf5_6 lk_J0_335 mw_J0_coder_7d493 mi_J0_coder_7d493 ms_J0_coder_7d493 (k_T_coder hS) rfl (by first | decide | exact Nat.le_of_ble_eq_true rfl) ⟨by decide, by decide, by decide, by decide⟩ (fun _ _ h => False.elim h) (fun v M' hp => ?_)
  obtain ⟨rfl, rfl⟩ := hp
  refine z_ishr0 C dJ0_length_8abf5_9 ?_
  refine z_iret C hQ dJ0_length_8abf5_10 rfl (by decide) (by decide) ?_
  exact ⟨rfl, rfl⟩
set_option maxHeartbeats 4000000 in
set_option maxRecDepth 100000 in
theorem k_T_getBytes {l : Launch} {γ : zG} {M : zM} {a v d m : Nat} {w : List Int} {g : Nat → Int} {dp : Int} (hS : hSg γ M a v w) (hM : M d = some (zba γ m g)) (hdp : 0 ≤ dp) (hm : dp + w.length ≤ m) (hm2 : m ≤ 2000) :
    zCon l γ yJ0_getBytes_840e7 cJ0_getBytes_840e7 4 none [.ref a, .ref d, .int (zi dp), .int (zi 0)] M 2 60 0 0 (fun v' M' => v' = none ∧ ∃ g' : Nat → Int, M' = va_up M d (some (zba γ m g')) ∧ ∀ j : Nat, g' j = if dp ≤ j ∧ (j : Int) < dp + w.length then w.getD (j - dp.toNat) 0 else g j) (fun _ _ => False) := by
  refine zEnter [some (.ref a), some (.ref d), some (.int (zi dp)), some (.int (zi 0))] (by decide +kernel) rfl rfl (Nat.le_of_ble_eq_true rfl) ?_
  intro p e s m args below meth c Q C hin hQ
  refine z_aload_n C dJ0_getBytes_840e7_0 rfl ?_
  refine z_callVT C hS dJ0_getBytes_840e7_1 lk_J0_335 mw_J0_coder_7d493 mi_J0_coder_7d493 ms_J0_coder_7d493 (k_T_coder hS) rfl (by first | decide | exact Nat.le_of_ble_eq_true rfl) ⟨by decide, by decide, by decide, by decide⟩ (fun _ _ h => False.elim h) (fun v M' hp => ?_)
  obtain ⟨rfl, rfl⟩ := hp
  refine z_iload_n C dJ0_getBytes_840e7_4 rfl ?_
  refine z_icmp_neZ (tgt := 28) C dJ0_getBytes_840e7_5 (by decide) (by omega) (by omega) (fun h5 => ?_) (fun h5 => ?_)
  · exact absurd rfl h5
  · refine z_aload_n C dJ0_getBytes_840e7_8 rfl ?_
    refine z_tval C hS dJ0_getBytes_840e7_9 ?_
    refine z_iconst C dJ0_getBytes_840e7_12 ?_
    refine z_aload_n C dJ0_getBytes_840e7_13 rfl ?_
    refine z_iload_n C dJ0_getBytes_840e7_14 rfl ?_
    refine z_iload_n C dJ0_getBytes_840e7_15 rfl ?_
    refine z_ishl0 C dJ0_getBytes_840e7_16 ?_
    refine z_aload_n C dJ0_getBytes_840e7_17 rfl ?_
    refine z_tval C hS dJ0_getBytes_840e7_18 ?_
    refine z_tlen C hS.2.1 hS.1 dJ0_getBytes_840e7_21 ?_
    refine z_tcopy C hS.2.1 hS.1 dJ0_getBytes_840e7_22 t4_101 hM hdp hm (by omega) ⟨by decide, (by first | decide | exact Nat.le_of_ble_eq_true rfl)⟩ (fun g' hg' => ?_)
    refine z_goto (tgt := 43) C dJ0_getBytes_840e7_25 (by decide) ?_
    refine z_vret C hQ dJ0_getBytes_840e7_43 (by decide) (by decide) ?_
    exact ⟨rfl, g', rfl, hg'⟩

