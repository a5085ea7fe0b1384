/-! State: year, readers used, documents used, readers, documents -/
abbrev zDoc : Type := (Nat → Int) × Int × Int
abbrev dSy (X : zDoc) := X.1
abbrev dLe (X : zDoc) := X.2.1
abbrev dYr (X : zDoc) := X.2.2
def hDl (γ : zG) (M : zM) (d r : Nat) (X : zDoc) : Prop := ∃ sy, hDc γ M d r sy (dLe X) (dYr X) ∧ zDk sy (dLe X) ∧ ∀ j : Nat, j < dLe X → sy j = dSy X j
theorem hDl.fr {γ : zG} {M M' : zM} {d r : Nat} {X : zDoc} {S : List Nat} (h : hDl γ M d r X) (q : zFr M M' S) (h1 : d ∉ S) (h2 : r ∉ S) : hDl γ M' d r X := by
  obtain ⟨sy, a, b⟩ := h
  exact ⟨sy, a.fr q h1 h2, b⟩
def dRa (D : Nat → Nat) (i : Nat) : Nat → Nat := fun j => D (3 + 6 * i + j)
/-- the cells of a state: all of its readers and documents, used or not -/
def hSx (γ : zG) (M : zM) (D : Nat → Nat) (rn dn yr : Int) (Rs : Nat → zRdr) (Ds : Nat → zDoc) : Prop := M (D 0) = some (.inr (7, [.ref (D 1), .int (zi rn), .ref (D 2), .int (zi dn), .int (zi yr)])) ∧ M (D 1) = some (zaQ γ 5 4 (fun i => some (D (3 + 6 * i)))) ∧ M (D 2) = some (zaQ γ 6 8 (fun i => some (D (27 + 2 * i)))) ∧ (∀ i, i < 4 → hRd γ M (dRa D i) (Rs i)) ∧ ∀ i, i < 8 → hDl γ M (D (27 + 2 * i)) (D (28 + 2 * i)) (Ds i)
def zInj (D : Nat → Nat) : Prop := ∀ i j, i < 43 → j < 43 → D i = D j → i = j
def zFD (D : Nat → Nat) : List Nat := (List.range 43).map D
theorem zFD_mem (D : Nat → Nat) {j : Nat} (h : j < 43) : D j ∈ zFD D := List.mem_map_of_mem (List.mem_range.mpr h)
theorem zFD_nin {D : Nat → Nat} {b : Nat} (h : ∀ j, j < 43 → D j ≠ b) : b ∉ zFD D := fun q => by
  obtain ⟨j, hj, e⟩ := List.mem_map.mp q
  exact h j (List.mem_range.mp hj) e
theorem zFA_sub (D : Nat → Nat) {i : Nat} (hi : i < 4) : ∀ b, b ∈ zFA (dRa D i) → b ∈ zFD D := fun b hb => by
  simp only [zFA, List.mem_cons, List.not_mem_nil, or_false] at hb
  rcases hb with h | h | h | h | h | h <;> (rw [h]; exact zFD_mem D (by omega))
theorem zI_ne {D : Nat → Nat} (hI : zInj D) {i j : Nat} (hi : i < 43) (hj : j < 43) (h : i ≠ j) : D i ≠ D j := fun q => h (hI i j hi hj q)
/-- a cell that isn't one of reader i's -/
theorem zA_nin {D : Nat → Nat} (hI : zInj D) {i r : Nat} (hi : i < 4) (hr : r < 43) (h : r < 3 + 6 * i ∨ 9 + 6 * i ≤ r) : D r ∉ zFA (dRa D i) := fun hb => by
  simp only [zFA, List.mem_cons, List.not_mem_nil, or_false] at hb
  rcases hb with h | h | h | h | h | h <;> (have := hI _ _ hr (by omega) h; omega)
theorem zD_nin {D : Nat → Nat} (hI : zInj D) {i r : Nat} (hi : i < 8) (hr : r < 43) (h : r ≠ 27 + 2 * i ∧ r ≠ 28 + 2 * i) : D r ∉ [D (27 + 2 * i), D (28 + 2 * i)] := fun hb => by
  simp only [List.mem_cons, List.not_mem_nil, or_false] at hb
  rcases hb with q | q <;> (have := hI _ _ hr (by omega) q; omega)
theorem hSx.fr {γ : zG} {M M' : zM} {D : Nat → Nat} {rn dn yr : Int} {Rs : Nat → zRdr} {Ds : Nat → zDoc} {S : List Nat} (h : hSx γ M D rn dn yr Rs Ds) (f : zFr M M' S) (hS : ∀ j, j < 43 → D j ∉ S) : hSx γ M' D rn dn yr Rs Ds := by
  obtain ⟨h0, h1, h2, h3, h4⟩ := h
  exact ⟨f.at (hS 0 (by omega)) h0, f.at (hS 1 (by omega)) h1, f.at (hS 2 (by omega)) h2, fun i hi => (h3 i hi).fr f fun j hj => hS _ (by omega), fun i hi => (h4 i hi).fr f (hS _ (by omega)) (hS _ (by omega))⟩
theorem hSx.setR {γ : zG} {M M' : zM} {D : Nat → Nat} {rn dn yr : Int} {Rs : Nat → zRdr} {Ds : Nat → zDoc} (h : hSx γ M D rn dn yr Rs Ds) (hI : zInj D) {i : Nat} (hi : i < 4) (f : zFr M M' (zFA (dRa D i))) {R : zRdr} (hR : hRd γ M' (dRa D i) R) : hSx γ M' D rn dn yr (va_up Rs i R) Ds := by
  obtain ⟨h0, h1, h2, h3, h4⟩ := h
  refine ⟨f.at (zA_nin hI hi (by omega) (by omega)) h0, f.at (zA_nin hI hi (by omega) (by omega)) h1, f.at (zA_nin hI hi (by omega) (by omega)) h2, fun j hj => ?_, fun j hj => (h4 j hj).fr f (zA_nin hI hi (by omega) (by omega)) (zA_nin hI hi (by omega) (by omega))⟩
  by_cases e : j = i
  · subst e
    rw [va_up_self]
    exact hR
  · rw [va_up_ne _ _ e]
    exact (h3 j hj).fr f fun q hq => zA_nin hI hi (by omega) (by omega)
theorem hSx.setD {γ : zG} {M M' : zM} {D : Nat → Nat} {rn dn yr : Int} {Rs : Nat → zRdr} {Ds : Nat → zDoc} (h : hSx γ M D rn dn yr Rs Ds) (hI : zInj D) {i : Nat} (hi : i < 8) (f : zFr M M' [D (27 + 2 * i), D (28 + 2 * i)]) {X : zDoc} (hX : hDl γ M' (D (27 + 2 * i)) (D (28 + 2 * i)) X) : hSx γ M' D rn dn yr Rs (va_up Ds i X) := by
  obtain ⟨h0, h1, h2, h3, h4⟩ := h
  refine ⟨f.at (zD_nin hI hi (by omega) (by omega)) h0, f.at (zD_nin hI hi (by omega) (by omega)) h1, f.at (zD_nin hI hi (by omega) (by omega)) h2, fun j hj => (h3 j hj).fr f fun q hq => zD_nin hI hi (by omega) (by omega), fun j hj => ?_⟩
  by_cases e : j = i
  · subst e
    rw [va_up_self]
    exact hX
  · rw [va_up_ne _ _ e]
    exact (h4 j hj).fr f (zD_nin hI hi (by omega) (by omega)) (zD_nin hI hi (by omega) (by omega))
theorem hSx.obj {γ : zG} {M : zM} {D : Nat → Nat} {rn dn yr : Int} {Rs : Nat → zRdr} {Ds : Nat → zDoc} (h : hSx γ M D rn dn yr Rs Ds) (hI : zInj D) (rn' dn' yr' : Int) : hSx γ (va_up M (D 0) (some (.inr (7, [.ref (D 1), .int (zi rn'), .ref (D 2), .int (zi dn'), .int (zi yr')])))) D rn' dn' yr' Rs Ds := by
  have f : zFr M (va_up M (D 0) (some (.inr (7, [.ref (D 1), .int (zi rn'), .ref (D 2), .int (zi dn'), .int (zi yr')])))) [D 0] := zFr.up (by simp)
  have hn : ∀ j, 1 ≤ j → j < 43 → D j ∉ [D 0] := fun j h1 h2 q => by
    have := hI j 0 h2 (by omega) (List.mem_singleton.mp q)
    omega
  obtain ⟨h0, h1, h2, h3, h4⟩ := h
  exact ⟨va_up_self _ _ _, f.at (hn 1 (by omega) (by omega)) h1, f.at (hn 2 (by omega) (by omega)) h2, fun i hi => (h3 i hi).fr f fun j hj => hn _ (by omega) (by omega), fun i hi => (h4 i hi).fr f (hn _ (by omega) (by omega)) (hn _ (by omega) (by omega))⟩
/-- the state as told: year, readers used, documents used, readers, documents -/
abbrev zSt : Type := Int × Int × Int × (Nat → zRdr) × (Nat → zDoc)
abbrev sYr (S : zSt) := S.1
abbrev sRn (S : zSt) := S.2.1
abbrev sDn (S : zSt) := S.2.2.1
abbrev sRd (S : zSt) := S.2.2.2.1
abbrev sDc (S : zSt) := S.2.2.2.2
def hSt (γ : zG) (M : zM) (D : Nat → Nat) (S : zSt) : Prop := ∃ Rs Ds, hSx γ M D (sRn S) (sDn S) (sYr S) Rs Ds ∧ (∀ i : Nat, i < sRn S → Rs i = sRd S i) ∧ ∀ i : Nat, i < sDn S → Ds i = sDc S i
/-- the numbers of a state in their ranges -/
def zNk (S : zSt) : Prop := (0 ≤ sRn S ∧ sRn S ≤ 4) ∧ (0 ≤ sDn S ∧ sDn S ≤ 8) ∧ ∀ i : Nat, i < sRn S → (0 ≤ rNl (sRd S i) ∧ rNl (sRd S i) ≤ 4)
theorem hSt.fr {γ : zG} {M M' : zM} {D : Nat → Nat} {S : zSt} {F : List Nat} (h : hSt γ M D S) (f : zFr M M' F) (hS : ∀ j, j < 43 → D j ∉ F) : hSt γ M' D S := by
  obtain ⟨Rs, Ds, a, b⟩ := h
  exact ⟨Rs, Ds, a.fr f hS, b⟩
theorem hSt.rd {γ : zG} {M : zM} {D : Nat → Nat} {S : zSt} (h : hSt γ M D S) {i : Nat} (hi : i < 4) (h' : i < sRn S) : hRd γ M (dRa D i) (sRd S i) := by
  obtain ⟨Rs, Ds, a, b, -⟩ := h
  rw [← b i h']
  exact a.2.2.2.1 i hi
theorem hSt.dc {γ : zG} {M : zM} {D : Nat → Nat} {S : zSt} (h : hSt γ M D S) {i : Nat} (hi : i < 8) (h' : i < sDn S) : hDl γ M (D (27 + 2 * i)) (D (28 + 2 * i)) (sDc S i) := by
  obtain ⟨Rs, Ds, a, -, b⟩ := h
  rw [← b i h']
  exact a.2.2.2.2 i hi
set_option maxHeartbeats 4000000 in
set_option maxRecDepth 100000 in
theorem k_X7_readerAt {l : Launch} {γ : zG} {M : zM} {D : Nat → Nat} {S : zSt} {i : Int} (hD : hSt γ M D S) (hk : zNk S) (hi : zR i) :
    zCon l γ yX7_readerAt cX7_readerAt 2 (some (.object "TrigramReaders$Reader")) [.ref (D 0), .int (zi i)] M 0 0 0 0 (fun v' M' => M' = M ∧ ((0 ≤ i ∧ i < sRn S) ∧ v' = some (.ref (D (3 + 6 * i.toNat))) ∨ ¬ (0 ≤ i ∧ i < sRn S) ∧ v' = some .null)) (fun _ _ => False) := by
  obtain ⟨Rs, Ds, ⟨h0, h1, -⟩, -⟩ := hD
  obtain ⟨hk, -⟩ := hk
  unfold zR at hi
  refine zEnter [some (.ref (D 0)), some (.int (zi i))] (by decide +kernel) rfl rfl (Nat.le_of_ble_eq_true rfl) ?_
  intro p e s m args below meth c Q C hin hQ
  refine z_iload_n C dX7_readerAt_0 rfl ?_
  refine z_if_ltZ (tgt := 21) C dX7_readerAt_1 (by decide) (by omega) (fun h1 => ?_) (fun h1 => ?_)
  · refine z_null C dX7_readerAt_21 ?_
    refine z_aret C hQ dX7_readerAt_22 (by first | exact Or.inl ⟨_, rfl⟩ | exact Or.inr ⟨_, rfl⟩) (Or.inl rfl) (by decide) (by decide) ?_
    exact ⟨rfl, .inr ⟨by omega, rfl⟩⟩
  · refine z_iload_n C dX7_readerAt_4 rfl ?_
    refine z_aload_n C dX7_readerAt_5 rfl ?_
    refine z_get C dX7_readerAt_6 fl_X7_17 (by first | assumption | ((repeat (first | assumption | exact va_up_self _ _ _ | refine (va_up_ne _ _ (by assumption)).trans ?_)); done) | (simp [va_up, *] <;> rfl)) rfl ?_
    refine z_icmp_geZ (tgt := 21) C dX7_readerAt_9 (by decide) (by omega) (by omega) (fun h9 => ?_) (fun h9 => ?_)
    · refine z_null C dX7_readerAt_21 ?_
      refine z_aret C hQ dX7_readerAt_22 (by first | exact Or.inl ⟨_, rfl⟩ | exact Or.inr ⟨_, rfl⟩) (Or.inl rfl) (by decide) (by decide) ?_
      exact ⟨rfl, .inr ⟨by omega, rfl⟩⟩
    · refine z_aload_n C dX7_readerAt_12 rfl ?_
      refine z_get C dX7_readerAt_13 fl_X7_11 (by first | assumption | ((repeat (first | assumption | exact va_up_self _ _ _ | refine (va_up_ne _ _ (by assumption)).trans ?_)); done) | (simp [va_up, *] <;> rfl)) rfl ?_
      refine z_iload_n C dX7_readerAt_16 rfl ?_
      refine z_aldR C dX7_readerAt_17 (by first | assumption | ((repeat (first | assumption | exact va_up_self _ _ _ | refine (va_up_ne _ _ (by assumption)).trans ?_)); done) | (simp [va_up, *] <;> rfl)) (by decide) (by omega) (by omega) ?_
      refine z_goto (tgt := 22) C dX7_readerAt_18 (by decide) ?_
      refine z_aret C hQ dX7_readerAt_22 (by first | exact Or.inl ⟨_, rfl⟩ | exact Or.inr ⟨_, rfl⟩) (Or.inr ⟨_, rfl⟩) (by decide) (by decide) ?_
      exact ⟨rfl, .inl ⟨by omega, rfl⟩⟩
set_option maxHeartbeats 4000000 in
set_option maxRecDepth 100000 in
theorem k_X7_documentAt {l : Launch} {γ : zG} {M : zM} {D : Nat → Nat} {S : zSt} {i : Int} (hD : hSt γ M D S) (hk : zNk S) (hi : zR i) :
    zCon l γ yX7_documentAt cX7_documentAt 2 (some (.object "TrigramReaders$Document")) [.ref (D 0), .int (zi i)] M 0 0 0 0 (fun v' M' => M' = M ∧ ((0 ≤ i ∧ i < sDn S) ∧ v' = some (.ref (D (27 + 2 * i.toNat))) ∨ ¬ (0 ≤ i ∧ i < sDn S) ∧ v' = some .null)) (fun _ _ => False) := by
  obtain ⟨Rs, Ds, ⟨h0, h1, h2, -⟩, -⟩ := hD
  obtain ⟨-, hk, -⟩ := hk
  unfold zR at hi
  refine zEnter [some (.ref (D 0)), some (.int (zi i))] (by decide +kernel) rfl rfl (Nat.le_of_ble_eq_true rfl) ?_
  intro p e s m args below meth c Q C hin hQ
  refine z_iload_n C dX7_documentAt_0 rfl ?_
  refine z_if_ltZ (tgt := 21) C dX7_documentAt_1 (by decide) (by omega) (fun h1 => ?_) (fun h1 => ?_)
  · refine z_null C dX7_documentAt_21 ?_
    refine z_aret C hQ dX7_documentAt_22 (by first | exact Or.inl ⟨_, rfl⟩ | exact Or.inr ⟨_, rfl⟩) (Or.inl rfl) (by decide) (by decide) ?_
    exact ⟨rfl, .inr ⟨by omega, rfl⟩⟩
  · refine z_iload_n C dX7_documentAt_4 rfl ?_
    refine z_aload_n C dX7_documentAt_5 rfl ?_
    refine z_get C dX7_documentAt_6 fl_X7_27 (by first | assumption | ((repeat (first | assumption | exact va_up_self _ _ _ | refine (va_up_ne _ _ (by assumption)).trans ?_)); done) | (simp [va_up, *] <;> rfl)) rfl ?_
    refine z_icmp_geZ (tgt := 21) C dX7_documentAt_9 (by decide) (by omega) (by omega) (fun h9 => ?_) (fun h9 => ?_)
    · refine z_null C dX7_documentAt_21 ?_
      refine z_aret C hQ dX7_documentAt_22 (by first | exact Or.inl ⟨_, rfl⟩ | exact Or.inr ⟨_, rfl⟩) (Or.inl rfl) (by decide) (by decide) ?_
      exact ⟨rfl, .inr ⟨by omega, rfl⟩⟩
    · refine z_aload_n C dX7_documentAt_12 rfl ?_
      refine z_get C dX7_documentAt_13 fl_X7_23 (by first | assumption | ((repeat (first | assumption | exact va_up_self _ _ _ | refine (va_up_ne _ _ (by assumption)).trans ?_)); done) | (simp [va_up, *] <;> rfl)) rfl ?_
      refine z_iload_n C dX7_documentAt_16 rfl ?_
      refine z_aldR C dX7_documentAt_17 (by first | assumption | ((repeat (first | assumption | exact va_up_self _ _ _ | refine (va_up_ne _ _ (by assumption)).trans ?_)); done) | (simp [va_up, *] <;> rfl)) (by decide) (by omega) (by omega) ?_
      refine z_goto (tgt := 22) C dX7_documentAt_18 (by decide) ?_
      refine z_aret C hQ dX7_documentAt_22 (by first | exact Or.inl ⟨_, rfl⟩ | exact Or.inr ⟨_, rfl⟩) (Or.inr ⟨_, rfl⟩) (by decide) (by decide) ?_
      exact ⟨rfl, .inl ⟨by omega, rfl⟩⟩
/-- reader i has the name in the bytes from b to e -/
def hNa (S : zSt) (f : Nat → Int) (n b e : Int) (i : Nat) : Prop := e - b = rNl (sRd S i) ∧ hIs (rNm (sRd S i)) (rNl (sRd S i)) f n b (rNl (sRd S i))
set_option maxHeartbeats 4000000 in
set_option maxRecDepth 100000 in
theorem k_X7_readerNamed {l : Launch} {γ : zG} {M : zM} {D : Nat → Nat} {S : zSt} {ta tr : Nat} {f : Nat → Int} {n b e0 : Int} (hD : hSt γ M D S) (hk : zNk S) (hT : hBy γ M ta tr f n) (hO : hBo f n) (hb : 0 ≤ b ∧ b ≤ 500 ∧ 0 ≤ e0 ∧ e0 ≤ 500) :
    zCon l γ yX7_readerNamed cX7_readerNamed 5 (some (.object "TrigramReaders$Reader")) [.ref (D 0), .ref ta, .int (zi b), .int (zi e0)] M 2 46 0 0 (fun v' M' => M' = M ∧ ((∃ i : Nat, i < sRn S ∧ v' = some (.ref (D (3 + 6 * i))) ∧ hNa S f n b e0 i ∧ ∀ j, j < i → ¬ hNa S f n b e0 j) ∨ v' = some .null ∧ ∀ j : Nat, j < sRn S → ¬ hNa S f n b e0 j)) (fun _ _ => False) := by
  have hrd := fun i hi h' => @hSt.rd γ M D S hD i hi h'
  obtain ⟨Rs, Ds, ⟨h0, h1, -⟩, -⟩ := hD
  obtain ⟨hk, -, hk2⟩ := hk
  refine zEnter [some (.ref (D 0)), some (.ref ta), some (.int (zi b)), some (.int (zi e0)), none] (by decide +kernel) rfl rfl (Nat.le_of_ble_eq_true rfl) ?_
  intro p e s m args below meth c Q C hin hQ
  have loop : ∀ (t : Nat) (i : Int), 0 ≤ i ∧ i ≤ sRn S ∧ sRn S - i = t → (∀ j : Nat, j < i → ¬ hNa S f n b e0 j) → zAW p l e { frames := 2, cells := 0, slots := 0, locals := 46 } s m args below meth c γ 5 Q M 0 0 3 [some (.ref (D 0)), some (.ref ta), some (.int (zi b)), some (.int (zi e0)), some (.int (zi i))] [] := by
    intro t
    induction t with
    | zero =>
      intro i hi hno
      refine z_iload C dX7_readerNamed_3 rfl ?_
      refine z_aload_n C dX7_readerNamed_5 rfl ?_
      refine z_get C dX7_readerNamed_6 fl_X7_17 (by first | assumption | ((repeat (first | assumption | exact va_up_self _ _ _ | refine (va_up_ne _ _ (by assumption)).trans ?_)); done) | (simp [va_up, *] <;> rfl)) rfl ?_
      refine z_icmp_geZ (tgt := 48) C dX7_readerNamed_9 (by decide) (by omega) (by omega) (fun h9 => ?_) (fun h9 => ?_)
      · refine z_null C dX7_readerNamed_48 ?_
        refine z_aret C hQ dX7_readerNamed_49 (by first | exact Or.inl ⟨_, rfl⟩ | exact Or.inr ⟨_, rfl⟩) (Or.inl rfl) (by decide) (by decide) ?_
        exact ⟨rfl, .inr ⟨rfl, fun j hj => hno j (by omega)⟩⟩
      · exact absurd h9 (by omega)
    | succ t ih =>
      intro i hi hno
      have hR := hrd i.toNat (by omega) (by omega)
      have ob := hR.1
      refine z_iload C dX7_readerNamed_3 rfl ?_
      refine z_aload_n C dX7_readerNamed_5 rfl ?_
      refine z_get C dX7_readerNamed_6 fl_X7_17 (by first | assumption | ((repeat (first | assumption | exact va_up_self _ _ _ | refine (va_up_ne _ _ (by assumption)).trans ?_)); done) | (simp [va_up, *] <;> rfl)) rfl ?_
      refine z_icmp_geZ (tgt := 48) C dX7_readerNamed_9 (by decide) (by omega) (by omega) (fun h9 => ?_) (fun h9 => ?_)
      · exact absurd h9 (by omega)
      · refine z_iload C dX7_readerNamed_12 rfl ?_
        refine z_iconst C dX7_readerNamed_14 ?_
        refine z_icmp_geZ (tgt := 48) C dX7_readerNamed_15 (by decide) (by omega) (by omega) (fun h15 => ?_) (fun h15 => ?_)
        · exact absurd h15 (by omega)
        · refine z_aload_n C dX7_readerNamed_18 rfl ?_
          refine z_get C dX7_readerNamed_19 fl_X7_11 (by first | assumption | ((repeat (first | assumption | exact va_up_self _ _ _ | refine (va_up_ne _ _ (by assumption)).trans ?_)); done) | (simp [va_up, *] <;> rfl)) rfl ?_
          refine z_iload C dX7_readerNamed_22 rfl ?_
          refine z_aldR C dX7_readerNamed_24 (by first | assumption | ((repeat (first | assumption | exact va_up_self _ _ _ | refine (va_up_ne _ _ (by assumption)).trans ?_)); done) | (simp [va_up, *] <;> rfl)) (by decide) (by omega) (by omega) ?_
          refine z_aload_n C dX7_readerNamed_25 rfl ?_
          refine z_iload_n C dX7_readerNamed_26 rfl ?_
          refine z_iload_n C dX7_readerNamed_27 rfl ?_
          refine z_callV C dX7_readerNamed_28 lk_X7_42 mw_X6_isNamed mi_X6_isNamed ms_X6_isNamed rfl ob (k_X6_isNamed hR (hk2 i.toNat (by omega)) hT hO hb) rfl (by first | decide | exact Nat.le_of_ble_eq_true rfl) ⟨by decide, by decide, by decide, by decide⟩ (fun _ _ h => False.elim h) (fun v M' hp => ?_)
          obtain ⟨r28, rfl, rfl, hr28⟩ := hp
          have hz28 := hr28.rng
          refine z_if_eqZ (tgt := 42) C dX7_readerNamed_31 (by decide) (by omega) (fun h31 => ?_) (fun h31 => ?_)
          · refine z_iincZ C dX7_readerNamed_42 rfl (by decide) ?_
            refine z_goto (tgt := 3) C dX7_readerNamed_45 (by decide) ?_
            refine ih (i + 1) (by omega) fun j hj => ?_
            by_cases e : j = i.toNat
            · subst e
              exact hr28.f h31
            · exact hno j (by omega)
          · refine z_aload_n C dX7_readerNamed_34 rfl ?_
            refine z_get C dX7_readerNamed_35 fl_X7_11 (by first | assumption | ((repeat (first | assumption | exact va_up_self _ _ _ | refine (va_up_ne _ _ (by assumption)).trans ?_)); done) | (simp [va_up, *] <;> rfl)) rfl ?_
            refine z_iload C dX7_readerNamed_38 rfl ?_
            refine z_aldR C dX7_readerNamed_40 (by first | assumption | ((repeat (first | assumption | exact va_up_self _ _ _ | refine (va_up_ne _ _ (by assumption)).trans ?_)); done) | (simp [va_up, *] <;> rfl)) (by decide) (by omega) (by omega) ?_
            refine z_aret C hQ dX7_readerNamed_41 (by first | exact Or.inl ⟨_, rfl⟩ | exact Or.inr ⟨_, rfl⟩) (Or.inr ⟨_, rfl⟩) (by decide) (by decide) ?_
            exact ⟨rfl, .inl ⟨i.toNat, by omega, rfl, hr28.t h31, fun j hj => hno j (by omega)⟩⟩
  refine z_iconst C dX7_readerNamed_0 ?_
  refine z_istore C dX7_readerNamed_1 (by decide) ?_
  exact loop (sRn S).toNat 0 (by omega) (fun j hj => by omega)

