/-! what a state holds, what the calls do to it -/
noncomputable def zif {α : Type} (P : Prop) (a b : α) : α := @ite α P (Classical.propDecidable P) a b
theorem zif_t {α : Type} {P : Prop} {a b : α} (h : P) : zif P a b = a := by
  unfold zif
  exact if_pos h
theorem zif_f {α : Type} {P : Prop} {a b : α} (h : ¬ P) : zif P a b = b := by
  unfold zif
  exact if_neg h
/-- the keys of a document, but those of order 0 -/
def zKd (sy : Nat → Int) : List Int := (List.range 39).map (fun j => 27 + sy j * 27 + sy (j + 1)) ++ (List.range 38).map fun j => 756 + (sy j * 27 + sy (j + 1)) * 27 + sy (j + 2)
def zGk (Ds : Nat → zDoc) : Nat → List Int
  | 0 => (List.range 27).map fun j => ((j : Nat) : Int)
  | m + 1 => zKd (dSy (Ds m)) ++ zGk Ds m
theorem zGk_len (Ds : Nat → zDoc) : ∀ m : Nat, (zGk Ds m).length = 27 + 77 * m
  | 0 => by simp [zGk]
  | m + 1 => by
    show (zKd _ ++ zGk Ds m).length = _
    rw [List.length_append, zGk_len Ds m]
    simp [zKd]
    omega
theorem zGk_0 (Ds : Nat → zDoc) {x : Int} (h : 0 ≤ x ∧ x < 27) : ∀ m : Nat, x ∈ zGk Ds m
  | 0 => List.mem_map.mpr ⟨x.toNat, List.mem_range.mpr (by omega), by omega⟩
  | m + 1 => List.mem_append_right _ (zGk_0 Ds h m)
theorem zGk_at (Ds : Nat → zDoc) {x : Int} {i : Nat} (h : x ∈ zKd (dSy (Ds i))) : ∀ m : Nat, i < m → x ∈ zGk Ds m
  | m + 1, hi => by
    by_cases e : i = m
    · subst e
      exact List.mem_append_left _ h
    · exact List.mem_append_right _ (zGk_at Ds h m (by omega))
theorem zGk_cg {Ds Es : Nat → zDoc} : ∀ m : Nat, (∀ i, i < m → Ds i = Es i) → zGk Ds m = zGk Es m
  | 0, _ => rfl
  | m + 1, h => by
    show zKd _ ++ zGk Ds m = zKd _ ++ zGk Es m
    rw [h m (by omega), zGk_cg m fun i hi => h i (by omega)]
/-- a sound document -/
def zDok (X : zDoc) : Prop := (1 ≤ dLe X ∧ dLe X ≤ 40) ∧ ∀ j : Nat, j < dLe X → 0 ≤ dSy X j ∧ dSy X j < 27
/-- a sound reader -/
def zRok (R : zRdr) : Prop := (0 ≤ rMe R ∧ rMe R ≤ 2) ∧ (1 ≤ rNl R ∧ rNl R ≤ 4) ∧ zcR (rC R) ∧ ∀ j : Nat, j < rNl R → zLet (rNm R j)
def zRki (R : zRdr) (G : List Int) : Prop := ∀ k, rC R k ≠ 0 → k ∈ G
/-- a sound state -/
def zOk (S : zSt) : Prop := ((0 ≤ sRn S ∧ sRn S ≤ 4) ∧ (0 ≤ sDn S ∧ sDn S ≤ 8)) ∧ (∀ i : Nat, i < sDn S → zDok (sDc S i)) ∧ ∀ i : Nat, i < sRn S → zRok (sRd S i) ∧ zRki (sRd S i) (zGk (sDc S) (sDn S).toNat)
theorem zOk.nk {S : zSt} (h : zOk S) : zNk S := ⟨h.1.1, h.1.2, fun i hi => by
  have := (h.2.2 i hi).1.2.1
  omega⟩
theorem zGk_643 (Ds : Nat → zDoc) {n : Int} (h : 0 ≤ n ∧ n ≤ 8) : (zGk Ds n.toNat).length ≤ 643 := by
  rw [zGk_len]
  omega
theorem zOk.rm {S : zSt} (h : zOk S) {i : Nat} (hi : i < sRn S) : hRm (zGk (sDc S) (sDn S).toNat) (rC (sRd S i)) := ⟨zGk_643 _ h.1.2, (h.2.2 i hi).2⟩
theorem hAt_cg {f g : Nat → Int} {n : Int} (h : ∀ j : Nat, j < n → f j = g j) (i : Int) : hAt f n i = hAt g n i := by
  unfold hAt
  split
  · exact h _ (by omega)
  · rfl
theorem hAt_in {f : Nat → Int} {n i : Int} (h : 0 ≤ i ∧ i < n) : hAt f n i = f i.toNat := if_pos h
theorem hAt_out {f : Nat → Int} {n i : Int} (h : ¬ (0 ≤ i ∧ i < n)) : hAt f n i = -1 := if_neg h
theorem hKy_of {Ds : Nat → zDoc} {m i : Nat} (hi : i < m) (hk : zDok (Ds i)) {sy : Nat → Int} (hv : ∀ j : Nat, j < dLe (Ds i) → sy j = dSy (Ds i) j) : hKy (zGk Ds m) sy (dLe (Ds i)) := by
  intro q q1 q2 o o1 o2
  obtain ⟨hl, hs⟩ := hk
  have h0 := hs q.toNat (by omega)
  rw [hAt_cg hv q, hAt_in ⟨q1, q2⟩]
  rw [hAt_cg hv (q - 1), hAt_cg hv (q - 2)] at o2 ⊢
  generalize hL : dLe (Ds i) = L at *
  unfold zCs
  by_cases e0 : o = 0
  · rw [if_pos e0]
    exact zGk_0 Ds (by omega) m
  rw [if_neg e0]
  unfold zFo at o2
  by_cases e1 : 0 ≤ q - 1
  · have h1 := hs (q - 1).toNat (by omega)
    rw [hAt_in (i := q - 1) (by omega)] at o2 ⊢
    rw [if_neg (by omega)] at o2
    by_cases e2 : o = 1
    · rw [if_pos e2]
      refine zGk_at Ds (List.mem_append_left _ (List.mem_map.mpr ⟨(q - 1).toNat, List.mem_range.mpr (by omega), ?_⟩)) m hi
      show 27 + dSy (Ds i) (q - 1).toNat * 27 + dSy (Ds i) ((q - 1).toNat + 1) = _
      rw [show (q - 1).toNat + 1 = q.toNat by omega]
    · rw [if_neg e2]
      by_cases e3 : 0 ≤ q - 2
      · rw [hAt_in (i := q - 2) (by omega)]
        refine zGk_at Ds (List.mem_append_right _ (List.mem_map.mpr ⟨(q - 2).toNat, List.mem_range.mpr (by omega), ?_⟩)) m hi
        show 756 + (dSy (Ds i) (q - 2).toNat * 27 + dSy (Ds i) ((q - 2).toNat + 1)) * 27 + dSy (Ds i) ((q - 2).toNat + 2) = _
        rw [show (q - 2).toNat + 1 = (q - 1).toNat by omega, show (q - 2).toNat + 2 = q.toNat by omega]
      · rw [hAt_out (i := q - 2) (by omega), if_pos rfl] at o2
        omega
  · rw [hAt_out (i := q - 1) (by omega), if_pos rfl] at o2
    omega
theorem zlrn_rng {c : Int → Int} (h : zcR c) (b p s : Int) : zcR (zlrn c b p s) := by
  have ad : ∀ (c : Int → Int) (k : Int), zcR c → zcR (zadd c k 1) := fun c k h x => by
    have := h x
    unfold zadd
    split <;> omega
  have lt : ∀ (t : Nat) (c : Int → Int), zcR c → zcR (zlt b p s t c) := fun t => by
    induction t with
    | zero => exact fun c h => h
    | succ t ih => exact fun c h => ih _ (ad c _ h)
  exact lt _ c h
theorem zldn_rng {sy : Nat → Int} {len : Int} {c : Int → Int} (h : zcR c) : ∀ i : Nat, zcR (zldn sy len c i)
  | 0 => h
  | i + 1 => zlrn_rng (zldn_rng h i) _ _ _
theorem zldn_cg {sy sy' : Nat → Int} {len : Int} {c : Int → Int} (h : ∀ j : Nat, j < len → sy j = sy' j) : ∀ i : Nat, zldn sy len c i = zldn sy' len c i
  | 0 => rfl
  | i + 1 => by
    show zlrn (zldn sy len c i) _ _ _ = zlrn (zldn sy' len c i) _ _ _
    rw [zldn_cg h i, hAt_cg h, hAt_cg h, hAt_cg h]
/-- the counts after training on a document -/
def zdoc (c : Int → Int) (X : zDoc) : Int → Int := zldn (dSy X) (dLe X) c (dLe X).toNat
def rSetC (R : zRdr) (c : Int → Int) : zRdr := (rNm R, rNl R, rMe R, c, rTr R, rTm R)
def rTrn (R : zRdr) (d : Int) (X : zDoc) : zRdr := rRec (rSetC R (zdoc (rC R) X)) d (dLe X)
/-- another reader in its place -/
def sSetR (S : zSt) (i : Nat) (R : zRdr) : zSt := (sYr S, sRn S, sDn S, va_up (sRd S) i R, sDc S)
theorem zOk.setR {S : zSt} (h : zOk S) {i : Nat} {R : zRdr} (h1 : zRok R) (h2 : zRki R (zGk (sDc S) (sDn S).toNat)) : zOk (sSetR S i R) := ⟨h.1, h.2.1, fun j hj => by
  show zRok (va_up (sRd S) i R j) ∧ zRki (va_up (sRd S) i R j) _
  unfold va_up
  split
  · exact ⟨h1, h2⟩
  · exact h.2.2 j hj⟩
theorem zOk.trn {S : zSt} (h : zOk S) {i d : Nat} (hi : i < sRn S) (hd : d < sDn S) (q : Int) : zRok (rTrn (sRd S i) q (sDc S d)) ∧ zRki (rTrn (sRd S i) q (sDc S d)) (zGk (sDc S) (sDn S).toNat) := by
  obtain ⟨⟨a1, a2, a3, a4⟩, a5⟩ := h.2.2 i hi
  have hk := hKy_of (m := (sDn S).toNat) (by omega) (h.2.1 d hd) (sy := dSy (sDc S d)) (fun _ _ => rfl)
  exact ⟨⟨a1, a2, zldn_rng a3 _, a4⟩, ((h.rm hi).ldn hk (dLe (sDc S d)).toNat (by have := (h.2.1 d hd).1; omega)).2⟩
theorem zOk.addR {S : zSt} (h : zOk S) (hn : sRn S < 4) {R : zRdr} (h1 : zRok R) (h2 : rC R = fun _ => 0) : zOk (sAddR S R) := by
  obtain ⟨⟨a1, a2⟩, b, c⟩ := h
  refine ⟨⟨⟨?_, ?_⟩, a2⟩, b, fun j hj => ?_⟩
  · show 0 ≤ sRn S + 1
    omega
  · show sRn S + 1 ≤ 4
    omega
  · have hj : (j : Int) < sRn S + 1 := hj
    show zRok (va_up (sRd S) (sRn S).toNat R j) ∧ zRki (va_up (sRd S) (sRn S).toNat R j) _
    unfold va_up
    split
    · exact ⟨h1, fun k hk => absurd (by rw [h2]) hk⟩
    · exact c j (by omega)
theorem zOk.addD {S : zSt} (h : zOk S) (hn : sDn S < 8) {X : zDoc} (h1 : zDok X) : zOk (sAddD S X) := by
  obtain ⟨⟨a1, a2⟩, b, c⟩ := h
  refine ⟨⟨a1, ⟨?_, ?_⟩⟩, fun j hj => ?_, fun j hj => ⟨(c j hj).1, fun k hk => ?_⟩⟩
  · show 0 ≤ sDn S + 1
    omega
  · show sDn S + 1 ≤ 8
    omega
  · have hj : (j : Int) < sDn S + 1 := hj
    show zDok (va_up (sDc S) (sDn S).toNat X j)
    unfold va_up
    split
    · exact h1
    · exact b j (by omega)
  · have q := (c j hj).2 k hk
    show k ∈ zGk (va_up (sDc S) (sDn S).toNat X) (sDn S + 1).toNat
    rw [show (sDn S + 1).toNat = (sDn S).toNat + 1 by omega]
    refine List.mem_append_right _ ?_
    rw [zGk_cg (Es := sDc S) _ fun i hi => va_up_ne _ _ (by omega)]
    exact q
theorem zOk.year {S : zSt} (h : zOk S) : zOk (sYear S) := ⟨h.1, h.2.1, fun j hj => by
  obtain ⟨⟨a1, a2, a3, a4⟩, a5⟩ := h.2.2 j hj
  refine ⟨⟨a1, a2, fun x => ?_, a4⟩, fun k hk => a5 k fun q => hk ?_⟩
  · have := a3 x
    show 0 ≤ rC (sRd S j) x / 2 ∧ rC (sRd S j) x / 2 ≤ 999
    omega
  · show rC (sRd S j) k / 2 = 0
    rw [q]
    rfl⟩
theorem zOk.clr {S : zSt} : zOk (sClr S) := ⟨by
  show ((0 : Int) ≤ 0 ∧ (0 : Int) ≤ 4) ∧ ((0 : Int) ≤ 0 ∧ (0 : Int) ≤ 8)
  omega, fun j (hj : (j : Int) < 0) => by omega, fun j (hj : (j : Int) < 0) => by omega⟩
/-- a cell of a state is there -/
theorem hSt.dom {γ : zG} {M : zM} {D : Nat → Nat} {S : zSt} (h : hSt γ M D S) : ∀ j, j < 43 → ∃ x, M (D j) = some x := by
  obtain ⟨Rs, Ds, ⟨h0, h1, h2, h3, h4⟩, -⟩ := h
  intro j hj
  have rd : ∀ i, i < 4 → ∀ q, q < 6 → ∃ x, M (D (3 + 6 * i + q)) = some x := fun i hi q hq => by
    obtain ⟨b0, ⟨g1, b1, -⟩, ⟨-, n, ks, vs, ⟨b2, b3, b4⟩, -⟩, g5, b5, -⟩ := h3 i hi
    rcases (show q = 0 ∨ q = 1 ∨ q = 2 ∨ q = 3 ∨ q = 4 ∨ q = 5 by omega) with e | e | e | e | e | e <;> subst e
    · exact ⟨_, b0⟩
    · exact ⟨_, b1⟩
    · exact ⟨_, b2⟩
    · exact ⟨_, b3⟩
    · exact ⟨_, b4⟩
    · exact ⟨_, b5⟩
  by_cases e : j < 3
  · rcases (show j = 0 ∨ j = 1 ∨ j = 2 by omega) with e | e | e <;> subst e
    · exact ⟨_, h0⟩
    · exact ⟨_, h1⟩
    · exact ⟨_, h2⟩
  · by_cases e1 : j < 27
    · have := rd ((j - 3) / 6) (by omega) ((j - 3) % 6) (by omega)
      rw [show 3 + 6 * ((j - 3) / 6) + (j - 3) % 6 = j by omega] at this
      exact this
    · obtain ⟨sy, b, -⟩ := h4 ((j - 27) / 2) (by omega)
      rcases (show (j - 27) % 2 = 0 ∨ (j - 27) % 2 = 1 by omega) with e2 | e2
      · have := b.1
        rw [show 27 + 2 * ((j - 27) / 2) = j by omega] at this
        exact ⟨_, this⟩
      · have := b.2
        rw [show 28 + 2 * ((j - 27) / 2) = j by omega] at this
        exact ⟨_, this⟩
theorem hSt.nin {γ : zG} {M : zM} {D : Nat → Nat} {S : zSt} (h : hSt γ M D S) {b : Nat} (hb : M b = none) : b ∉ zFD D := zFD_nin fun j hj q => by
  obtain ⟨x, hx⟩ := h.dom j hj
  rw [q, hb] at hx
  cases hx
/-- the cells of another class or size aren't a state's -/
theorem hSt.nob {γ : zG} {M : zM} {D : Nat → Nat} {S : zSt} (h : hSt γ M D S) {b c : Nat} {fs : List Value} (hb : M b = some (.inr (c, fs))) (hc : c ≠ 7 ∧ c ≠ 6 ∧ c ≠ 3 ∧ c ≠ 2) : b ∉ zFD D := by
  obtain ⟨Rs, Ds, ⟨h0, h1, h2, h3, h4⟩, -⟩ := h
  have rd : ∀ i, i < 4 → ∀ q, q < 6 → D (3 + 6 * i + q) ≠ b := fun i hi q hq => by
    obtain ⟨b0, ⟨g1, b1, -⟩, ⟨-, n, ks, vs, ⟨b2, b3, b4⟩, -⟩, g5, b5, -⟩ := h3 i hi
    rcases (show q = 0 ∨ q = 1 ∨ q = 2 ∨ q = 3 ∨ q = 4 ∨ q = 5 by omega) with e | e | e | e | e | e <;> subst e
    · exact zne_kk b0 hb (fun q => hc.2.1 q.symm)
    · exact (zne_ka hb b1).symm
    · exact zne_kk b2 hb (fun q => hc.2.2.2 q.symm)
    · exact (zne_ka hb b3).symm
    · exact (zne_ka hb b4).symm
    · exact (zne_ka hb b5).symm
  refine zFD_nin fun j hj => ?_
  by_cases e : j < 3
  · rcases (show j = 0 ∨ j = 1 ∨ j = 2 by omega) with e | e | e <;> subst e
    · exact zne_kk h0 hb (fun q => hc.1 q.symm)
    · exact (zne_ka hb h1).symm
    · exact (zne_ka hb h2).symm
  · by_cases e1 : j < 27
    · have := rd ((j - 3) / 6) (by omega) ((j - 3) % 6) (by omega)
      rw [show 3 + 6 * ((j - 3) / 6) + (j - 3) % 6 = j by omega] at this
      exact this
    · obtain ⟨sy, b', -⟩ := h4 ((j - 27) / 2) (by omega)
      rcases (show (j - 27) % 2 = 0 ∨ (j - 27) % 2 = 1 by omega) with e2 | e2
      · have := zne_kk b'.1 hb (fun q => hc.2.2.1 q.symm)
        rw [show 27 + 2 * ((j - 27) / 2) = j by omega] at this
        exact this
      · have := (zne_ka hb b'.2).symm
        rw [show 28 + 2 * ((j - 27) / 2) = j by omega] at this
        exact this
theorem hSt.setR {γ : zG} {M M' : zM} {D : Nat → Nat} {S : zSt} (h : hSt γ M D S) (hI : zInj D) {i : Nat} (hi : i < 4) (f : zFr M M' (zFA (dRa D i))) {R : zRdr} (hR : hRd γ M' (dRa D i) R) : hSt γ M' D (sSetR S i R) := by
  obtain ⟨Rs, Ds, h1, h2, h3⟩ := h
  refine ⟨va_up Rs i R, Ds, h1.setR hI hi f hR, fun j hj => ?_, h3⟩
  show va_up Rs i R j = va_up (sRd S) i R j
  unfold va_up
  split
  · rfl
  · exact h2 j hj

