/-! the face: an object of the class with all that it holds -/
/-- the cells of a face: 0 the object, 1 past, 2 slots, 3 slotUsed, 4 5 input, 6 7 output, 8 9 10 trial, 11 12 13 ranking, 14 chance, 15 decodedRanks, from 16 on twelve states of 43 cells: state, loaded, past, slots -/
def zIU (U : Nat → Nat) : Prop := ∀ i j, i < 532 → j < 532 → U i = U j → i = j
def zFU (U : Nat → Nat) : List Nat := (List.range 532).map U
abbrev zUb (U : Nat → Nat) (k : Nat) : Nat → Nat := fun j => U (16 + 43 * k + j)
theorem zIU.b {U : Nat → Nat} (h : zIU U) {k : Nat} (hk : k < 12) : zInj (zUb U k) := fun i j hi hj q => by
  have := h (16 + 43 * k + i) (16 + 43 * k + j) (by omega) (by omega) q
  omega
theorem zU_in (U : Nat → Nat) {i : Nat} (h : i < 532) : U i ∈ zFU U := zRm.mpr ⟨i, h, rfl⟩
theorem zUs {U : Nat → Nat} {L : List Nat} (h : ∀ i ∈ L, i < 532) : ∀ b ∈ L.map U, b ∈ zFU U := fun b hb => by
  obtain ⟨i, h1, h2⟩ := List.mem_map.mp hb
  rw [← h2]
  exact zU_in U (h i h1)
theorem zUbs (U : Nat → Nat) {k : Nat} (hk : k < 12) : ∀ b ∈ zFD (zUb U k), b ∈ zFU U := fun b hb => by
  obtain ⟨j, h1, h2⟩ := zRm.mp hb
  rw [← h2]
  exact zU_in U (by omega)
theorem zUn {U : Nat → Nat} (hI : zIU U) {a : Nat} {L : List Nat} (ha : a < 532) (hL : ∀ i ∈ L, i < 532) (h : a ∉ L) : U a ∉ L.map U := fun q => by
  obtain ⟨i, h1, h2⟩ := List.mem_map.mp q
  have := hI i a (hL i h1) ha h2
  exact h (this ▸ h1)
/-- a cell ahead of 16 isn't a state's -/
theorem zUd {U : Nat → Nat} (hI : zIU U) {a k : Nat} (ha : a < 16) (hk : k < 12) : U a ∉ zFD (zUb U k) := fun q => by
  obtain ⟨j, h1, h2⟩ := zRm.mp q
  have := hI _ a (by omega) (by omega) h2
  omega
theorem zUk {U : Nat → Nat} (hI : zIU U) {k k' : Nat} (hk : k < 12) (hk' : k' < 12) (h : k' ≠ k) : ∀ j, j < 43 → zUb U k' j ∉ zFD (zUb U k) := fun j hj q => by
  obtain ⟨j', h1, h2⟩ := zRm.mp q
  have := hI (16 + 43 * k + j') (16 + 43 * k' + j) (by omega) (by omega) h2
  omega
theorem zUc {U : Nat → Nat} (hI : zIU U) {k : Nat} (hk : k < 12) {L : List Nat} (hL : ∀ i ∈ L, i < 16) : ∀ j, j < 43 → zUb U k j ∉ L.map U := fun j hj => zUn hI (by omega) (fun i hi => by have := hL i hi; omega) fun q => by
  have := hL _ q
  omega
def hFo (γ : zG) (M : zM) (U : Nat → Nat) (pn cnt ec ep : Int) : Prop := M (U 0) = some (.inr (8, [.ref (U 16), .ref (U 59), .ref (U 1), .int (zi pn), .int (zi cnt), .ref (U 2), .ref (U 3), .ref (U 4), .ref (U 6), .int (zi ec), .int (zi ep), .ref (U 8), .ref (U 11), .ref (U 14), .ref (U 15)]))
def hFx (γ : zG) (M : zM) (U : Nat → Nat) (us : Nat → Int) (iF : Nat → Int) (iN : Int) (oF : Nat → Int) (oN : Int) (Z : Nat → zSt) : Prop := M (U 1) = some (zaQ γ 7 8 (fun i => some (U (16 + 43 * (2 + i))))) ∧ M (U 2) = some (zaQ γ 7 2 (fun i => some (U (16 + 43 * (10 + i))))) ∧ M (U 3) = some (zaZ γ 2 (fun j => zi (us j))) ∧ (hBy γ M (U 4) (U 5) iF iN ∧ hBo iF iN) ∧ (hBy γ M (U 6) (U 7) oF oN ∧ hBo oF oN) ∧ (∃ c, hCn γ M (U 8) (U 9) (U 10) c) ∧ hRq γ M (U 11) (U 12) (U 13) ∧ (∃ T B E mk, hCh γ M (U 14) T B E mk) ∧ (∃ g, M (U 15) = some (zar γ 40 g) ∧ ∀ j, zR (g j)) ∧ ∀ k, k < 12 → hSt γ M (zUb U k) (Z k)
theorem hFx.obj {γ : zG} {M M' : zM} {U : Nat → Nat} {us : Nat → Int} {iF : Nat → Int} {iN : Int} {oF : Nat → Int} {oN : Int} {Z : Nat → zSt}  (h : hFx γ M U us iF iN oF oN Z) (hI : zIU U) (f : zFr M M' ([0].map U))  : hFx γ M' U us iF iN oF oN Z := by
  obtain ⟨h0, h1, h2, h3, h4, h5, h6, h7, h8, h9⟩ := h
  exact ⟨f.at (zUn hI (by omega) (by decide) (by decide)) h0, f.at (zUn hI (by omega) (by decide) (by decide)) h1, f.at (zUn hI (by omega) (by decide) (by decide)) h2, ⟨h3.1.fr f (zUn hI (by omega) (by decide) (by decide)) (zUn hI (by omega) (by decide) (by decide)), h3.2⟩, ⟨h4.1.fr f (zUn hI (by omega) (by decide) (by decide)) (zUn hI (by omega) (by decide) (by decide)), h4.2⟩, h5.elim fun c h => ⟨c, h.fr f (zUn hI (by omega) (by decide) (by decide)) (zUn hI (by omega) (by decide) (by decide)) (zUn hI (by omega) (by decide) (by decide))⟩, h6.fr f (zUn hI (by omega) (by decide) (by decide)) (zUn hI (by omega) (by decide) (by decide)) (zUn hI (by omega) (by decide) (by decide)), (by obtain ⟨T, B, E, mk, h⟩ := h7; exact ⟨T, B, E, mk, f.at (zUn hI (by omega) (by decide) (by decide)) h⟩), h8.elim fun g h => ⟨g, f.at (zUn hI (by omega) (by decide) (by decide)) h.1, h.2⟩, fun k hk => (h9 k hk).fr f (zUc hI hk (by decide))⟩
theorem hFx.us {γ : zG} {M M' : zM} {U : Nat → Nat} {us : Nat → Int} {iF : Nat → Int} {iN : Int} {oF : Nat → Int} {oN : Int} {Z : Nat → zSt} {us' : Nat → Int} (h : hFx γ M U us iF iN oF oN Z) (hI : zIU U) (f : zFr M M' ([3].map U)) (q : M' (U 3) = some (zaZ γ 2 (fun j => zi (us' j)))) : hFx γ M' U us' iF iN oF oN Z := by
  obtain ⟨h0, h1, h2, h3, h4, h5, h6, h7, h8, h9⟩ := h
  exact ⟨f.at (zUn hI (by omega) (by decide) (by decide)) h0, f.at (zUn hI (by omega) (by decide) (by decide)) h1, q, ⟨h3.1.fr f (zUn hI (by omega) (by decide) (by decide)) (zUn hI (by omega) (by decide) (by decide)), h3.2⟩, ⟨h4.1.fr f (zUn hI (by omega) (by decide) (by decide)) (zUn hI (by omega) (by decide) (by decide)), h4.2⟩, h5.elim fun c h => ⟨c, h.fr f (zUn hI (by omega) (by decide) (by decide)) (zUn hI (by omega) (by decide) (by decide)) (zUn hI (by omega) (by decide) (by decide))⟩, h6.fr f (zUn hI (by omega) (by decide) (by decide)) (zUn hI (by omega) (by decide) (by decide)) (zUn hI (by omega) (by decide) (by decide)), (by obtain ⟨T, B, E, mk, h⟩ := h7; exact ⟨T, B, E, mk, f.at (zUn hI (by omega) (by decide) (by decide)) h⟩), h8.elim fun g h => ⟨g, f.at (zUn hI (by omega) (by decide) (by decide)) h.1, h.2⟩, fun k hk => (h9 k hk).fr f (zUc hI hk (by decide))⟩
theorem hFx.inp {γ : zG} {M M' : zM} {U : Nat → Nat} {us : Nat → Int} {iF : Nat → Int} {iN : Int} {oF : Nat → Int} {oN : Int} {Z : Nat → zSt} {iF' : Nat → Int} {iN' : Int} (h : hFx γ M U us iF iN oF oN Z) (hI : zIU U) (f : zFr M M' ([4, 5].map U)) (q : hBy γ M' (U 4) (U 5) iF' iN') (q2 : hBo iF' iN') : hFx γ M' U us iF' iN' oF oN Z := by
  obtain ⟨h0, h1, h2, h3, h4, h5, h6, h7, h8, h9⟩ := h
  exact ⟨f.at (zUn hI (by omega) (by decide) (by decide)) h0, f.at (zUn hI (by omega) (by decide) (by decide)) h1, f.at (zUn hI (by omega) (by decide) (by decide)) h2, ⟨q, q2⟩, ⟨h4.1.fr f (zUn hI (by omega) (by decide) (by decide)) (zUn hI (by omega) (by decide) (by decide)), h4.2⟩, h5.elim fun c h => ⟨c, h.fr f (zUn hI (by omega) (by decide) (by decide)) (zUn hI (by omega) (by decide) (by decide)) (zUn hI (by omega) (by decide) (by decide))⟩, h6.fr f (zUn hI (by omega) (by decide) (by decide)) (zUn hI (by omega) (by decide) (by decide)) (zUn hI (by omega) (by decide) (by decide)), (by obtain ⟨T, B, E, mk, h⟩ := h7; exact ⟨T, B, E, mk, f.at (zUn hI (by omega) (by decide) (by decide)) h⟩), h8.elim fun g h => ⟨g, f.at (zUn hI (by omega) (by decide) (by decide)) h.1, h.2⟩, fun k hk => (h9 k hk).fr f (zUc hI hk (by decide))⟩
theorem hFx.ou {γ : zG} {M M' : zM} {U : Nat → Nat} {us : Nat → Int} {iF : Nat → Int} {iN : Int} {oF : Nat → Int} {oN : Int} {Z : Nat → zSt} {oF' : Nat → Int} {oN' : Int} (h : hFx γ M U us iF iN oF oN Z) (hI : zIU U) (f : zFr M M' ([6, 7].map U)) (q : hBy γ M' (U 6) (U 7) oF' oN') (q2 : hBo oF' oN') : hFx γ M' U us iF iN oF' oN' Z := by
  obtain ⟨h0, h1, h2, h3, h4, h5, h6, h7, h8, h9⟩ := h
  exact ⟨f.at (zUn hI (by omega) (by decide) (by decide)) h0, f.at (zUn hI (by omega) (by decide) (by decide)) h1, f.at (zUn hI (by omega) (by decide) (by decide)) h2, ⟨h3.1.fr f (zUn hI (by omega) (by decide) (by decide)) (zUn hI (by omega) (by decide) (by decide)), h3.2⟩, ⟨q, q2⟩, h5.elim fun c h => ⟨c, h.fr f (zUn hI (by omega) (by decide) (by decide)) (zUn hI (by omega) (by decide) (by decide)) (zUn hI (by omega) (by decide) (by decide))⟩, h6.fr f (zUn hI (by omega) (by decide) (by decide)) (zUn hI (by omega) (by decide) (by decide)) (zUn hI (by omega) (by decide) (by decide)), (by obtain ⟨T, B, E, mk, h⟩ := h7; exact ⟨T, B, E, mk, f.at (zUn hI (by omega) (by decide) (by decide)) h⟩), h8.elim fun g h => ⟨g, f.at (zUn hI (by omega) (by decide) (by decide)) h.1, h.2⟩, fun k hk => (h9 k hk).fr f (zUc hI hk (by decide))⟩
theorem hFx.tr {γ : zG} {M M' : zM} {U : Nat → Nat} {us : Nat → Int} {iF : Nat → Int} {iN : Int} {oF : Nat → Int} {oN : Int} {Z : Nat → zSt} {c : Int → Int} (h : hFx γ M U us iF iN oF oN Z) (hI : zIU U) (f : zFr M M' ([8, 9, 10].map U)) (q : hCn γ M' (U 8) (U 9) (U 10) c) : hFx γ M' U us iF iN oF oN Z := by
  obtain ⟨h0, h1, h2, h3, h4, h5, h6, h7, h8, h9⟩ := h
  exact ⟨f.at (zUn hI (by omega) (by decide) (by decide)) h0, f.at (zUn hI (by omega) (by decide) (by decide)) h1, f.at (zUn hI (by omega) (by decide) (by decide)) h2, ⟨h3.1.fr f (zUn hI (by omega) (by decide) (by decide)) (zUn hI (by omega) (by decide) (by decide)), h3.2⟩, ⟨h4.1.fr f (zUn hI (by omega) (by decide) (by decide)) (zUn hI (by omega) (by decide) (by decide)), h4.2⟩, ⟨c, q⟩, h6.fr f (zUn hI (by omega) (by decide) (by decide)) (zUn hI (by omega) (by decide) (by decide)) (zUn hI (by omega) (by decide) (by decide)), (by obtain ⟨T, B, E, mk, h⟩ := h7; exact ⟨T, B, E, mk, f.at (zUn hI (by omega) (by decide) (by decide)) h⟩), h8.elim fun g h => ⟨g, f.at (zUn hI (by omega) (by decide) (by decide)) h.1, h.2⟩, fun k hk => (h9 k hk).fr f (zUc hI hk (by decide))⟩
theorem hFx.rk {γ : zG} {M M' : zM} {U : Nat → Nat} {us : Nat → Int} {iF : Nat → Int} {iN : Int} {oF : Nat → Int} {oN : Int} {Z : Nat → zSt}  (h : hFx γ M U us iF iN oF oN Z) (hI : zIU U) (f : zFr M M' ([11, 12, 13].map U)) (q : hRq γ M' (U 11) (U 12) (U 13)) : hFx γ M' U us iF iN oF oN Z := by
  obtain ⟨h0, h1, h2, h3, h4, h5, h6, h7, h8, h9⟩ := h
  exact ⟨f.at (zUn hI (by omega) (by decide) (by decide)) h0, f.at (zUn hI (by omega) (by decide) (by decide)) h1, f.at (zUn hI (by omega) (by decide) (by decide)) h2, ⟨h3.1.fr f (zUn hI (by omega) (by decide) (by decide)) (zUn hI (by omega) (by decide) (by decide)), h3.2⟩, ⟨h4.1.fr f (zUn hI (by omega) (by decide) (by decide)) (zUn hI (by omega) (by decide) (by decide)), h4.2⟩, h5.elim fun c h => ⟨c, h.fr f (zUn hI (by omega) (by decide) (by decide)) (zUn hI (by omega) (by decide) (by decide)) (zUn hI (by omega) (by decide) (by decide))⟩, q, (by obtain ⟨T, B, E, mk, h⟩ := h7; exact ⟨T, B, E, mk, f.at (zUn hI (by omega) (by decide) (by decide)) h⟩), h8.elim fun g h => ⟨g, f.at (zUn hI (by omega) (by decide) (by decide)) h.1, h.2⟩, fun k hk => (h9 k hk).fr f (zUc hI hk (by decide))⟩
theorem hFx.ch {γ : zG} {M M' : zM} {U : Nat → Nat} {us : Nat → Int} {iF : Nat → Int} {iN : Int} {oF : Nat → Int} {oN : Int} {Z : Nat → zSt} {T B E : Int} {mk : Int32} (h : hFx γ M U us iF iN oF oN Z) (hI : zIU U) (f : zFr M M' ([14].map U)) (q : hCh γ M' (U 14) T B E mk) : hFx γ M' U us iF iN oF oN Z := by
  obtain ⟨h0, h1, h2, h3, h4, h5, h6, h7, h8, h9⟩ := h
  exact ⟨f.at (zUn hI (by omega) (by decide) (by decide)) h0, f.at (zUn hI (by omega) (by decide) (by decide)) h1, f.at (zUn hI (by omega) (by decide) (by decide)) h2, ⟨h3.1.fr f (zUn hI (by omega) (by decide) (by decide)) (zUn hI (by omega) (by decide) (by decide)), h3.2⟩, ⟨h4.1.fr f (zUn hI (by omega) (by decide) (by decide)) (zUn hI (by omega) (by decide) (by decide)), h4.2⟩, h5.elim fun c h => ⟨c, h.fr f (zUn hI (by omega) (by decide) (by decide)) (zUn hI (by omega) (by decide) (by decide)) (zUn hI (by omega) (by decide) (by decide))⟩, h6.fr f (zUn hI (by omega) (by decide) (by decide)) (zUn hI (by omega) (by decide) (by decide)) (zUn hI (by omega) (by decide) (by decide)), ⟨T, B, E, mk, q⟩, h8.elim fun g h => ⟨g, f.at (zUn hI (by omega) (by decide) (by decide)) h.1, h.2⟩, fun k hk => (h9 k hk).fr f (zUc hI hk (by decide))⟩
theorem hFx.dr {γ : zG} {M M' : zM} {U : Nat → Nat} {us : Nat → Int} {iF : Nat → Int} {iN : Int} {oF : Nat → Int} {oN : Int} {Z : Nat → zSt} {g : Nat → Int} (h : hFx γ M U us iF iN oF oN Z) (hI : zIU U) (f : zFr M M' ([15].map U)) (q : M' (U 15) = some (zar γ 40 g)) (q2 : ∀ j, zR (g j)) : hFx γ M' U us iF iN oF oN Z := by
  obtain ⟨h0, h1, h2, h3, h4, h5, h6, h7, h8, h9⟩ := h
  exact ⟨f.at (zUn hI (by omega) (by decide) (by decide)) h0, f.at (zUn hI (by omega) (by decide) (by decide)) h1, f.at (zUn hI (by omega) (by decide) (by decide)) h2, ⟨h3.1.fr f (zUn hI (by omega) (by decide) (by decide)) (zUn hI (by omega) (by decide) (by decide)), h3.2⟩, ⟨h4.1.fr f (zUn hI (by omega) (by decide) (by decide)) (zUn hI (by omega) (by decide) (by decide)), h4.2⟩, h5.elim fun c h => ⟨c, h.fr f (zUn hI (by omega) (by decide) (by decide)) (zUn hI (by omega) (by decide) (by decide)) (zUn hI (by omega) (by decide) (by decide))⟩, h6.fr f (zUn hI (by omega) (by decide) (by decide)) (zUn hI (by omega) (by decide) (by decide)) (zUn hI (by omega) (by decide) (by decide)), (by obtain ⟨T, B, E, mk, h⟩ := h7; exact ⟨T, B, E, mk, f.at (zUn hI (by omega) (by decide) (by decide)) h⟩), ⟨g, q, q2⟩, fun k hk => (h9 k hk).fr f (zUc hI hk (by decide))⟩
theorem hFx.st {γ : zG} {M M' : zM} {U : Nat → Nat} {us : Nat → Int} {iF : Nat → Int} {iN : Int} {oF : Nat → Int} {oN : Int} {Z : Nat → zSt} {k0 : Nat} {S : zSt} (h : hFx γ M U us iF iN oF oN Z) (hI : zIU U) (f : zFr M M' (zFD (zUb U k0))) (hk0 : k0 < 12) (q : hSt γ M' (zUb U k0) S) : hFx γ M' U us iF iN oF oN (va_up Z k0 S) := by
  obtain ⟨h0, h1, h2, h3, h4, h5, h6, h7, h8, h9⟩ := h
  exact ⟨f.at (zUd hI (by omega) hk0) h0, f.at (zUd hI (by omega) hk0) h1, f.at (zUd hI (by omega) hk0) h2, ⟨h3.1.fr f (zUd hI (by omega) hk0) (zUd hI (by omega) hk0), h3.2⟩, ⟨h4.1.fr f (zUd hI (by omega) hk0) (zUd hI (by omega) hk0), h4.2⟩, h5.elim fun c h => ⟨c, h.fr f (zUd hI (by omega) hk0) (zUd hI (by omega) hk0) (zUd hI (by omega) hk0)⟩, h6.fr f (zUd hI (by omega) hk0) (zUd hI (by omega) hk0) (zUd hI (by omega) hk0), (by obtain ⟨T, B, E, mk, h⟩ := h7; exact ⟨T, B, E, mk, f.at (zUd hI (by omega) hk0) h⟩), h8.elim fun g h => ⟨g, f.at (zUd hI (by omega) hk0) h.1, h.2⟩, fun k hk => by
    unfold va_up
    split
    · rename_i e
      rw [e]
      exact q
    · rename_i e
      exact (h9 k hk).fr f (zUk hI hk0 hk e)⟩
theorem hFx.rt {γ : zG} {M M' : zM} {U : Nat → Nat} {us : Nat → Int} {iF : Nat → Int} {iN : Int} {oF : Nat → Int} {oN : Int} {Z : Nat → zSt} {c : Int → Int} (h : hFx γ M U us iF iN oF oN Z) (hI : zIU U) (f : zFr M M' ([11, 12, 13, 8, 9, 10].map U)) (q : hRq γ M' (U 11) (U 12) (U 13)) (q2 : hCn γ M' (U 8) (U 9) (U 10) c) : hFx γ M' U us iF iN oF oN Z := by
  obtain ⟨h0, h1, h2, h3, h4, h5, h6, h7, h8, h9⟩ := h
  exact ⟨f.at (zUn hI (by omega) (by decide) (by decide)) h0, f.at (zUn hI (by omega) (by decide) (by decide)) h1, f.at (zUn hI (by omega) (by decide) (by decide)) h2, ⟨h3.1.fr f (zUn hI (by omega) (by decide) (by decide)) (zUn hI (by omega) (by decide) (by decide)), h3.2⟩, ⟨h4.1.fr f (zUn hI (by omega) (by decide) (by decide)) (zUn hI (by omega) (by decide) (by decide)), h4.2⟩, ⟨c, q2⟩, q, (by obtain ⟨T, B, E, mk, h⟩ := h7; exact ⟨T, B, E, mk, f.at (zUn hI (by omega) (by decide) (by decide)) h⟩), h8.elim fun g h => ⟨g, f.at (zUn hI (by omega) (by decide) (by decide)) h.1, h.2⟩, fun k hk => (h9 k hk).fr f (zUc hI hk (by decide))⟩
theorem hFx.ro {γ : zG} {M M' : zM} {U : Nat → Nat} {us : Nat → Int} {iF : Nat → Int} {iN : Int} {oF : Nat → Int} {oN : Int} {Z : Nat → zSt} {oF' : Nat → Int} {oN' : Int} (h : hFx γ M U us iF iN oF oN Z) (hI : zIU U) (f : zFr M M' ([6, 7, 11, 12, 13].map U)) (q : hRq γ M' (U 11) (U 12) (U 13)) (q2 : hBy γ M' (U 6) (U 7) oF' oN') (q3 : hBo oF' oN') : hFx γ M' U us iF iN oF' oN' Z := by
  obtain ⟨h0, h1, h2, h3, h4, h5, h6, h7, h8, h9⟩ := h
  exact ⟨f.at (zUn hI (by omega) (by decide) (by decide)) h0, f.at (zUn hI (by omega) (by decide) (by decide)) h1, f.at (zUn hI (by omega) (by decide) (by decide)) h2, ⟨h3.1.fr f (zUn hI (by omega) (by decide) (by decide)) (zUn hI (by omega) (by decide) (by decide)), h3.2⟩, ⟨q2, q3⟩, h5.elim fun c h => ⟨c, h.fr f (zUn hI (by omega) (by decide) (by decide)) (zUn hI (by omega) (by decide) (by decide)) (zUn hI (by omega) (by decide) (by decide))⟩, q, (by obtain ⟨T, B, E, mk, h⟩ := h7; exact ⟨T, B, E, mk, f.at (zUn hI (by omega) (by decide) (by decide)) h⟩), h8.elim fun g h => ⟨g, f.at (zUn hI (by omega) (by decide) (by decide)) h.1, h.2⟩, fun k hk => (h9 k hk).fr f (zUc hI hk (by decide))⟩
theorem hFx.fr {γ : zG} {M M' : zM} {U : Nat → Nat} {us : Nat → Int} {iF : Nat → Int} {iN : Int} {oF : Nat → Int} {oN : Int} {Z : Nat → zSt} {S : List Nat} (h : hFx γ M U us iF iN oF oN Z) (f : zFr M M' S) (hS : ∀ i, i < 532 → U i ∉ S) : hFx γ M' U us iF iN oF oN Z := by
  obtain ⟨h0, h1, h2, h3, h4, h5, h6, h7, h8, h9⟩ := h
  exact ⟨f.at (hS 1 (by omega)) h0, f.at (hS 2 (by omega)) h1, f.at (hS 3 (by omega)) h2, ⟨h3.1.fr f (hS 4 (by omega)) (hS 5 (by omega)), h3.2⟩, ⟨h4.1.fr f (hS 6 (by omega)) (hS 7 (by omega)), h4.2⟩, h5.elim fun c h => ⟨c, h.fr f (hS 8 (by omega)) (hS 9 (by omega)) (hS 10 (by omega))⟩, h6.fr f (hS 11 (by omega)) (hS 12 (by omega)) (hS 13 (by omega)), (by obtain ⟨T, B, E, mk, h⟩ := h7; exact ⟨T, B, E, mk, f.at (hS 14 (by omega)) h⟩), h8.elim fun g h => ⟨g, f.at (hS 15 (by omega)) h.1, h.2⟩, fun k hk => (h9 k hk).fr f (fun j hj => hS _ (by omega))⟩
/-- the whole as told: state, depth of the past, the past (0 the last), slots used, slots, input, output, error code, its place -/
abbrev zSys : Type := zSt × Int × (Nat → zSt) × (Nat → Int) × (Nat → zSt) × ((Nat → Int) × Int) × ((Nat → Int) × Int) × Int × Int
abbrev yS (Y : zSys) : zSt := Y.1
abbrev yPc (Y : zSys) : Int := Y.2.1
abbrev yPs (Y : zSys) : Nat → zSt := Y.2.2.1
abbrev yUs (Y : zSys) : Nat → Int := Y.2.2.2.1
abbrev ySl (Y : zSys) : Nat → zSt := Y.2.2.2.2.1
abbrev yIf (Y : zSys) : Nat → Int := Y.2.2.2.2.2.1.1
abbrev yIn (Y : zSys) : Int := Y.2.2.2.2.2.1.2
abbrev yOf (Y : zSys) : Nat → Int := Y.2.2.2.2.2.2.1.1
abbrev yOn (Y : zSys) : Int := Y.2.2.2.2.2.2.1.2
abbrev yEc (Y : zSys) : Int := Y.2.2.2.2.2.2.2.1
abbrev yEp (Y : zSys) : Int := Y.2.2.2.2.2.2.2.2
/-- where the i-th last remembered state lies -/
def zPi (pn : Int) (i : Nat) : Nat := 2 + ((pn + 7 - i) % 8).toNat
/-- the states' blocks hold what is told -/
def zZk (Y : zSys) (pn : Int) (Z : Nat → zSt) : Prop := (0 ≤ pn ∧ pn < 8) ∧ Z 0 = yS Y ∧ (∀ i : Nat, i < yPc Y → Z (zPi pn i) = yPs Y i) ∧ ∀ k, k < 2 → yUs Y k ≠ 0 → Z (10 + k) = ySl Y k
def hFc (γ : zG) (M : zM) (U : Nat → Nat) (Y : zSys) : Prop := zIU U ∧ ∃ pn Z iF oF, zZk Y pn Z ∧ hFo γ M U pn (yPc Y) (yEc Y) (yEp Y) ∧ hFx γ M U (yUs Y) iF (yIn Y) oF (yOn Y) Z ∧ (∀ j : Nat, j < yIn Y → iF j = yIf Y j) ∧ ∀ j : Nat, j < yOn Y → oF j = yOf Y j
/-- a sound whole -/
def yOk (Y : zSys) : Prop := zOk (yS Y) ∧ (0 ≤ yPc Y ∧ yPc Y ≤ 8) ∧ (∀ i : Nat, i < yPc Y → zOk (yPs Y i)) ∧ (∀ k, k < 2 → (yUs Y k = 0 ∨ yUs Y k = 1) ∧ (yUs Y k ≠ 0 → zOk (ySl Y k)))
theorem hFx.st0 {γ : zG} {M : zM} {U : Nat → Nat} {us : Nat → Int} {iF : Nat → Int} {iN : Int} {oF : Nat → Int} {oN : Int} {Z : Nat → zSt} (h : hFx γ M U us iF iN oF oN Z) : hSt γ M (zUb U 0) (Z 0) := h.2.2.2.2.2.2.2.2.2 0 (by omega)

