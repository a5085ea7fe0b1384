/-! the model's parser: a statement under way; names compared -/
theorem mNf_4 (nm : Nat → Int) (nl : Int) : mNf nm nl 4 = (((if (0 : Int) < nl then nm 0 - 96 else 0) * 27 + (if (1 : Int) < nl then nm 1 - 96 else 0)) * 27 + (if (2 : Int) < nl then nm 2 - 96 else 0)) * 27 + (if (3 : Int) < nl then nm 3 - 96 else 0) := by
  show (((0 * 27 + _) * 27 + _) * 27 + _) * 27 + _ = _
  rw [Int.zero_mul, Int.zero_add]
  rfl
theorem mNc {nm : Nat → Int} {nl : Int} (h : ∀ j : Nat, j < nl → zLet (nm j)) (k : Nat) : (0 ≤ (if (k : Int) < nl then nm k - 96 else 0) ∧ (if (k : Int) < nl then nm k - 96 else 0) ≤ 26) ∧ ((if (k : Int) < nl then nm k - 96 else 0) = 0 ↔ nl ≤ k) := by
  split
  · rename_i q
    have := h k q
    unfold zLet at this
    omega
  · omega
theorem mNf_inj {nm nm' : Nat → Int} {nl nl' : Int} (h1 : 1 ≤ nl ∧ nl ≤ 4) (h2 : 1 ≤ nl' ∧ nl' ≤ 4) (a1 : ∀ j : Nat, j < nl → zLet (nm j)) (a2 : ∀ j : Nat, j < nl' → zLet (nm' j)) (e : mNf nm nl 4 = mNf nm' nl' 4) : nl = nl' ∧ ∀ j : Nat, j < nl → nm j = nm' j := by
  rw [mNf_4, mNf_4] at e
  have c0 := mNc a1 0
  have c1 := mNc a1 1
  have c2 := mNc a1 2
  have c3 := mNc a1 3
  have d0 := mNc a2 0
  have d1 := mNc a2 1
  have d2 := mNc a2 2
  have d3 := mNc a2 3
  simp only [show ((0 : Nat) : Int) = 0 from rfl, show ((1 : Nat) : Int) = 1 from rfl, show ((2 : Nat) : Int) = 2 from rfl, show ((3 : Nat) : Int) = 3 from rfl] at c0 c1 c2 c3 d0 d1 d2 d3
  have k0 : (if (0 : Int) < nl then nm 0 - 96 else 0) = (if (0 : Int) < nl' then nm' 0 - 96 else 0) := by omega
  have k1 : (if (1 : Int) < nl then nm 1 - 96 else 0) = (if (1 : Int) < nl' then nm' 1 - 96 else 0) := by omega
  have k2 : (if (2 : Int) < nl then nm 2 - 96 else 0) = (if (2 : Int) < nl' then nm' 2 - 96 else 0) := by omega
  have k3 : (if (3 : Int) < nl then nm 3 - 96 else 0) = (if (3 : Int) < nl' then nm' 3 - 96 else 0) := by omega
  have hl : nl = nl' := by omega
  refine ⟨hl, fun j hj => ?_⟩
  subst hl
  have : j = 0 ∨ j = 1 ∨ j = 2 ∨ j = 3 := by omega
  rcases this with rfl | rfl | rfl | rfl
  · rw [if_pos (by omega), if_pos (by omega)] at k0
    omega
  · rw [if_pos (by omega), if_pos (by omega)] at k1
    omega
  · rw [if_pos (by omega), if_pos (by omega)] at k2
    omega
  · rw [if_pos (by omega), if_pos (by omega)] at k3
    omega
theorem mNf_cg {nm nm' : Nat → Int} {nl : Int} (h : ∀ j : Nat, j < nl → nm j = nm' j) : ∀ t : Nat, mNf nm nl t = mNf nm' nl t
  | 0 => rfl
  | t + 1 => by
    unfold mNf
    rw [mNf_cg h t]
    split
    · rename_i q
      rw [h t q]
    · rfl
theorem hNa_iff {S : zSt} {f : Nat → Int} {n b m : Int} (hO : zOk S) {i : Nat} (hi : i < sRn S) (hv : mNv f n b m) : hNa S f n b (b + m) i ↔ mNm (sRd S i) = mNf (fun j => hAt f n (b + j)) m 4 := by
  obtain ⟨-, r1, -, r2⟩ := (hO.2.2 i hi).1
  unfold hNa hIs mNm
  constructor
  · rintro ⟨h1, h2⟩
    have hm : rNl (sRd S i) = m := by omega
    rw [hm]
    refine mNf_cg (fun j hj => ?_) 4
    have := h2 j (by omega) (by omega)
    rw [hAt_in (by omega)] at this
    exact this
  · intro e
    obtain ⟨h1, h2⟩ := mNf_inj r1 hv.1 r2 (fun j hj => hv.2 _ (by omega) (by omega)) e
    refine ⟨by omega, fun j j1 j2 => ?_⟩
    have := h2 j.toNat (by omega)
    rw [hAt_in (by omega), this, show ((j.toNat : Nat) : Int) = j by omega]
theorem hNa_no {S : zSt} {f : Nat → Int} {n b m : Int} (hO : zOk S) {i : Nat} (hi : i < sRn S) (hv : ¬ mNv f n b m) : ¬ hNa S f n b (b + m) i := fun h => by
  obtain ⟨-, r1, -, r2⟩ := (hO.2.2 i hi).1
  unfold hNa hIs at h
  refine hv ⟨by omega, fun j j1 j2 => ?_⟩
  have := h.2 (j - b) (by omega) (by omega)
  rw [hAt_in (by omega), show b + (j - b) = j by omega] at this
  rw [← this]
  exact r2 _ (by omega)
theorem zNo_v {S : zSt} {f : Nat → Int} {n b m : Int} (hO : zOk S) (hv : mNv f n b m) : zfi (fun i => mNm (sRd S i) = mNf (fun j => hAt f n (b + j)) m 4) (sRn S).toNat = zNo S f n b (b + m) := zfi_cg _ fun i hi => (hNa_iff hO (by have := hO.1; omega) hv).symm
theorem zNo_n {S : zSt} {f : Nat → Int} {n b m : Int} (hO : zOk S) (hv : ¬ mNv f n b m) : zNo S f n b (b + m) = -1 := zfi_no _ fun i hi => hNa_no hO (by have := hO.1; omega) hv
theorem zNo_rng {S : zSt} (hO : zOk S) (f : Nat → Int) (n b e : Int) : -1 ≤ zNo S f n b e ∧ zNo S f n b e < sRn S ∨ zNo S f n b e = -1 := by
  have o1 := hO.1
  rcases zfi_rng (P := hNa S f n b e) (sRn S).toNat with h | h
  · left
    show -1 ≤ zfi _ _ ∧ zfi _ _ < _
    omega
  · exact .inr h.2
/-- a statement goes well so far: the token behind e1 is looked at -/
def mGS (γ : zG) (A : Nat → Nat) (M M1 : zM) (F F1 f : Nat → Int) (n e1 : Int) : Prop := mF A M M1 [0] ∧ mKp [20, 21, 22, 23, 24, 25, 26] F F1 ∧ F1 25 = 0 ∧ F1 26 = -1 ∧ mPs γ M1 A F1 f n e1
/-- a statement has an error -/
def mES (γ : zG) (A : Nat → Nat) (M M1 : zM) (F F1 f : Nat → Int) (n : Int) (q : zPR) : Prop := mF A M M1 [0] ∧ mKp [20, 21, 22, 23, 24, 25, 26] F F1 ∧ F1 25 = q.1 ∧ F1 26 = q.2.1 ∧ (1 ≤ q.1 ∧ q.1 ≤ 5) ∧ ∃ e1, mPs γ M1 A F1 f n e1
theorem mGS.c {γ : zG} {A : Nat → Nat} {M M1 : zM} {F F1 f : Nat → Int} {n e1 : Int} (h : mGS γ A M M1 F F1 f n e1) : 0 ≤ F1 25 ∧ F1 25 ≤ 5 := by have := h.2.2.1; omega
theorem mES.c {γ : zG} {A : Nat → Nat} {M M1 : zM} {F F1 f : Nat → Int} {n : Int} {q : zPR} (h : mES γ A M M1 F F1 f n q) : 0 ≤ F1 25 ∧ F1 25 ≤ 5 := by
  have := h.2.2.1
  have := h.2.2.2.2.1
  omega
theorem mES.n0 {γ : zG} {A : Nat → Nat} {M M1 : zM} {F F1 f : Nat → Int} {n : Int} {q : zPR} (h : mES γ A M M1 F F1 f n q) : F1 25 ≠ 0 := by
  have := h.2.2.1
  have := h.2.2.2.2.1
  omega
theorem mGS.ok {γ : zG} {A : Nat → Nat} {M M1 M2 : zM} {F F1 f : Nat → Int} {n e1 w : Int} (hA : mIA A) (h : mGS γ A M M1 F F1 f n e1) (hf : mF A M1 M2 [0]) (a : M2 (A 0) = some (mOb A (mck F1 1 w))) : mGS γ A M M2 F F1 f n e1 := by
  have hp := h.2.2.2.2.ck hA hf a
  rw [mck_1] at hp
  exact ⟨h.1.tr hf ⟨rfl, rfl⟩, h.2.1, h.2.2.1, h.2.2.2.1, hp⟩
theorem mGS.no {γ : zG} {A : Nat → Nat} {M M1 M2 : zM} {F F1 f : Nat → Int} {n e1 w e : Int} {S : zSt} {q : zPR} (hA : mIA A) (h : mGS γ A M M1 F F1 f n e1) (hf : mF A M1 M2 [0]) (a : M2 (A 0) = some (mOb A (mck F1 0 w))) (hw : 1 ≤ w ∧ w ≤ 5) (hq : q = (w, ztS f n e1, S, e)) : mES γ A M M2 F (mck F1 0 w) f n q := by
  have hp := h.2.2.2.2.ck hA hf a
  refine ⟨h.1.tr hf ⟨rfl, rfl⟩, h.2.1.tr (mck_kp F1 0 w) ⟨rfl, rfl⟩, ?_, ?_, by rw [hq]; exact hw, e1, hp⟩
  · rw [mck_0 h.2.2.1, va_up_ne _ _ (by decide), va_up_self, hq]
  · rw [mck_0 h.2.2.1, va_up_self, hq]
    exact h.2.2.2.2.2.2.2.2.2.2.1
theorem mES.ck {γ : zG} {A : Nat → Nat} {M M1 M2 : zM} {F F1 f : Nat → Int} {n r w : Int} {q : zPR} (hA : mIA A) (h : mES γ A M M1 F F1 f n q) (hf : mF A M1 M2 [0]) (a : M2 (A 0) = some (mOb A (mck F1 r w))) : mES γ A M M2 F F1 f n q := by
  have n0 := h.n0
  obtain ⟨h1, h2, h3, h4, h5, e1, h6⟩ := h
  have hp := h6.ck hA hf a
  rw [mck_e n0] at hp
  exact ⟨h1.tr hf ⟨rfl, rfl⟩, h2, h3, h4, h5, e1, hp⟩
theorem mGS.nx {γ : zG} {A : Nat → Nat} {M M1 M2 : zM} {F F1 F2 f : Nat → Int} {n e1 : Int} (h : mGS γ A M M1 F F1 f n e1) (hf : mF A M1 M2 [0]) (hp : mKp [20, 21, 22, 23, 24] F1 F2) (a : F1 25 = 0 ∧ mPs γ M2 A F2 f n (ztE f n e1) ∨ F1 25 ≠ 0 ∧ mPs γ M2 A F2 f n e1) : mGS γ A M M2 F F2 f n (ztE f n e1) := by
  rcases a with ⟨-, a⟩ | ⟨a, -⟩
  · exact ⟨h.1.tr hf ⟨rfl, rfl⟩, h.2.1.tr hp ⟨rfl, rfl⟩, (hp 25 (by decide)).trans h.2.2.1, (hp 26 (by decide)).trans h.2.2.2.1, a⟩
  · exact absurd h.2.2.1 a
theorem mES.nx {γ : zG} {A : Nat → Nat} {M M1 M2 : zM} {F F1 F2 f : Nat → Int} {n e1 : Int} {q : zPR} (h : mES γ A M M1 F F1 f n q) (hf : mF A M1 M2 [0]) (hp : mKp [20, 21, 22, 23, 24] F1 F2) (a : F1 25 = 0 ∧ mPs γ M2 A F2 f n (ztE f n e1) ∨ F1 25 ≠ 0 ∧ mPs γ M2 A F2 f n e1) : mES γ A M M2 F F2 f n q := by
  have n0 := h.n0
  rcases a with ⟨a, -⟩ | ⟨-, a⟩
  · exact absurd a n0
  · exact ⟨h.1.tr hf ⟨rfl, rfl⟩, h.2.1.tr hp ⟨rfl, rfl⟩, (hp 25 (by decide)).trans h.2.2.1, (hp 26 (by decide)).trans h.2.2.2.1, h.2.2.2.2.1, e1, a⟩
/-- behind finish -/
def mFn (γ : zG) (A : Nat → Nat) (M2 : zM) (F1 F2 f : Nat → Int) (n e1 : Int) : Prop := F1 25 = 0 ∧ hAt f n (ztS f n e1) = 59 ∧ F2 25 = 0 ∧ F2 26 = F1 26 ∧ mPs γ M2 A F2 f n (ztE f n e1) ∨ F1 25 = 0 ∧ hAt f n (ztS f n e1) ≠ 59 ∧ F2 25 = 1 ∧ F2 26 = ztS f n e1 ∧ mPs γ M2 A F2 f n e1 ∨ F1 25 ≠ 0 ∧ F2 25 = F1 25 ∧ F2 26 = F1 26 ∧ mPs γ M2 A F2 f n e1
theorem mES.fn {γ : zG} {A : Nat → Nat} {M M1 M2 : zM} {F F1 F2 f : Nat → Int} {n e1 : Int} {q : zPR} (h : mES γ A M M1 F F1 f n q) (hf : mF A M1 M2 [0]) (hp : mKp [20, 21, 22, 23, 24, 25, 26] F1 F2) (a : mFn γ A M2 F1 F2 f n e1) : mES γ A M M2 F F2 f n q := by
  have n0 := h.n0
  rcases a with ⟨a, -⟩ | ⟨a, -⟩ | ⟨-, a1, a2, a3⟩
  · exact absurd a n0
  · exact absurd a n0
  · exact ⟨h.1.tr hf ⟨rfl, rfl⟩, h.2.1.tr hp ⟨rfl, rfl⟩, a1.trans h.2.2.1, a2.trans h.2.2.2.1, h.2.2.2.2.1, e1, a3⟩
theorem mGS.fn {γ : zG} {A : Nat → Nat} {M M1 M2 : zM} {F F1 F2 f : Nat → Int} {n e1 e : Int} {S : zSt} {q : zPR} (h : mGS γ A M M1 F F1 f n e1) (hf : mF A M1 M2 [0]) (hp : mKp [20, 21, 22, 23, 24, 25, 26] F1 F2) (a : mFn γ A M2 F1 F2 f n e1) (hq : hAt f n (ztS f n e1) ≠ 59 → q = (1, ztS f n e1, S, e)) : hAt f n (ztS f n e1) = 59 ∧ mGS γ A M M2 F F2 f n (ztE f n e1) ∨ hAt f n (ztS f n e1) ≠ 59 ∧ mES γ A M M2 F F2 f n q := by
  rcases a with ⟨-, a1, a2, a3, a4⟩ | ⟨-, a1, a2, a3, a4⟩ | ⟨a, -⟩
  · exact .inl ⟨a1, h.1.tr hf ⟨rfl, rfl⟩, h.2.1.tr hp ⟨rfl, rfl⟩, a2, a3.trans h.2.2.2.1, a4⟩
  · have := hq a1
    exact .inr ⟨a1, h.1.tr hf ⟨rfl, rfl⟩, h.2.1.tr hp ⟨rfl, rfl⟩, by rw [this]; exact a2, by rw [this]; exact a3, by rw [this]; exact (show (1 : Int) ≤ 1 ∧ (1 : Int) ≤ 5 from ⟨by decide, by decide⟩), e1, a4⟩
  · exact absurd h.2.2.1 a
/-- what a statement leaves -/
def mSP (γ : zG) (A : Nat → Nat) (M M' : zM) (F f : Nat → Int) (n : Int) (q : zPR) : Prop := mF A M M' [0, 2] ∧ ∃ F', mKp [20, 21, 22, 23, 24, 25, 26] F F' ∧ (q.1 = 0 ∧ F' 25 = 0 ∧ F' 26 = -1 ∧ mPs γ M' A F' f n q.2.2.2 ∧ (∃ g', M' (A 2) = some (zar γ 5987 g') ∧ mSt g' q.2.2.1) ∨ q.1 ≠ 0 ∧ F' 25 = q.1 ∧ F' 26 = q.2.1 ∧ (1 ≤ q.1 ∧ q.1 ≤ 5) ∧ (∃ e', mPs γ M' A F' f n e') ∧ ∃ g', M' (A 2) = some (zar γ 5987 g') ∧ ∀ j, zR (g' j))
theorem mES.sp {γ : zG} {A : Nat → Nat} {M M1 : zM} {F F1 f g : Nat → Int} {n : Int} {q : zPR} (hA : mIA A) (h : mES γ A M M1 F F1 f n q) (hM : M (A 2) = some (zar γ 5987 g)) (hg : ∀ j, zR (g j)) : mSP γ A M M1 F f n q := by
  obtain ⟨h1, h2, h3, h4, h5, h6⟩ := h
  exact ⟨h1.mo rfl, F1, h2, .inr ⟨by omega, h3, h4, h5, h6, g, h1.at hA (.of rfl) hM, hg⟩⟩
theorem mGS.sp {γ : zG} {A : Nat → Nat} {M M1 M2 : zM} {F F1 f g : Nat → Int} {n e1 : Int} {q : zPR} (hA : mIA A) (h : mGS γ A M M1 F F1 f n e1) (hf : mF A M1 M2 [2]) (hM : M2 (A 2) = some (zar γ 5987 g)) (hq : q.1 = 0) (he : q.2.2.2 = e1) (hS : mSt g q.2.2.1) : mSP γ A M M2 F f n q := by
  obtain ⟨h1, h2, h3, h4, h5⟩ := h
  refine ⟨h1.tr hf ⟨rfl, rfl⟩, F1, h2, .inl ⟨hq, h3, h4, ?_, g, hM, hS⟩⟩
  rw [he]
  exact h5.kp hA hf (.of rfl) (hf.at hA (.of rfl) h5.1) (K' := []) mKp.rf rfl

