/-! the model: a reader's list as a function of keys -/
def mKe (g : Nat → Int) (r j : Int) : Int := g (339 + 1412 * r + 12 + 2 * j).toNat
def mVa (g : Nat → Int) (r j : Int) : Int := g (339 + 1412 * r + 12 + 2 * j + 1).toNat
def mRp (g : Nat → Int) (r : Int) (c : Int → Int) (G : List Int) : Prop := (0 ≤ mMa g r ∧ mMa g r ≤ 700) ∧ (∀ j : Int, 0 ≤ j → j < mMa g r → mKe g r j ∈ G ∧ (0 ≤ mVa g r j ∧ mVa g r j ≤ 999) ∧ c (mKe g r j) = mVa g r j) ∧ (∀ i j : Int, 0 ≤ i → i < j → j < mMa g r → mKe g r i ≠ mKe g r j) ∧ ∀ key, c key ≠ 0 → ∃ j : Int, 0 ≤ j ∧ j < mMa g r ∧ mKe g r j = key
theorem mRp.li {g : Nat → Int} {r : Int} {c : Int → Int} {G : List Int} (h : mRp g r c G) : mLi g r := ⟨h.1, fun j h1 h2 => (h.2.1 j h1 h2).2.1⟩
theorem mfn_no {g : Nat → Int} {r key : Int} : ∀ (t : Nat) (k : Int), 0 ≤ 339 + 1412 * r + 12 + 2 * k → mfn g r key t k = -1 → ∀ j : Int, k ≤ j → j < k + t → mKe g r j ≠ key
  | 0, k, _, _, j, h1, h2 => absurd h2 (by omega)
  | t + 1, k, hp, h, j, h1, h2 => by
    unfold mfn at h
    by_cases q : g (339 + 1412 * r + 12 + 2 * k).toNat = key
    · rw [if_pos q] at h
      omega
    · rw [if_neg q] at h
      by_cases e : j = k
      · subst e
        exact q
      · exact mfn_no t (k + 1) (by omega) h j (by omega) (by omega)
theorem mRp.co {g : Nat → Int} {r : Int} {c : Int → Int} {G : List Int} (h : mRp g r c G) (hr : 0 ≤ r) (key : Int) : mCo g r key = c key := by
  obtain ⟨h1, h2, h3, h4⟩ := h
  unfold mCo
  by_cases q : mFi g r key = -1
  · rw [if_pos q]
    by_cases e : c key = 0
    · exact e.symm
    · obtain ⟨j, j1, j2, j3⟩ := h4 key e
      exact absurd j3 (mfn_no (mMa g r).toNat 0 (by omega) q j j1 (by omega))
  · rw [if_neg q]
    obtain ⟨j, j1, j2, j3, j4⟩ := mFi_at h1 q
    rw [j3]
    have := (h2 j j1 j2).2.2
    unfold mKe mVa at this
    rw [← this, j4]
/-- what lies in another place stays -/
def mEq (g g' : Nat → Int) (r : Int) : Prop := ∀ i : Nat, ((i : Int) < 339 + 1412 * r + 11 ∨ 339 + 1412 * r + 1412 ≤ i) → g' i = g i
theorem mAd_eq {g : Nat → Int} {r key v : Int} (hr : 0 ≤ r) (hm : 0 ≤ mMa g r ∧ mMa g r < 700) : mEq g (mAd g r key v) r := fun i hi => by
  unfold mAd
  split
  · unfold mPu mNw
    rw [va_up_ne _ _ (by omega), va_up_ne _ _ (by omega), va_up_ne _ _ (by omega), va_up_ne _ _ (by omega)]
  · rename_i q
    obtain ⟨j, j1, j2, j3, j4⟩ := mFi_at ⟨hm.1, by omega⟩ q
    unfold mPu
    rw [j3, va_up_ne _ _ (by omega)]
theorem mRp.ad {g : Nat → Int} {r : Int} {c : Int → Int} {G : List Int} (h : mRp g r c G) (hr : 0 ≤ r) {key v : Int} (hk : key ∈ G) (hv : 0 ≤ v) (hm : mMa g r < 700) : mRp (mAd g r key v) r (fun k => if k = key then min (c key + v) 999 else c k) G := by
  have hco := h.co hr key
  obtain ⟨h1, h2, h3, h4⟩ := h
  unfold mCo at hco
  unfold mAd
  by_cases q : mFi g r key = -1
  · rw [if_pos q] at hco ⊢
    have hno := mfn_no (mMa g r).toNat 0 (by omega) q
    have e1 : mMa (mPu (mNw g r key) (339 + 1412 * r + 12 + 2 * mMa g r + 1) v) r = mMa g r + 1 := by
      show va_up (mNw g r key) _ _ _ = _
      rw [va_up_ne _ _ (by omega)]
      exact va_up_self _ _ _
    have e2 : ∀ j : Int, 0 ≤ j → j < mMa g r → mKe (mPu (mNw g r key) (339 + 1412 * r + 12 + 2 * mMa g r + 1) v) r j = mKe g r j ∧ mVa (mPu (mNw g r key) (339 + 1412 * r + 12 + 2 * mMa g r + 1) v) r j = mVa g r j := fun j j1 j2 => by
      unfold mKe mVa mPu mNw
      rw [va_up_ne _ _ (by omega), va_up_ne _ _ (by omega), va_up_ne _ _ (by omega), va_up_ne _ _ (by omega), va_up_ne _ _ (by omega), va_up_ne _ _ (by omega), va_up_ne _ _ (by omega), va_up_ne _ _ (by omega)]
      exact ⟨rfl, rfl⟩
    have e3 : mKe (mPu (mNw g r key) (339 + 1412 * r + 12 + 2 * mMa g r + 1) v) r (mMa g r) = key := by
      unfold mKe mPu mNw
      rw [va_up_ne _ _ (by omega), va_up_ne _ _ (by omega), va_up_ne _ _ (by omega), va_up_self]
    have e4 : mVa (mPu (mNw g r key) (339 + 1412 * r + 12 + 2 * mMa g r + 1) v) r (mMa g r) = min (c key + v) 999 := by
      unfold mVa mPu
      rw [va_up_self]
      unfold mNw
      rw [va_up_ne _ _ (by omega), va_up_self, ← hco]
    refine ⟨by rw [e1]; omega, fun j j1 j2 => ?_, fun i j i1 i2 i3 => ?_, fun k hk2 => ?_⟩
    · rw [e1] at j2
      by_cases e : j = mMa g r
      · subst e
        rw [e3, e4]
        exact ⟨hk, by omega, if_pos rfl⟩
      · obtain ⟨a1, a2⟩ := e2 j j1 (by omega)
        rw [a1, a2]
        obtain ⟨b1, b2, b3⟩ := h2 j j1 (by omega)
        refine ⟨b1, b2, ?_⟩
        show (if mKe g r j = key then _ else _) = _
        rw [if_neg (hno j j1 (by omega))]
        exact b3
    · rw [e1] at i3
      rw [(e2 i i1 (by omega)).1]
      by_cases e : j = mMa g r
      · subst e
        rw [e3]
        exact hno i i1 (by omega)
      · rw [(e2 j (by omega) (by omega)).1]
        exact h3 i j i1 i2 (by omega)
    · rw [e1]
      by_cases e : k = key
      · exact ⟨mMa g r, by omega, by omega, by rw [e3, e]⟩
      · have hk2 : (if k = key then min (c key + v) 999 else c k) ≠ 0 := hk2
        rw [if_neg e] at hk2
        obtain ⟨j, j1, j2, j3⟩ := h4 k hk2
        exact ⟨j, j1, by omega, by rw [(e2 j j1 j2).1, j3]⟩
  · rw [if_neg q] at hco ⊢
    obtain ⟨J, j1, j2, j3, j4⟩ := mFi_at h1 q
    have e1 : mMa (mPu g (mFi g r key) v) r = mMa g r := by
      unfold mMa mPu
      rw [j3, va_up_ne _ _ (by omega)]
    have e2 : ∀ j : Int, 0 ≤ j → mKe (mPu g (mFi g r key) v) r j = mKe g r j := fun j i1 => by
      unfold mKe mPu
      rw [j3, va_up_ne _ _ (by omega)]
    have e3 : ∀ j : Int, 0 ≤ j → j ≠ J → mVa (mPu g (mFi g r key) v) r j = mVa g r j := fun j i1 i2 => by
      unfold mVa mPu
      rw [j3, va_up_ne _ _ (by omega)]
    have e4 : mVa (mPu g (mFi g r key) v) r J = min (c key + v) 999 := by
      unfold mVa mPu
      rw [hco, j3, va_up_self]
    have e5 : mKe g r J = key := j4
    refine ⟨by rw [e1]; exact h1, fun j i1 i2 => ?_, fun i j i1 i2 i3 => ?_, fun k hk2 => ?_⟩
    · rw [e1] at i2
      obtain ⟨b1, b2, b3⟩ := h2 j i1 i2
      rw [e2 j i1]
      refine ⟨b1, ?_⟩
      by_cases e : j = J
      · subst e
        rw [e4, e5]
        have := (h2 j j1 j2).2.1
        rw [← (h2 j j1 j2).2.2, e5] at this
        exact ⟨by omega, if_pos rfl⟩
      · rw [e3 j i1 e]
        refine ⟨b2, ?_⟩
        have : mKe g r j ≠ key := fun w => by
          rw [← e5] at w
          rcases Int.lt_trichotomy j J with l | l | l
          · exact h3 j J i1 l j2 w
          · exact e l
          · exact h3 J j j1 l i2 w.symm
        show (if mKe g r j = key then _ else _) = _
        rw [if_neg this]
        exact b3
    · rw [e1] at i3
      rw [e2 i i1, e2 j (by omega)]
      exact h3 i j i1 i2 i3
    · rw [e1]
      by_cases e : k = key
      · exact ⟨J, j1, j2, by rw [e2 J j1, e5, e]⟩
      · have hk2 : (if k = key then min (c key + v) 999 else c k) ≠ 0 := hk2
        rw [if_neg e] at hk2
        obtain ⟨j, i1, i2, i3⟩ := h4 k hk2
        exact ⟨j, i1, i2, by rw [e2 j i1, i3]⟩

