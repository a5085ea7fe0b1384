/-! the model as a whole; what it refuses -/
/-- where the i-th latest remembered state lies -/
def mRg (u n : Int) (i : Nat) : Int := (u + n - 1 - i) % 8
def mUn (γ : zG) (M : zM) (A : Nat → Nat) (F : Nat → Int) (Y : zSys) : Prop := (0 ≤ F 7 ∧ F 7 < 8) ∧ F 6 = yPc Y ∧ ∃ g, M (A 4) = some (zar γ 47896 g) ∧ (∀ j, zR (g j)) ∧ ∀ i : Nat, i < yPc Y → mSt (fun j => g (5987 * mRg (F 7) (yPc Y) i + j).toNat) (yPs Y i)
def mSlo (γ : zG) (M : zM) (A : Nat → Nat) (Y : zSys) : Prop := (∃ e, M (A 6) = some (zaz γ 2 e) ∧ ∀ k, k < 2 → e k = yUs Y k) ∧ ∃ g, M (A 5) = some (zar γ 11974 g) ∧ (∀ j, zR (g j)) ∧ ∀ k : Nat, k < 2 → yUs Y k ≠ 0 → mSt (fun j => g (5987 * k + j)) (ySl Y k)
def mIn (γ : zG) (M : zM) (A : Nat → Nat) (F : Nat → Int) (Y : zSys) : Prop := F 19 = yIn Y ∧ ∃ f, M (A 11) = some (zar γ 500 f) ∧ hBo f (yIn Y) ∧ ∀ j : Nat, j < yIn Y → f j = yIf Y j
def mOu (γ : zG) (M : zM) (A : Nat → Nat) (F : Nat → Int) (Y : zSys) : Prop := F 29 = yOn Y ∧ (0 ≤ yOn Y ∧ yOn Y ≤ 200) ∧ ∃ h : Nat → Int, M (A 13) = some (zaB γ 200 (fun j => zi (h j))) ∧ ∀ j : Nat, j < yOn Y → h j = yOf Y j
def mCu (γ : zG) (M : zM) (A : Nat → Nat) (S : zSt) : Prop := ∃ g, M (A 1) = some (zar γ 5987 g) ∧ mSt g S
def mRst (γ : zG) (M : zM) (A : Nat → Nat) : Prop := (∃ g, M (A 2) = some (zar γ 5987 g) ∧ ∀ j, zR (g j)) ∧ (∃ g, M (A 3) = some (zar γ 5987 g) ∧ ∀ j, zR (g j)) ∧ (∃ e, M (A 10) = some (zaz γ 27 e)) ∧ (∃ e, M (A 12) = some (zaz γ 729 e)) ∧ ∃ g, M (A 14) = some (zar γ 40 g) ∧ ∀ j, zR (g j)
def hMf (γ : zG) (M : zM) (A : Nat → Nat) (F : Nat → Int) (Y : zSys) : Prop := mSc γ M A F ∧ (F 25 = yEc Y ∧ F 26 = yEp Y) ∧ mUn γ M A F Y ∧ mSlo γ M A Y ∧ mIn γ M A F Y ∧ mOu γ M A F Y ∧ mCu γ M A (yS Y) ∧ mRst γ M A
/-- the model tells Y, its latest call threw th -/
def hMo (γ : zG) (M : zM) (A : Nat → Nat) (Y : zSys) (th : Int) : Prop := mIA A ∧ ∃ F, F 8 = th ∧ hMf γ M A F Y
abbrev mAll (A : Nat → Nat) (M M' : zM) : Prop := mF A M M' (List.range 15)
/-- a call of the model answered -/
def mAns (γ : zG) (A : Nat → Nat) (M : zM) (Y : zSys) (q : Int × Int) : Option Value → zM → Prop := fun v' M' => ∃ b : Int, v' = some (.int (zi b)) ∧ mAll A M M' ∧ hMo γ M' A Y q.1 ∧ (q.1 = 0 → zi b = zi q.2)
theorem mUn.fr {γ : zG} {M M' : zM} {A : Nat → Nat} {F F' : Nat → Int} {Y : zSys} {K : List Nat} (hA : mIA A) (h : mUn γ M A F Y) (f : mF A M M' K) (h4 : mNi 4 K) (e6 : F' 6 = F 6) (e7 : F' 7 = F 7) : mUn γ M' A F' Y := by
  obtain ⟨a, b, g, c1, c2, c3⟩ := h
  exact ⟨by rw [e7]; exact a, e6.trans b, g, f.at hA h4 c1, c2, by rw [e7]; exact c3⟩
theorem mSlo.fr {γ : zG} {M M' : zM} {A : Nat → Nat} {Y : zSys} {K : List Nat} (hA : mIA A) (h : mSlo γ M A Y) (f : mF A M M' K) (h5 : mNi 5 K) (h6 : mNi 6 K) : mSlo γ M' A Y := by
  obtain ⟨⟨e, a1, a2⟩, g, c1, c2, c3⟩ := h
  exact ⟨⟨e, f.at hA h6 a1, a2⟩, g, f.at hA h5 c1, c2, c3⟩
theorem mIn.fr {γ : zG} {M M' : zM} {A : Nat → Nat} {F F' : Nat → Int} {Y : zSys} {K : List Nat} (hA : mIA A) (h : mIn γ M A F Y) (f : mF A M M' K) (h11 : mNi 11 K) (e : F' 19 = F 19) : mIn γ M' A F' Y := by
  obtain ⟨a, g, c1, c2⟩ := h
  exact ⟨e.trans a, g, f.at hA h11 c1, c2⟩
theorem mOu.fr {γ : zG} {M M' : zM} {A : Nat → Nat} {F F' : Nat → Int} {Y : zSys} {K : List Nat} (hA : mIA A) (h : mOu γ M A F Y) (f : mF A M M' K) (h13 : mNi 13 K) (e : F' 29 = F 29) : mOu γ M' A F' Y := by
  obtain ⟨a, b, g, c1, c2⟩ := h
  exact ⟨e.trans a, b, g, f.at hA h13 c1, c2⟩
theorem mCu.fr {γ : zG} {M M' : zM} {A : Nat → Nat} {S : zSt} {K : List Nat} (hA : mIA A) (h : mCu γ M A S) (f : mF A M M' K) (h1 : mNi 1 K) : mCu γ M' A S := by
  obtain ⟨g, c1, c2⟩ := h
  exact ⟨g, f.at hA h1 c1, c2⟩
theorem mRst.fr {γ : zG} {M M' : zM} {A : Nat → Nat} {K : List Nat} (hA : mIA A) (h : mRst γ M A) (f : mF A M M' K) (h2 : mNi 2 K) (h3 : mNi 3 K) (h10 : mNi 10 K) (h12 : mNi 12 K) (h14 : mNi 14 K) : mRst γ M' A := by
  obtain ⟨⟨a, a1, a2⟩, ⟨b, b1, b2⟩, ⟨c, c1⟩, ⟨d, d1⟩, x, x1, x2⟩ := h
  exact ⟨⟨a, f.at hA h2 a1, a2⟩, ⟨b, f.at hA h3 b1, b2⟩, ⟨c, f.at hA h10 c1⟩, ⟨d, f.at hA h12 d1⟩, x, f.at hA h14 x1, x2⟩
theorem mNi.al {K K0 : List Nat} {i : Nat} (h : K.all (fun j => K0.contains j) = true) (h0 : mNi i K0) : mNi i K := ⟨h0.1, fun j hj => h0.2 j (by
  have := List.all_eq_true.mp h j hj
  simpa using this)⟩
theorem mKp.al {K : List Nat} {F F' : Nat → Int} {i : Nat} (h : mKp K F F') (hi : K.contains i = false) : F' i = F i := h i (by simpa using hi)
/-- a question asked: scratch cells alone changed -/
theorem hMf.q {γ : zG} {M M' : zM} {A : Nat → Nat} {F F' : Nat → Int} {Y : zSys} {K K' : List Nat} (hA : mIA A) (h : hMf γ M A F Y) (f : mF A M M' K) (hK : K.all (fun j => [0, 3, 7, 8, 9, 10, 12, 14].contains j) = true) (kp : mKp K' F F') (hK' : K'.all (fun j => [8, 10, 13, 15, 16, 17, 31, 32].contains j) = true) (sc : mSc γ M' A F') (rs : mRst γ M' A) : hMf γ M' A F' Y := by
  obtain ⟨a, ⟨b1, b2⟩, c, d, e, g, i, -⟩ := h
  have n := fun i (h0 : mNi i [0, 3, 7, 8, 9, 10, 12, 14]) => mNi.al hK h0
  have k : ∀ i, [8, 10, 13, 15, 16, 17, 31, 32].contains i = false → F' i = F i := fun i hi => kp i (fun w => by
    have := List.all_eq_true.mp hK' i w
    rw [hi] at this
    cases this)
  exact ⟨sc, ⟨(k 25 rfl).trans b1, (k 26 rfl).trans b2⟩, c.fr hA f (n 4 (.of rfl)) (k 6 rfl) (k 7 rfl), d.fr hA f (n 5 (.of rfl)) (n 6 (.of rfl)), e.fr hA f (n 11 (.of rfl)) (k 19 rfl), g.fr hA f (n 13 (.of rfl)) (k 29 rfl), i.fr hA f (n 1 (.of rfl)), rs⟩
/-- as hMf.q, the scratch cells 7 to 9 alone -/
theorem hMf.q1 {γ : zG} {M M' : zM} {A : Nat → Nat} {F F' : Nat → Int} {Y : zSys} {K K' : List Nat} (hA : mIA A) (h : hMf γ M A F Y) (f : mF A M M' K) (hK : K.all (fun j => [0, 7, 8, 9].contains j) = true) (kp : mKp K' F F') (hK' : K'.all (fun j => [8, 10, 13, 15, 16, 17, 31, 32].contains j) = true) (sc : mSc γ M' A F') : hMf γ M' A F' Y := by
  have n := fun i (h0 : mNi i [0, 7, 8, 9]) => mNi.al hK h0
  refine h.q hA f ?_ kp hK' sc (h.2.2.2.2.2.2.2.fr hA f (n 2 (.of rfl)) (n 3 (.of rfl)) (n 10 (.of rfl)) (n 12 (.of rfl)) (n 14 (.of rfl)))
  rw [List.all_eq_true] at hK ⊢
  intro x hx
  have := hK x hx
  simp at this ⊢
  omega
theorem mSc.ob {γ : zG} {M M' : zM} {A : Nat → Nat} {F F' : Nat → Int} (hA : mIA A) (h : mSc γ M A F) (f : mF A M M' [0]) (hO : M' (A 0) = some (mOb A F')) : mSc γ M' A F' := by
  obtain ⟨a, ⟨h, b1, b2⟩, ⟨f1, c1, c2⟩, ⟨g1, d1, d2⟩⟩ := h
  exact ⟨hO, ⟨h, f.at hA (.of rfl) b1, b2⟩, ⟨f1, f.at hA (.of rfl) c1, c2⟩, ⟨g1, f.at hA (.of rfl) d1, d2⟩⟩
/-- the object alone changed -/
theorem hMf.q0 {γ : zG} {M M' : zM} {A : Nat → Nat} {F F' : Nat → Int} {Y : zSys} {K' : List Nat} (hA : mIA A) (h : hMf γ M A F Y) (f : mF A M M' [0]) (hO : M' (A 0) = some (mOb A F')) (kp : mKp K' F F') (hK' : K'.all (fun j => [8, 10, 13, 15, 16, 17, 31, 32].contains j) = true) : hMf γ M' A F' Y := h.q1 hA f rfl kp hK' (h.1.ob hA f hO)
/-- a test: what it leaves in thrown -/
def mGd (γ : zG) (A : Nat → Nat) (M : zM) (F : Nat → Int) (th : Int) : Option Value → zM → Prop := fun v' M' => ∃ (r : Int) (F' : Nat → Int), v' = some (.int (zi r)) ∧ mF A M M' [0] ∧ M' (A 0) = some (mOb A F') ∧ mKp [8] F F' ∧ F' 8 = th ∧ zB r (th ≠ 0)
set_option maxHeartbeats 4000000 in
set_option maxRecDepth 100000 in
theorem k_X9_refuses {l : Launch} {γ : zG} {M : zM} {A : Nat → Nat} {F : Nat → Int} {r w : Int} (hA : mIA A) (hO : M (A 0) = some (mOb A F)) (hr : 0 ≤ r ∧ r ≤ 1) (hw : 1 ≤ w ∧ w ≤ 2) (h8 : 0 ≤ F 8 ∧ F 8 ≤ 2) :
    zCon l γ yX9_refuses cX9_refuses 3 (some .boolean) [.ref (A 0), .int (zi r), .int (zi w)] M 0 0 0 0 (mGd γ A M F (if F 8 = 0 ∧ r ≠ 0 then w else F 8)) (fun _ _ => False) := by
  refine zEnter [some (.ref (A 0)), some (.int (zi r)), some (.int (zi w))] (by decide +kernel) rfl rfl (Nat.le_of_ble_eq_true rfl) ?_
  intro p e s m args below meth c Q C hin hQ
  refine z_iload_n C dX9_refuses_0 rfl ?_
  refine z_if_eqZ (tgt := 16) C dX9_refuses_1 (by decide) (by omega) (fun h1 => ?_) (fun h1 => ?_)
  · refine z_aload_n C dX9_refuses_16 rfl ?_
    refine z_getM C dX9_refuses_17 fl_X9_85 (by first | assumption | ((repeat (first | assumption | exact va_up_self _ _ _ | refine (va_up_ne _ _ (by first | assumption | exact hA.ne (by decide) | exact hA.ne (by omega))).trans ?_)); done)) rfl (by first | assumption | ((repeat (first | assumption | exact va_up_self _ _ _ | rewrite [va_up_ne _ _ (by decide)])); (first | done | exact rfl))) ?_
    refine z_if_eqZ (tgt := 27) C dX9_refuses_20 (by decide) (by omega) (fun h20 => ?_) (fun h20 => ?_)
    · refine z_iconst C dX9_refuses_27 ?_
      refine z_iret C hQ dX9_refuses_28 rfl (by decide) (by decide) ?_
      exact ⟨0, F, rfl, mF.rf, hO, mKp.rf, by rw [if_neg (by omega)], .inr ⟨rfl, by rw [if_neg (by omega)]; omega⟩⟩
    · refine z_iconst C dX9_refuses_23 ?_
      refine z_goto (tgt := 28) C dX9_refuses_24 (by decide) ?_
      refine z_iret C hQ dX9_refuses_28 rfl (by decide) (by decide) ?_
      exact ⟨1, F, rfl, mF.rf, hO, mKp.rf, by rw [if_neg (by omega)], .inl ⟨rfl, by rw [if_neg (by omega)]; omega⟩⟩
  · refine z_aload_n C dX9_refuses_4 rfl ?_
    refine z_getM C dX9_refuses_5 fl_X9_85 (by first | assumption | ((repeat (first | assumption | exact va_up_self _ _ _ | refine (va_up_ne _ _ (by first | assumption | exact hA.ne (by decide) | exact hA.ne (by omega))).trans ?_)); done)) rfl (by first | assumption | ((repeat (first | assumption | exact va_up_self _ _ _ | rewrite [va_up_ne _ _ (by decide)])); (first | done | exact rfl))) ?_
    refine z_if_neZ (tgt := 16) C dX9_refuses_8 (by decide) (by omega) (fun h8 => ?_) (fun h8 => ?_)
    · refine z_aload_n C dX9_refuses_16 rfl ?_
      refine z_getM C dX9_refuses_17 fl_X9_85 (by first | assumption | ((repeat (first | assumption | exact va_up_self _ _ _ | refine (va_up_ne _ _ (by first | assumption | exact hA.ne (by decide) | exact hA.ne (by omega))).trans ?_)); done)) rfl (by first | assumption | ((repeat (first | assumption | exact va_up_self _ _ _ | rewrite [va_up_ne _ _ (by decide)])); (first | done | exact rfl))) ?_
      refine z_if_eqZ (tgt := 27) C dX9_refuses_20 (by decide) (by omega) (fun h20 => ?_) (fun h20 => ?_)
      · refine z_iconst C dX9_refuses_27 ?_
        refine z_iret C hQ dX9_refuses_28 rfl (by decide) (by decide) ?_
        exact ⟨0, F, rfl, mF.rf, hO, mKp.rf, by rw [if_neg (by omega)], .inr ⟨rfl, by rw [if_neg (by omega)]; omega⟩⟩
      · refine z_iconst C dX9_refuses_23 ?_
        refine z_goto (tgt := 28) C dX9_refuses_24 (by decide) ?_
        refine z_iret C hQ dX9_refuses_28 rfl (by decide) (by decide) ?_
        exact ⟨1, F, rfl, mF.rf, hO, mKp.rf, by rw [if_neg (by omega)], .inl ⟨rfl, by rw [if_neg (by omega)]; omega⟩⟩
    · refine z_aload_n C dX9_refuses_11 rfl ?_
      refine z_iload_n C dX9_refuses_12 rfl ?_
      refine z_putM C dX9_refuses_13 fl_X9_85 (by first | assumption | ((repeat (first | assumption | exact va_up_self _ _ _ | refine (va_up_ne _ _ (by first | assumption | exact hA.ne (by decide) | exact hA.ne (by omega))).trans ?_)); done)) rfl ?_
      refine z_aload_n C dX9_refuses_16 rfl ?_
      refine z_getM C dX9_refuses_17 fl_X9_85 (by first | assumption | ((repeat (first | assumption | exact va_up_self _ _ _ | refine (va_up_ne _ _ (by first | assumption | exact hA.ne (by decide) | exact hA.ne (by omega))).trans ?_)); done)) rfl (by first | assumption | ((repeat (first | assumption | exact va_up_self _ _ _ | rewrite [va_up_ne _ _ (by decide)])); (first | done | exact rfl))) ?_
      refine z_if_eqZ (tgt := 27) C dX9_refuses_20 (by decide) (by omega) (fun h20 => ?_) (fun h20 => ?_)
      · refine z_iconst C dX9_refuses_27 ?_
        refine z_iret C hQ dX9_refuses_28 rfl (by decide) (by decide) ?_
        exact ⟨0, _, rfl, mF.rf.up rfl, va_up_self _ _ _, mKp.rf.up rfl, by rw [if_pos (by omega)]; exact va_up_self _ _ _, .inr ⟨rfl, by rw [if_pos (by omega)]; omega⟩⟩
      · refine z_iconst C dX9_refuses_23 ?_
        refine z_goto (tgt := 28) C dX9_refuses_24 (by decide) ?_
        refine z_iret C hQ dX9_refuses_28 rfl (by decide) (by decide) ?_
        exact ⟨1, _, rfl, mF.rf.up rfl, va_up_self _ _ _, mKp.rf.up rfl, by rw [if_pos (by omega)]; exact va_up_self _ _ _, .inl ⟨rfl, by rw [if_pos (by omega)]; omega⟩⟩
set_option maxHeartbeats 4000000 in
set_option maxRecDepth 100000 in
theorem k_X9_noNumber {l : Launch} {γ : zG} {M : zM} {A : Nat → Nat} {F : Nat → Int} {x a b : Int} (hA : mIA A) (hO : M (A 0) = some (mOb A F)) (hx : zR x) (ha : zR a) (hb : zR b) :
    zCon l γ yX9_noNumber cX9_noNumber 4 (some .boolean) [.ref (A 0), .int (zi x), .int (zi a), .int (zi b)] M 1 22 0 0 (mGd γ A M F (if a ≤ x ∧ x ≤ b then 0 else 1)) (fun _ _ => False) := by
  refine zEnter [some (.ref (A 0)), some (.int (zi x)), some (.int (zi a)), some (.int (zi b))] (by decide +kernel) rfl rfl (Nat.le_of_ble_eq_true rfl) ?_
  intro p e s m args below meth c Q C hin hQ
  have tl : ∀ M1 : zM, mF A M M1 [0] → M1 (A 0) = some (mOb A (va_up F 8 0)) → ∀ r : Int, (r = 0 ∨ r = 1) → (r = 0 ↔ (a ≤ x ∧ x ≤ b)) → zAW p l e { frames := 1, cells := 0, slots := 0, locals := 22 } s m args below meth c γ 4 Q M1 0 0 20 [some (.ref (A 0)), some (.int (zi x)), some (.int (zi a)), some (.int (zi b))] [.int (zi r), .ref (A 0)] := by
    intro M1 hf hO1 r hr hr2
    have h80 : va_up F 8 0 8 = 0 := va_up_self _ _ _
    refine z_iconst C dX9_noNumber_20 ?_
    refine z_callV C dX9_noNumber_21 lk_X9_189 mw_X9_refuses mi_X9_refuses ms_X9_refuses rfl (by first | assumption | ((repeat (first | assumption | exact va_up_self _ _ _ | refine (va_up_ne _ _ (by first | assumption | exact hA.ne (by decide) | exact hA.ne (by omega))).trans ?_)); done)) (k_X9_refuses hA hO1 (r := r) (w := 1) (by omega) (by omega) (by rw [h80]; omega)) rfl (by first | decide | exact Nat.le_of_ble_eq_true rfl) ⟨by decide, by decide, by decide, by decide⟩ (fun _ _ h => False.elim h) (fun v M' hp => ?_)
    obtain ⟨r21, F2, rfl, f21, o21, p21, e21, z21⟩ := hp
    have et : (if va_up F 8 0 8 = 0 ∧ r ≠ 0 then (1 : Int) else va_up F 8 0 8) = (if a ≤ x ∧ x ≤ b then 0 else 1) := by
      rw [h80]
      by_cases q : a ≤ x ∧ x ≤ b
      · rw [if_pos q, if_neg (by omega)]
      · rw [if_neg q, if_pos (by omega)]
    rw [et] at e21 z21
    refine z_iret C hQ dX9_noNumber_24 (by rcases z21 with ⟨w, -⟩ | ⟨w, -⟩ <;> subst w <;> rfl) (by decide) (by decide) ?_
    exact ⟨r21, F2, rfl, hf.tr f21 ⟨rfl, rfl⟩, o21, (mKp.rf.up rfl : mKp [8] F (va_up F 8 0)).tr p21 ⟨rfl, rfl⟩, e21, z21⟩
  refine z_aload_n C dX9_noNumber_0 rfl ?_
  refine z_iconst C dX9_noNumber_1 ?_
  refine z_putM C dX9_noNumber_2 fl_X9_85 (by first | assumption | ((repeat (first | assumption | exact va_up_self _ _ _ | refine (va_up_ne _ _ (by first | assumption | exact hA.ne (by decide) | exact hA.ne (by omega))).trans ?_)); done)) rfl ?_
  refine z_aload_n C dX9_noNumber_5 rfl ?_
  refine z_iload_n C dX9_noNumber_6 rfl ?_
  refine z_iload_n C dX9_noNumber_7 rfl ?_
  refine z_iload_n C dX9_noNumber_8 rfl ?_
  refine z_callS C dX9_noNumber_9 lk_X9_128 mw_X9_isBetween mst_X9_isBetween (k_X9_isBetween hx ha hb) rfl (by first | decide | exact Nat.le_of_ble_eq_true rfl) ⟨by decide, by decide, by decide, by decide⟩ (fun _ _ h => False.elim h) (fun v M' hp => ?_)
  obtain ⟨r9, rfl, rfl, q9⟩ := hp
  have s9 := q9.rng
  refine z_if_neZ (tgt := 19) C dX9_noNumber_12 (by decide) (by omega) (fun h12 => ?_) (fun h12 => ?_)
  · refine z_iconst C dX9_noNumber_19 ?_
    exact tl _ (mF.rf.up rfl) (va_up_self _ _ _) 0 (.inl rfl) ⟨fun _ => q9.t h12, fun _ => rfl⟩
  · refine z_iconst C dX9_noNumber_15 ?_
    refine z_goto (tgt := 20) C dX9_noNumber_16 (by decide) ?_
    exact tl _ (mF.rf.up rfl) (va_up_self _ _ _) 1 (.inr rfl) ⟨fun w => by omega, fun w => absurd w (q9.f h12)⟩
set_option maxHeartbeats 4000000 in
set_option maxRecDepth 100000 in
theorem k_X9_out {l : Launch} {γ : zG} {M : zM} {A : Nat → Nat} {F : Nat → Int} {x a b : Int} (hA : mIA A) (hO : M (A 0) = some (mOb A F)) (h8 : F 8 = 0) (hx : zR x) (ha : zR a) (hb : zR b) :
    zCon l γ yX9_out cX9_out 4 (some .boolean) [.ref (A 0), .int (zi x), .int (zi a), .int (zi b)] M 1 22 0 0 (mGd γ A M F (if a ≤ x ∧ x ≤ b then 0 else 2)) (fun _ _ => False) := by
  refine zEnter [some (.ref (A 0)), some (.int (zi x)), some (.int (zi a)), some (.int (zi b))] (by decide +kernel) rfl rfl (Nat.le_of_ble_eq_true rfl) ?_
  intro p e s m args below meth c Q C hin hQ
  have tl : ∀ r : Int, (r = 0 ∨ r = 1) → (r = 0 ↔ (a ≤ x ∧ x ≤ b)) → zAW p l e { frames := 1, cells := 0, slots := 0, locals := 22 } s m args below meth c γ 4 Q M 0 0 15 [some (.ref (A 0)), some (.int (zi x)), some (.int (zi a)), some (.int (zi b))] [.int (zi r), .ref (A 0)] := by
    intro r hr hr2
    refine z_iconst C dX9_out_15 ?_
    refine z_callV C dX9_out_16 lk_X9_189 mw_X9_refuses mi_X9_refuses ms_X9_refuses rfl (by first | assumption | ((repeat (first | assumption | exact va_up_self _ _ _ | refine (va_up_ne _ _ (by first | assumption | exact hA.ne (by decide) | exact hA.ne (by omega))).trans ?_)); done)) (k_X9_refuses hA hO (r := r) (w := 2) (by omega) (by omega) (by rw [h8]; omega)) rfl (by first | decide | exact Nat.le_of_ble_eq_true rfl) ⟨by decide, by decide, by decide, by decide⟩ (fun _ _ h => False.elim h) (fun v M' hp => ?_)
    obtain ⟨r21, F2, rfl, f21, o21, p21, e21, z21⟩ := hp
    have et : (if F 8 = 0 ∧ r ≠ 0 then (2 : Int) else F 8) = (if a ≤ x ∧ x ≤ b then 0 else 2) := by
      rw [h8]
      by_cases q : a ≤ x ∧ x ≤ b
      · rw [if_pos q, if_neg (by omega)]
      · rw [if_neg q, if_pos (by omega)]
    rw [et] at e21 z21
    refine z_iret C hQ dX9_out_19 (by rcases z21 with ⟨w, -⟩ | ⟨w, -⟩ <;> subst w <;> rfl) (by decide) (by decide) ?_
    exact ⟨r21, F2, rfl, f21, o21, p21, e21, z21⟩
  refine z_aload_n C dX9_out_0 rfl ?_
  refine z_iload_n C dX9_out_1 rfl ?_
  refine z_iload_n C dX9_out_2 rfl ?_
  refine z_iload_n C dX9_out_3 rfl ?_
  refine z_callS C dX9_out_4 lk_X9_128 mw_X9_isBetween mst_X9_isBetween (k_X9_isBetween hx ha hb) rfl (by first | decide | exact Nat.le_of_ble_eq_true rfl) ⟨by decide, by decide, by decide, by decide⟩ (fun _ _ h => False.elim h) (fun v M' hp => ?_)
  obtain ⟨r9, rfl, rfl, q9⟩ := hp
  have s9 := q9.rng
  refine z_if_neZ (tgt := 14) C dX9_out_7 (by decide) (by omega) (fun h7 => ?_) (fun h7 => ?_)
  · refine z_iconst C dX9_out_14 ?_
    exact tl 0 (.inl rfl) ⟨fun _ => q9.t h7, fun _ => rfl⟩
  · refine z_iconst C dX9_out_10 ?_
    refine z_goto (tgt := 15) C dX9_out_11 (by decide) ?_
    exact tl 1 (.inr rfl) ⟨fun w => by omega, fun w => absurd w (q9.f h7)⟩

