/-! the model ranks all symbols -/
/-- the cells of a question: the object, the laid counts, the ranking, the ranks -/
def mSc (γ : zG) (M : zM) (A : Nat → Nat) (F : Nat → Int) : Prop := M (A 0) = some (mOb A F) ∧ (∃ h, M (A 7) = some (zar γ 81 h) ∧ ∀ j, zR (h j)) ∧ (∃ f, M (A 8) = some (zar γ 27 f) ∧ ∀ j, zR (f j)) ∧ ∃ h, M (A 9) = some (zar γ 27 h) ∧ ∀ j, zR (h j)
theorem mF.mo {A : Nat → Nat} {M M1 : zM} {K K1 : List Nat} (h : mF A M M1 K1) (s : K1.all (fun i => K.contains i) = true) : mF A M M1 K := h.tr (K2 := []) mF.rf ⟨s, rfl⟩
/-- a ranking under way -/
def mRv (c : Int → Int) (b p o : Int) (f h : Nat → Int) (n : Int) : Prop := (0 ≤ n ∧ n ≤ 27) ∧ (∀ j : Nat, j < n → (0 ≤ f j ∧ f j < 27) ∧ h (f j).toNat = j + 1) ∧ (∀ s : Int, 0 ≤ s → s < 27 → h s.toNat = 0 ∨ (1 ≤ h s.toNat ∧ h s.toNat ≤ n ∧ f (h s.toNat - 1).toNat = s)) ∧ (∀ i j : Nat, i < j → j < n → zbf c b p (f i) (f j)) ∧ (∀ j : Nat, j < n → ∀ s : Int, 0 ≤ s → s < 27 → h s.toNat = 0 → zbf c b p (f j) s) ∧ ∀ s : Int, 0 ≤ s → s < 27 → o < zlv c b p s → h s.toNat ≠ 0
theorem mRv.lt {c : Int → Int} {b p o : Int} {f h : Nat → Int} {n s0 : Int} (q : mRv c b p o f h n) (hs : 0 ≤ s0 ∧ s0 < 27) (h0 : h s0.toNat = 0) : n < 27 := by
  obtain ⟨h1, h2, h3, h4, h5, h6⟩ := q
  have := zpig (ks := fun j => if j = n.toNat then s0 else f j) (n.toNat + 1) ((List.range 27).map fun (j : Nat) => (j : Int)) (fun j hj => by
    have q : 0 ≤ (if j = n.toNat then s0 else f j) ∧ (if j = n.toNat then s0 else f j) < 27 := by
      split
      · exact hs
      · exact (h2 j (by omega)).1
    exact List.mem_map.mpr ⟨(if j = n.toNat then s0 else f j).toNat, List.mem_range.mpr (by omega), by show ((Int.toNat _ : Nat) : Int) = _; omega⟩) (fun i j hi hj => by
    show (if i = n.toNat then s0 else f i) ≠ (if j = n.toNat then s0 else f j)
    rw [if_neg (by omega)]
    have k1 := h2 i (by omega)
    split
    · intro w
      rw [w, h0] at k1
      omega
    · intro w
      have k2 := h2 j (by omega)
      rw [w] at k1
      omega)
  simp at this
  omega
theorem mRv.app {c : Int → Int} {b p o : Int} {f h : Nat → Int} {n s0 : Int} (q : mRv c b p o f h n) (hs : 0 ≤ s0 ∧ s0 < 27) (h0 : h s0.toNat = 0) (hb : ∀ s : Int, 0 ≤ s → s < 27 → s ≠ s0 → h s.toNat = 0 → zbf c b p s0 s) : mRv c b p o (va_up f n.toNat s0) (va_up h s0.toNat (n + 1)) (n + 1) := by
  have hl := q.lt hs h0
  obtain ⟨h1, h2, h3, h4, h5, h6⟩ := q
  have ne : ∀ j : Nat, j < n → (f j).toNat ≠ s0.toNat := fun j hj w => by
    have := h2 j hj
    rw [w, h0] at this
    omega
  refine ⟨by omega, fun j hj => ?_, fun s s1 s2 => ?_, fun i j hi hj => ?_, fun j hj s s1 s2 s3 => ?_, fun s s1 s2 s3 => ?_⟩
  · by_cases e : j = n.toNat
    · subst e
      rw [va_up_self, va_up_self]
      omega
    · rw [va_up_ne _ _ e, va_up_ne _ _ (ne j (by omega))]
      exact h2 j (by omega)
  · by_cases e : s = s0
    · subst e
      rw [va_up_self]
      refine .inr ⟨by omega, by omega, ?_⟩
      rw [show (n + 1 - 1).toNat = n.toNat by omega, va_up_self]
    · rw [va_up_ne _ _ (show s.toNat ≠ s0.toNat by omega)]
      rcases h3 s s1 s2 with w | ⟨w1, w2, w3⟩
      · exact .inl w
      · refine .inr ⟨w1, by omega, ?_⟩
        rw [va_up_ne _ _ (by omega)]
        exact w3
  · by_cases e : j = n.toNat
    · subst e
      rw [va_up_self, va_up_ne _ _ (by omega)]
      exact h5 i (by omega) s0 hs.1 hs.2 h0
    · rw [va_up_ne _ _ e, va_up_ne _ _ (by omega)]
      exact h4 i j hi (by omega)
  · have es : s ≠ s0 := fun w => by
      subst w
      rw [va_up_self] at s3
      omega
    rw [va_up_ne _ _ (show s.toNat ≠ s0.toNat by omega)] at s3
    by_cases e : j = n.toNat
    · subst e
      rw [va_up_self]
      exact hb s s1 s2 es s3
    · rw [va_up_ne _ _ e]
      exact h5 j (by omega) s s1 s2 s3
  · by_cases e : s = s0
    · subst e
      rw [va_up_self]
      omega
    · rw [va_up_ne _ _ (show s.toNat ≠ s0.toNat by omega)]
      exact h6 s s1 s2 s3
theorem zcR.nn {c : Int → Int} (h : zcR c) (x : Int) : 0 ≤ c x := (h x).1
theorem mRv.best {c : Int → Int} {b p o x : Int} {f h c7 : Nat → Int} {n : Int} (q : mRv c b p o f h n) (hc : zcR c) (ho : 0 ≤ o ∧ o ≤ zFo b p) (hx : x = zFo b p - o) (hK : mLk c b p c7) (hm : mbs c7 h x 27 ≠ -1) : (0 ≤ mbs c7 h x 27 ∧ mbs c7 h x 27 < 27) ∧ h (mbs c7 h x 27).toNat = 0 ∧ ∀ s : Int, 0 ≤ s → s < 27 → s ≠ mbs c7 h x 27 → h s.toNat = 0 → zbf c b p (mbs c7 h x 27) s := by
  subst hx
  have rg := mbs_rng c7 h (zFo b p - o) 27
  rcases mbs_sp c7 h (zFo b p - o) 27 with ⟨i1, -⟩ | ⟨i1, i2, i3, i4⟩
  · exact absurd i1 hm
  · generalize mbs c7 h (zFo b p - o) 27 = w at *
    refine ⟨by omega, i3, fun s s1 s2 s3 s4 => ?_⟩
    have k0 := hK o w ho.1 ho.2 i1 (by omega)
    rw [k0] at i2 i4
    have lw1 : o ≤ zlv c b p w := zlv_ge ho (by omega)
    have lw : zlv c b p w = o := by
      by_cases e : o < zlv c b p w
      · exact absurd i3 (q.2.2.2.2.2 w i1 (by omega) e)
      · omega
    have ls : zlv c b p s ≤ o := by
      by_cases e : o < zlv c b p s
      · exact absurd s4 (q.2.2.2.2.2 s s1 s2 e)
      · omega
    by_cases e : zlv c b p s = o
    · have ks := hK o s ho.1 ho.2 s1 s2
      have cs : c (zCs o b p + s) ≠ 0 := fun z => zlv_ne ho.1 z e
      have cn := hc.nn (zCs o b p + s)
      have := i4 s.toNat (by omega) (by rw [show ((s.toNat : Nat) : Int) = s by omega, ks]; omega) s4
      rw [show ((s.toNat : Nat) : Int) = s by omega, ks] at this
      refine .inr ⟨by omega, ?_⟩
      rw [zwt_at ho.1 lw, zwt_at ho.1 e]
      omega
    · exact .inl (by omega)
theorem mRv.next {c : Int → Int} {b p o x : Int} {f h c7 : Nat → Int} {n : Int} (q : mRv c b p o f h n) (hc : zcR c) (ho : 0 ≤ o ∧ o ≤ zFo b p) (hx : x = zFo b p - o) (hK : mLk c b p c7) (hm : mbs c7 h x 27 = -1) : mRv c b p (o - 1) f h n := by
  subst hx
  refine ⟨q.1, q.2.1, q.2.2.1, q.2.2.2.1, q.2.2.2.2.1, fun s s1 s2 s3 w => ?_⟩
  rcases mbs_sp c7 h (zFo b p - o) 27 with ⟨-, i2⟩ | ⟨i1, -⟩
  · by_cases e : o < zlv c b p s
    · exact q.2.2.2.2.2 s s1 s2 e w
    · have ks := hK o s ho.1 ho.2 s1 s2
      have cs : c (zCs o b p + s) ≠ 0 := fun z => zlv_ne ho.1 z (by omega)
      have cn := hc.nn (zCs o b p + s)
      refine i2 s.toNat (by omega) ⟨?_, w⟩
      rw [show ((s.toNat : Nat) : Int) = s by omega, ks]
      omega
  · omega
theorem mRv.fin {c : Int → Int} {b p o : Int} {f h : Nat → Int} {n : Int} (q : mRv c b p o f h n) (ha : ∀ s : Int, 0 ≤ s → s < 27 → h s.toNat ≠ 0) : zFl c b p f ∧ ∀ s : Int, 0 ≤ s → s < 27 → h s.toNat = zrk c b p s := by
  obtain ⟨h1, h2, h3, h4, h5, h6⟩ := q
  have hn := zpig (ks := fun j => h j) 27 ((List.range n.toNat).map fun (j : Nat) => (j : Int) + 1) (fun j hj => by
    have k1 := ha j (by omega) (by omega)
    have k2 := h3 j (by omega) (by omega)
    rw [show (j : Int).toNat = j by omega] at k1 k2
    exact List.mem_map.mpr ⟨(h j - 1).toNat, List.mem_range.mpr (by omega), by show (((h j - 1).toNat : Nat) : Int) + 1 = _; omega⟩) (fun i j hi hj w => by
    have k1 := ha j (by omega) (by omega)
    have k2 := h3 j (by omega) (by omega)
    have k3 := h3 i (by omega) (by omega)
    rw [show (j : Int).toNat = j by omega] at k1 k2
    rw [show (i : Int).toNat = i by omega] at k3
    have w : h i = h j := w
    rw [w] at k3
    omega)
  simp at hn
  have hf : zFl c b p f := ⟨fun j hj => (h2 j (by omega)).1, fun i j hi hj => h4 i j hi (by omega), fun s s1 s2 => by
    have k1 := ha s s1 s2
    have k2 := h3 s s1 s2
    exact ⟨(h s.toNat - 1).toNat, by omega, by omega⟩⟩
  refine ⟨hf, fun s s1 s2 => ?_⟩
  have k1 := ha s s1 s2
  have k2 := h3 s s1 s2
  have := hf.rk (i := (h s.toNat - 1).toNat) (by omega)
  rw [show f (h s.toNat - 1).toNat = s by omega] at this
  omega
/-- the cells while a ranking is under way -/
def mRs (γ : zG) (A : Nat → Nat) (M M1 : zM) (F F1 : Nat → Int) (fo : Int) (c7 f h : Nat → Int) (n : Int) : Prop := mF A M M1 [0, 7, 8, 9] ∧ mKp [10, 13] F F1 ∧ F1 10 = fo + 1 ∧ F1 13 = n ∧ M1 (A 0) = some (mOb A F1) ∧ M1 (A 7) = some (zar γ 81 c7) ∧ (∀ j, zR (c7 j)) ∧ M1 (A 8) = some (zar γ 27 f) ∧ (∀ j, zR (f j)) ∧ M1 (A 9) = some (zar γ 27 h) ∧ ∀ j, zR (h j)
theorem mRs.app {γ : zG} {A : Nat → Nat} {M M1 M2 : zM} {F F1 : Nat → Int} {fo : Int} {c7 f h f' h' : Nat → Int} {n : Int} (hA : mIA A) (q : mRs γ A M M1 F F1 fo c7 f h n) (h1 : mF A M1 M2 [0, 8, 9]) (h2 : M2 (A 0) = some (mOb A (va_up F1 13 (n + 1)))) (h3 : M2 (A 8) = some (zar γ 27 f')) (h4 : ∀ j, zR (f' j)) (h5 : M2 (A 9) = some (zar γ 27 h')) (h6 : ∀ j, zR (h' j)) : mRs γ A M M2 F (va_up F1 13 (n + 1)) fo c7 f' h' (n + 1) := by
  obtain ⟨q1, q2, q3, q4, q5, q6, q7, q8, q9, q10, q11⟩ := q
  exact ⟨q1.tr h1 ⟨rfl, rfl⟩, q2.up rfl, by rw [va_up_ne _ _ (by decide)]; exact q3, va_up_self _ _ _, h2, h1.at hA (.of rfl) q6, q7, h3, h4, h5, h6⟩
set_option maxHeartbeats 4000000 in
set_option maxRecDepth 100000 in
theorem k_X9_rankAll {l : Launch} {γ : zG} {M : zM} {A : Nat → Nat} {F : Nat → Int} {kq : Nat} {g : Nat → Int} {r b0 p0 : Int} {c0 : Int → Int} {G : List Int} (hA : mIA A) (hO : mSc γ M A F) (hk : mRw kq) (hM : M (A kq) = some (zar γ 5987 g)) (hg : ∀ j, zR (g j)) (hr : 0 ≤ r ∧ r < 4) (hb : -1 ≤ b0 ∧ b0 < 27) (hp0 : -1 ≤ p0 ∧ p0 < 27) (hv : b0 ≠ -1 → p0 ≠ -1) (hL : mRp g r c0 G) (hG : ∀ x, x ∈ G → 0 ≤ x ∧ x < 20439) (hc : zcR c0) :
    zCon l γ yX9_rankAll cX9_rankAll 7 none [.ref (A 0), .ref (A kq), .int (zi r), .int (zi b0), .int (zi p0)] M 3 70 0 0 (fun v' M' => v' = none ∧ mF A M M' [0, 7, 8, 9] ∧ ∃ F', mKp [10, 13] F F' ∧ mSc γ M' A F' ∧ (∃ f, M' (A 8) = some (zar γ 27 f) ∧ (∀ j, zR (f j)) ∧ zFl c0 b0 p0 f) ∧ ∃ h, M' (A 9) = some (zar γ 27 h) ∧ (∀ j, zR (h j)) ∧ ∀ s : Int, 0 ≤ s → s < 27 → h s.toNat = zrk c0 b0 p0 s) (fun _ _ => False) := by
  have fo := zFo_cs hv
  obtain ⟨hO0, ⟨h70, hH7, hh7⟩, ⟨f0, hF8, hf8⟩, ⟨h90, hH9, hh9⟩⟩ := hO
  refine zEnter [some (.ref (A 0)), some (.ref (A kq)), some (.int (zi r)), some (.int (zi b0)), some (.int (zi p0)), none, none] (by decide +kernel) rfl rfl (Nat.le_of_ble_eq_true rfl) ?_
  intro p e s m args below meth c Q C hin hQ
  have last : ∀ (t : Nat) (M1 : zM) (F1 c7 f h : Nat → Int) (n x : Int) (x6 : Option Value), 27 - x = t → 0 ≤ x ∧ x ≤ 27 → mRs γ A M M1 F F1 (zFo b0 p0) c7 f h n → mRv c0 b0 p0 (-1) f h n → (∀ s : Int, 0 ≤ s → s < x → h s.toNat ≠ 0) → zAW p l e { frames := 3, cells := 0, slots := 0, locals := 70 } s m args below meth c γ 7 Q M1 0 0 90 [some (.ref (A 0)), some (.ref (A kq)), some (.int (zi r)), some (.int (zi b0)), some (.int (zi p0)), some (.int (zi x)), x6] [] := by
    intro t
    induction t with
    | zero =>
      intro M1 F1 c7 f h n x x6 ht hx hQ1 hV1 ha
      obtain rfl : x = 27 := by omega
      obtain ⟨w1, w2⟩ := hV1.fin (fun s s1 s2 => ha s s1 s2)
      obtain ⟨q1, q2, q3, q4, q5, q6, q7, q8, q9, q10, q11⟩ := hQ1
      refine z_iload C dX9_rankAll_90 rfl ?_
      refine z_bipush C dX9_rankAll_92 (by decide) ?_
      refine z_icmp_geZ (tgt := 119) C dX9_rankAll_94 (by decide) (by omega) (by omega) (fun h94 => ?_) (fun h94 => ?_)
      · refine z_vret C hQ dX9_rankAll_119 (by decide) (by decide) ?_
        exact ⟨rfl, q1, F1, q2, ⟨q5, ⟨_, q6, q7⟩, ⟨_, q8, q9⟩, ⟨_, q10, q11⟩⟩, ⟨f, q8, q9, w1⟩, h, q10, q11, w2⟩
      · exact absurd h94 (by omega)
    | succ t ih =>
      intro M1 F1 c7 f h n x x6 ht hx hQ1 hV1 ha
      obtain ⟨q1, q2, q3, q4, q5, q6, q7, q8, q9, q10, q11⟩ := id hQ1
      refine z_iload C dX9_rankAll_90 rfl ?_
      refine z_bipush C dX9_rankAll_92 (by decide) ?_
      refine z_icmp_geZ (tgt := 119) C dX9_rankAll_94 (by decide) (by omega) (by omega) (fun h94 => ?_) (fun h94 => ?_)
      · exact absurd h94 (by omega)
      · refine z_aload_n C dX9_rankAll_97 rfl ?_
        refine z_get C dX9_rankAll_98 fl_X9_36 (by first | assumption | ((repeat (first | assumption | exact va_up_self _ _ _ | refine (va_up_ne _ _ (by first | assumption | exact hA.ne (by decide) | exact hA.ne (by omega))).trans ?_)); done)) rfl ?_
        refine z_iload C dX9_rankAll_101 rfl ?_
        refine z_aldN C dX9_rankAll_103 (by first | assumption | ((repeat (first | assumption | exact va_up_self _ _ _ | refine (va_up_ne _ _ (by first | assumption | exact hA.ne (by decide) | exact hA.ne (by omega))).trans ?_)); done)) (by omega) (by omega) (by assumption) (fun hr103 => ?_)
        refine z_if_neZ (tgt := 113) C dX9_rankAll_104 (by decide) (by omega) (fun h104 => ?_) (fun h104 => ?_)
        · refine z_iincZ C dX9_rankAll_113 rfl (by decide) ?_
          refine z_goto (tgt := 90) C dX9_rankAll_116 (by decide) ?_
          exact ih M1 F1 c7 f h n (x + 1) x6 (by omega) (by omega) hQ1 hV1 (fun s s1 s2 => by
            by_cases e : s = x
            · subst e
              exact h104
            · exact ha s s1 (by omega))
        · refine z_aload_n C dX9_rankAll_107 rfl ?_
          refine z_iload C dX9_rankAll_108 rfl ?_
          have hlt := hV1.lt (s0 := x) (by omega) h104
          refine z_callV C dX9_rankAll_110 lk_X9_141 mw_X9_append mi_X9_append ms_X9_append rfl (by first | assumption | ((repeat (first | assumption | exact va_up_self _ _ _ | refine (va_up_ne _ _ (by first | assumption | exact hA.ne (by decide) | exact hA.ne (by omega))).trans ?_)); done)) (k_X9_append hA q5 q4 ⟨hV1.1.1, hlt⟩ (s0 := x) (by omega) q8 q9 q10 q11) rfl (by first | decide | exact Nat.le_of_ble_eq_true rfl) ⟨by decide, by decide, by decide, by decide⟩ (fun _ _ h => False.elim h) (fun v M' hp => ?_)
          obtain ⟨rfl, a1, a2, a3, a4, a5, a6⟩ := hp
          refine z_iincZ C dX9_rankAll_113 rfl (by decide) ?_
          refine z_goto (tgt := 90) C dX9_rankAll_116 (by decide) ?_
          refine ih _ _ c7 _ _ (n + 1) (x + 1) x6 (by omega) (by omega) (hQ1.app hA a1 a2 a3 a4 a5 a6) (hV1.app (s0 := x) (by omega) h104 fun s s1 s2 s3 s4 => ?_) (fun s s1 s2 => ?_)
          · have v1 : ∀ y : Int, 0 ≤ y → y < 27 → h y.toNat = 0 → zlv c0 b0 p0 y = -1 := fun y y1 y2 y3 => by
              have r1 := zlv_rng c0 b0 p0 y
              by_cases w : -1 < zlv c0 b0 p0 y
              · exact absurd y3 (hV1.2.2.2.2.2 y y1 y2 w)
              · omega
            have e1 := v1 x (by omega) (by omega) h104
            have e2 := v1 s s1 s2 s4
            have e3 : ¬ s < x := fun w => ha s s1 w s4
            exact .inr ⟨by omega, .inr ⟨by rw [zwt_no e1, zwt_no e2], by omega⟩⟩
          · by_cases e : s = x
            · subst e
              rw [va_up_self]
              have := hV1.1.1
              omega
            · rw [va_up_ne _ _ (show s.toNat ≠ x.toNat by omega)]
              exact ha s s1 (by omega)
  have inner : ∀ (t : Nat) (M1 : zM) (F1 c7 f h : Nat → Int) (n x : Int), 27 - n = t → 0 ≤ x ∧ x ≤ zFo b0 p0 → mLk c0 b0 p0 c7 → mRs γ A M M1 F F1 (zFo b0 p0) c7 f h n → mRv c0 b0 p0 (zFo b0 p0 - x) f h n → (∀ (M2 : zM) (F2 f2 h2 : Nat → Int) (n2 : Int), mRs γ A M M2 F F2 (zFo b0 p0) c7 f2 h2 n2 → mRv c0 b0 p0 (zFo b0 p0 - x - 1) f2 h2 n2 → zAW p l e { frames := 3, cells := 0, slots := 0, locals := 70 } s m args below meth c γ 7 Q M2 0 0 81 [some (.ref (A 0)), some (.ref (A kq)), some (.int (zi r)), some (.int (zi b0)), some (.int (zi p0)), some (.int (zi x)), some (.int (zi (-1)))] []) → zAW p l e { frames := 3, cells := 0, slots := 0, locals := 70 } s m args below meth c γ 7 Q M1 0 0 58 [some (.ref (A 0)), some (.ref (A kq)), some (.int (zi r)), some (.int (zi b0)), some (.int (zi p0)), some (.int (zi x)), some (.int (zi (mbs c7 h x 27)))] [] := by
    intro t
    induction t with
    | zero =>
      intro M1 F1 c7 f h n x ht hx hK hQ1 hV1 kk
      have rg := mbs_rng c7 h x 27
      have hm : mbs c7 h x 27 = -1 := by
        by_cases e : mbs c7 h x 27 = -1
        · exact e
        · have := hV1.best hc (by omega) (by omega) hK e
          have := hV1.lt this.1 this.2.1
          omega
      rw [hm]
      refine z_iload C dX9_rankAll_58 rfl ?_
      refine z_iconst C dX9_rankAll_60 ?_
      refine z_icmp_eqZ (tgt := 81) C dX9_rankAll_61 (by decide) (by omega) (by omega) (fun h61 => ?_) (fun h61 => ?_)
      · exact kk M1 F1 f h n hQ1 (hV1.next hc (by omega) (by omega) hK hm)
      · exact absurd h61 (by omega)
    | succ t ih =>
      intro M1 F1 c7 f h n x ht hx hK hQ1 hV1 kk
      have rg := mbs_rng c7 h x 27
      obtain ⟨q1, q2, q3, q4, q5, q6, q7, q8, q9, q10, q11⟩ := id hQ1
      by_cases hm : mbs c7 h x 27 = -1
      · rw [hm]
        refine z_iload C dX9_rankAll_58 rfl ?_
        refine z_iconst C dX9_rankAll_60 ?_
        refine z_icmp_eqZ (tgt := 81) C dX9_rankAll_61 (by decide) (by omega) (by omega) (fun h61 => ?_) (fun h61 => ?_)
        · exact kk M1 F1 f h n hQ1 (hV1.next hc (by omega) (by omega) hK hm)
        · exact absurd h61 (by omega)
      · obtain ⟨b1, b2, b3⟩ := hV1.best hc (by omega) (by omega) hK hm
        refine z_iload C dX9_rankAll_58 rfl ?_
        refine z_iconst C dX9_rankAll_60 ?_
        refine z_icmp_eqZ (tgt := 81) C dX9_rankAll_61 (by decide) (by omega) (by omega) (fun h61 => ?_) (fun h61 => ?_)
        · exact absurd h61 hm
        · refine z_aload_n C dX9_rankAll_64 rfl ?_
          refine z_iload C dX9_rankAll_65 rfl ?_
          refine z_callV C dX9_rankAll_67 lk_X9_141 mw_X9_append mi_X9_append ms_X9_append rfl (by first | assumption | ((repeat (first | assumption | exact va_up_self _ _ _ | refine (va_up_ne _ _ (by first | assumption | exact hA.ne (by decide) | exact hA.ne (by omega))).trans ?_)); done)) (k_X9_append hA q5 q4 ⟨hV1.1.1, hV1.lt b1 b2⟩ b1 q8 q9 q10 q11) rfl (by first | decide | exact Nat.le_of_ble_eq_true rfl) ⟨by decide, by decide, by decide, by decide⟩ (fun _ _ h => False.elim h) (fun v M' hp => ?_)
          obtain ⟨rfl, a1, a2, a3, a4, a5, a6⟩ := hp
          have hQ2 := hQ1.app hA a1 a2 a3 a4 a5 a6
          have hV2 := hV1.app b1 b2 b3
          obtain ⟨p1, p2, p3, p4, p5, p6, p7, p8, p9, p10, p11⟩ := id hQ2
          refine z_aload_n C dX9_rankAll_70 rfl ?_
          refine z_iload C dX9_rankAll_71 rfl ?_
          refine z_callV C dX9_rankAll_73 lk_X9_138 mw_X9_bestOf mi_X9_bestOf ms_X9_bestOf rfl (by first | assumption | ((repeat (first | assumption | exact va_up_self _ _ _ | refine (va_up_ne _ _ (by first | assumption | exact hA.ne (by decide) | exact hA.ne (by omega))).trans ?_)); done)) (k_X9_bestOf hA p5 (o := x) (by omega) p6 p7 p10 p11) rfl (by first | decide | exact Nat.le_of_ble_eq_true rfl) ⟨by decide, by decide, by decide, by decide⟩ (fun _ _ h => False.elim h) (fun v M' hp => ?_)
          obtain ⟨rfl, rfl⟩ := hp
          refine z_istore C dX9_rankAll_76 (by decide) ?_
          refine z_goto (tgt := 58) C dX9_rankAll_78 (by decide) ?_
          exact ih _ _ c7 _ _ (n + 1) x (by omega) hx hK hQ2 hV2 kk
  have outer : ∀ (t : Nat) (M1 : zM) (F1 c7 f h : Nat → Int) (n x : Int) (x6 : Option Value), zFo b0 p0 + 1 - x = t → 0 ≤ x ∧ x ≤ zFo b0 p0 + 1 → mLk c0 b0 p0 c7 → mRs γ A M M1 F F1 (zFo b0 p0) c7 f h n → mRv c0 b0 p0 (zFo b0 p0 - x) f h n → zAW p l e { frames := 3, cells := 0, slots := 0, locals := 70 } s m args below meth c γ 7 Q M1 0 0 41 [some (.ref (A 0)), some (.ref (A kq)), some (.int (zi r)), some (.int (zi b0)), some (.int (zi p0)), some (.int (zi x)), x6] [] := by
    intro t
    induction t with
    | zero =>
      intro M1 F1 c7 f h n x x6 ht hx hK hQ1 hV1
      obtain rfl : x = zFo b0 p0 + 1 := by omega
      obtain ⟨q1, q2, q3, q4, q5, q6, q7, q8, q9, q10, q11⟩ := id hQ1
      rw [show zFo b0 p0 - (zFo b0 p0 + 1) = -1 by omega] at hV1
      refine z_iload C dX9_rankAll_41 rfl ?_
      refine z_aload_n C dX9_rankAll_43 rfl ?_
      refine z_getM C dX9_rankAll_44 fl_X9_125 (by first | assumption | ((repeat (first | assumption | exact va_up_self _ _ _ | refine (va_up_ne _ _ (by first | assumption | exact hA.ne (by decide) | exact hA.ne (by omega))).trans ?_)); done)) rfl (by first | assumption | ((repeat (first | assumption | exact va_up_self _ _ _ | exact rfl | refine (va_up_ne _ _ (by decide)).trans ?_)); done)) ?_
      refine z_icmp_geZ (tgt := 87) C dX9_rankAll_47 (by decide) (by omega) (by omega) (fun h47 => ?_) (fun h47 => ?_)
      · refine z_iconst C dX9_rankAll_87 ?_
        refine z_istore C dX9_rankAll_88 (by decide) ?_
        exact last 27 M1 F1 c7 f h n 0 _ (by omega) (by omega) hQ1 hV1 (fun s s1 s2 => by omega)
      · exact absurd h47 (by omega)
    | succ t ih =>
      intro M1 F1 c7 f h n x x6 ht hx hK hQ1 hV1
      obtain ⟨q1, q2, q3, q4, q5, q6, q7, q8, q9, q10, q11⟩ := id hQ1
      refine z_iload C dX9_rankAll_41 rfl ?_
      refine z_aload_n C dX9_rankAll_43 rfl ?_
      refine z_getM C dX9_rankAll_44 fl_X9_125 (by first | assumption | ((repeat (first | assumption | exact va_up_self _ _ _ | refine (va_up_ne _ _ (by first | assumption | exact hA.ne (by decide) | exact hA.ne (by omega))).trans ?_)); done)) rfl (by first | assumption | ((repeat (first | assumption | exact va_up_self _ _ _ | exact rfl | refine (va_up_ne _ _ (by decide)).trans ?_)); done)) ?_
      refine z_icmp_geZ (tgt := 87) C dX9_rankAll_47 (by decide) (by omega) (by omega) (fun h47 => ?_) (fun h47 => ?_)
      · exact absurd h47 (by omega)
      · refine z_aload_n C dX9_rankAll_50 rfl ?_
        refine z_iload C dX9_rankAll_51 rfl ?_
        refine z_callV C dX9_rankAll_53 lk_X9_138 mw_X9_bestOf mi_X9_bestOf ms_X9_bestOf rfl (by first | assumption | ((repeat (first | assumption | exact va_up_self _ _ _ | refine (va_up_ne _ _ (by first | assumption | exact hA.ne (by decide) | exact hA.ne (by omega))).trans ?_)); done)) (k_X9_bestOf hA q5 (o := x) (by omega) q6 q7 q10 q11) rfl (by first | decide | exact Nat.le_of_ble_eq_true rfl) ⟨by decide, by decide, by decide, by decide⟩ (fun _ _ h => False.elim h) (fun v M' hp => ?_)
        obtain ⟨rfl, rfl⟩ := hp
        refine z_istore C dX9_rankAll_56 (by decide) ?_
        refine inner (27 - n).toNat _ F1 c7 f h n x (by have := hV1.1; omega) (by omega) hK hQ1 hV1 (fun M2 F2 f2 h2 n2 hQ2 hV2 => ?_)
        refine z_iincZ C dX9_rankAll_81 rfl (by decide) ?_
        refine z_goto (tgt := 41) C dX9_rankAll_84 (by decide) ?_
        exact ih M2 F2 c7 f2 h2 n2 (x + 1) _ (by omega) (by omega) hK hQ2 (by rw [show zFo b0 p0 - (x + 1) = zFo b0 p0 - x - 1 by omega]; exact hV2)
  have clr : ∀ (t : Nat) (M1 : zM) (F1 c7 f h : Nat → Int) (i : Int), 27 - i = t → 0 ≤ i ∧ i ≤ 27 → mLk c0 b0 p0 c7 → mRs γ A M M1 F F1 (zFo b0 p0) c7 f h 0 → (∀ s : Int, 0 ≤ s → s < i → h s.toNat = 0) → zAW p l e { frames := 3, cells := 0, slots := 0, locals := 70 } s m args below meth c γ 7 Q M1 0 0 17 [some (.ref (A 0)), some (.ref (A kq)), some (.int (zi r)), some (.int (zi b0)), some (.int (zi p0)), some (.int (zi i)), none] [] := by
    intro t
    induction t with
    | zero =>
      intro M1 F1 c7 f h i ht hi hK hQ1 hz
      obtain rfl : i = 27 := by omega
      obtain ⟨q1, q2, q3, q4, q5, q6, q7, q8, q9, q10, q11⟩ := id hQ1
      refine z_iload C dX9_rankAll_17 rfl ?_
      refine z_bipush C dX9_rankAll_19 (by decide) ?_
      refine z_icmp_geZ (tgt := 38) C dX9_rankAll_21 (by decide) (by omega) (by omega) (fun h21 => ?_) (fun h21 => ?_)
      · refine z_iconst C dX9_rankAll_38 ?_
        refine z_istore C dX9_rankAll_39 (by decide) ?_
        refine outer (zFo b0 p0 + 1).toNat M1 F1 c7 f h 0 0 none (by omega) (by omega) hK hQ1 ⟨by omega, fun j hj => by omega, fun s s1 s2 => .inl (hz s s1 s2), fun i j hi hj => by omega, fun j hj => by omega, fun s s1 s2 s3 => ?_⟩
        have := zlv_rng c0 b0 p0 s
        omega
      · exact absurd h21 (by omega)
    | succ t ih =>
      intro M1 F1 c7 f h i ht hi hK hQ1 hz
      obtain ⟨q1, q2, q3, q4, q5, q6, q7, q8, q9, q10, q11⟩ := id hQ1
      refine z_iload C dX9_rankAll_17 rfl ?_
      refine z_bipush C dX9_rankAll_19 (by decide) ?_
      refine z_icmp_geZ (tgt := 38) C dX9_rankAll_21 (by decide) (by omega) (by omega) (fun h21 => ?_) (fun h21 => ?_)
      · exact absurd h21 (by omega)
      · refine z_aload_n C dX9_rankAll_24 rfl ?_
        refine z_get C dX9_rankAll_25 fl_X9_36 (by first | assumption | ((repeat (first | assumption | exact va_up_self _ _ _ | refine (va_up_ne _ _ (by first | assumption | exact hA.ne (by decide) | exact hA.ne (by omega))).trans ?_)); done)) rfl ?_
        refine z_iload C dX9_rankAll_28 rfl ?_
        refine z_iconst C dX9_rankAll_30 ?_
        refine z_astN C dX9_rankAll_31 (by first | assumption | ((repeat (first | assumption | exact va_up_self _ _ _ | refine (va_up_ne _ _ (by first | assumption | exact hA.ne (by decide) | exact hA.ne (by omega))).trans ?_)); done)) (by omega) (by omega) (by assumption) (by omega) (fun hr31 => ?_)
        refine z_iincZ C dX9_rankAll_32 rfl (by decide) ?_
        refine z_goto (tgt := 17) C dX9_rankAll_35 (by decide) ?_
        refine ih _ F1 c7 f _ (i + 1) (by omega) (by omega) hK ⟨q1.up rfl, q2, q3, q4, by rw [va_up_ne _ _ (hA.ne (by decide))]; exact q5, by rw [va_up_ne _ _ (hA.ne (by decide))]; exact q6, q7, by rw [va_up_ne _ _ (hA.ne (by decide))]; exact q8, q9, va_up_self _ _ _, hr31⟩ (fun s s1 s2 => ?_)
        unfold va_up
        split
        · rfl
        · exact hz s s1 (by omega)
  refine z_aload_n C dX9_rankAll_0 rfl ?_
  refine z_aload_n C dX9_rankAll_1 rfl ?_
  refine z_iload_n C dX9_rankAll_2 rfl ?_
  refine z_iload_n C dX9_rankAll_3 rfl ?_
  refine z_iload C dX9_rankAll_4 rfl ?_
  refine z_callV C dX9_rankAll_6 lk_X9_135 mw_X9_look mi_X9_look ms_X9_look rfl (by first | assumption | ((repeat (first | assumption | exact va_up_self _ _ _ | refine (va_up_ne _ _ (by first | assumption | exact hA.ne (by decide) | exact hA.ne (by omega))).trans ?_)); done)) (k_X9_look hA hO0 hk hM hg hH7 hh7 hr hb hp0 hv hL hG) rfl (by first | decide | exact Nat.le_of_ble_eq_true rfl) ⟨by decide, by decide, by decide, by decide⟩ (fun _ _ h => False.elim h) (fun v M' hp => ?_)
  obtain ⟨rfl, a1, a2, c7, a3, a4, a5⟩ := hp
  have a6 := a1.at hA (.of rfl) hF8
  have a7 := a1.at hA (.of rfl) hH9
  refine z_aload_n C dX9_rankAll_9 rfl ?_
  refine z_iconst C dX9_rankAll_10 ?_
  refine z_putM C dX9_rankAll_11 fl_X9_132 (by first | assumption | ((repeat (first | assumption | exact va_up_self _ _ _ | refine (va_up_ne _ _ (by first | assumption | exact hA.ne (by decide) | exact hA.ne (by omega))).trans ?_)); done)) rfl ?_
  refine z_iconst C dX9_rankAll_14 ?_
  refine z_istore C dX9_rankAll_15 (by decide) ?_
  exact clr 27 _ _ c7 f0 h90 0 (by omega) (by omega) a5 ⟨(a1.mo (K := [0, 7, 8, 9]) rfl).up rfl, (mKp.rf.up rfl).up rfl, by rw [va_up_ne _ _ (by decide)]; exact va_up_self _ _ _, va_up_self _ _ _, va_up_self _ _ _, by rw [va_up_ne _ _ (hA.ne (by decide))]; exact a3, a4, by rw [va_up_ne _ _ (hA.ne (by decide))]; exact a6, hf8, by rw [va_up_ne _ _ (hA.ne (by decide))]; exact a7, hh9⟩ (fun s s1 s2 => by omega)

