theorem hRv.ex {c : Int → Int} {b p o os : Int} {f g : Nat → Int} {size : Int} {mk : Int32} {x : Int} (h : hRv c b p o os f g size mk x) : (0 ≤ os ∧ os ≤ size ∧ size ≤ 27) ∧ (∀ j, zR (f j)) ∧ ∀ j, zR (g j) := ⟨h.1, h.2.1, h.2.2.1⟩
set_option maxHeartbeats 4000000 in
set_option maxRecDepth 100000 in
theorem k_X5_appendOrder {l : Launch} {γ : zG} {M : zM} {a ys ws ca k v : Nat} {f g : Nat → Int} {size : Int} {mk : Int32} {c0 : Int → Int} {pb pp o : Int} (hK : hRk γ M a ys ws f g size mk) (hV : hRv c0 pb pp o size f g size mk 0) (hC : hCn γ M ca k v c0) (ho : 0 ≤ o ∧ o ≤ zFo pb pp) (hst : 0 ≤ zCs o pb pp ∧ zCs o pb pp ≤ 30000) :
    zCon l γ yX5_appendOrder cX5_appendOrder 5 none [.ref a, .ref ca, .int (zi (zCs o pb pp))] M 1 25 0 0 (fun v' M' => v' = none ∧ zFr M M' [a, ys, ws] ∧ ∃ f' g' size' mk', hRk γ M' a ys ws f' g' size' mk' ∧ hRv c0 pb pp o size f' g' size' mk' 27) (fun _ _ => False) := by
  have hC0 := hC
  obtain ⟨-, n, ks, vs, hC, hS, hR⟩ := hC
  have hcp := fun key h => @k_X2_placeOf l γ M ca k v ks vs n key hC hS h
  obtain ⟨hC, hCk, hCv⟩ := hC
  obtain ⟨hn, hks, hvs, hsort⟩ := id hS
  have q1 := zne_kk hC hK.2.1 (by decide)
  have q2 := zne_ka hC hK.2.2.1
  have q3 := zne_ka hC hK.2.2.2
  have q4 := (zne_ka hK.2.1 hCk).symm
  have q5 := (zne_ka hK.2.1 hCv).symm
  have q6 := zne_nn hCk hK.2.2.1 (by decide)
  have q7 := zne_nn hCk hK.2.2.2 (by decide)
  have q8 := zne_nn hCv hK.2.2.1 (by decide)
  have q9 := zne_nn hCv hK.2.2.2 (by decide)
  have d1 : ca ∉ [a, ys, ws] := by simp [q1, q2, q3]
  have d2 : k ∉ [a, ys, ws] := by simp [q4, q6, q7]
  have d3 : v ∉ [a, ys, ws] := by simp [q5, q8, q9]
  have hz := hV.ex
  have hlev : ∀ y : Int, 0 ≤ y → y < 27 → (∀ j : Nat, j < n → ks j ≠ zCs o pb pp + y) → zlv c0 pb pp y ≠ o := fun y y1 y2 h => zlv_ne ho.1 (by
    by_cases e : c0 (zCs o pb pp + y) = 0
    · exact e
    · obtain ⟨j, hj, q⟩ := hR.2 _ e
      exact absurd q (h j hj))
  have hge := fun y h => @zlv_ge c0 pb pp y o ho h
  have hwa := fun y h => @zwt_at c0 pb pp y o ho.1 h
  generalize zCs o pb pp = x0 at *
  refine zEnter [some (.ref a), some (.ref ca), some (.int (zi x0)), none, none] (by decide +kernel) rfl rfl (Nat.le_of_ble_eq_true rfl) ?_
  intro p e s m args below meth c Q C hin hQ
  have loop : ∀ (t : Nat) (M1 : zM) (i x : Int) (f1 g1 : Nat → Int) (z1 : Int) (mk1 : Int32), 0 ≤ i ∧ i ≤ n ∧ n - i = t → 0 ≤ x ∧ x ≤ 27 → (∀ j : Nat, j < i → ks j < x0 + x) → (∀ j : Nat, i ≤ j → j < n → x0 + x ≤ ks j) → zFr M M1 [a, ys, ws] → hRk γ M1 a ys ws f1 g1 z1 mk1 → hRv c0 pb pp o size f1 g1 z1 mk1 x → zAW p l e { frames := 1, cells := 0, slots := 0, locals := 25 } s m args below meth c γ 5 Q M1 0 0 12 [some (.ref a), some (.ref ca), some (.int (zi x0)), some (.int (zi size)), some (.int (zi i))] [] := by
    intro t
    induction t with
    | zero =>
      intro M1 i x f1 g1 z1 mk1 hi hx h1 h2 hf hK1 hV1
      have c1 := hf.at d1 hC
      refine z_iload C dX5_appendOrder_12 rfl ?_
      refine z_aload_n C dX5_appendOrder_14 rfl ?_
      refine z_get C dX5_appendOrder_15 fl_X5_47 (by first | assumption | ((repeat (first | assumption | exact va_up_self _ _ _ | refine (va_up_ne _ _ (by assumption)).trans ?_)); done) | (simp [va_up, *] <;> rfl)) rfl ?_
      refine z_icmp_geZ (tgt := 62) C dX5_appendOrder_18 (by decide) (by omega) (by omega) (fun h18 => ?_) (fun h18 => ?_)
      · refine z_vret C hQ dX5_appendOrder_62 (by decide) (by decide) ?_
        refine ⟨rfl, hf, f1, g1, z1, mk1, hK1, hV1.adv hx.2 fun y y1 y2 y3 y4 => hlev y y1 y2 fun j hj q => ?_⟩
        have := h1 j (by omega)
        omega
      · exact absurd h18 (by omega)
    | succ t ih =>
      intro M1 i x f1 g1 z1 mk1 hi hx h1 h2 hf hK1 hV1
      have c1 := hf.at d1 hC
      have c2 := hf.at d2 hCk
      have c3 := hf.at d3 hCv
      have ob := hK1.2.1
      have e1 := h2 i.toNat (by omega) (by omega)
      have e2 := hR.1 i.toNat (by omega)
      have e3 := fun (j : Nat) (h1 : i.toNat < j) (h2 : j < n) => hsort i.toNat j h1 h2
      have e4 := fun (j : Nat) (h1 : j < i.toNat) => hsort j i.toNat h1 (by omega)
      refine z_iload C dX5_appendOrder_12 rfl ?_
      refine z_aload_n C dX5_appendOrder_14 rfl ?_
      refine z_get C dX5_appendOrder_15 fl_X5_47 (by first | assumption | ((repeat (first | assumption | exact va_up_self _ _ _ | refine (va_up_ne _ _ (by assumption)).trans ?_)); done) | (simp [va_up, *] <;> rfl)) rfl ?_
      refine z_icmp_geZ (tgt := 62) C dX5_appendOrder_18 (by decide) (by omega) (by omega) (fun h18 => ?_) (fun h18 => ?_)
      · exact absurd h18 (by omega)
      · refine z_aload_n C dX5_appendOrder_21 rfl ?_
        refine z_get C dX5_appendOrder_22 fl_X5_48 (by first | assumption | ((repeat (first | assumption | exact va_up_self _ _ _ | refine (va_up_ne _ _ (by assumption)).trans ?_)); done) | (simp [va_up, *] <;> rfl)) rfl ?_
        refine z_iload C dX5_appendOrder_25 rfl ?_
        refine z_aldN C dX5_appendOrder_27 (by first | assumption | ((repeat (first | assumption | exact va_up_self _ _ _ | refine (va_up_ne _ _ (by assumption)).trans ?_)); done) | (simp [va_up, *] <;> rfl)) (by omega) (by omega) (by assumption) (fun hr27 => ?_)
        refine z_iload_n C dX5_appendOrder_28 rfl ?_
        refine z_bipush C dX5_appendOrder_29 (by decide) ?_
        refine z_iaddZ C dX5_appendOrder_31 ?_
        refine z_icmp_geZ (tgt := 62) C dX5_appendOrder_32 (by decide) (by omega) (by omega) (fun h32 => ?_) (fun h32 => ?_)
        · refine z_vret C hQ dX5_appendOrder_62 (by decide) (by decide) ?_
          refine ⟨rfl, hf, f1, g1, z1, mk1, hK1, hV1.adv hx.2 fun y y1 y2 y3 y4 => hlev y y1 y2 fun j hj q => ?_⟩
          by_cases e : (j : Int) < i
          · have := h1 j e
            omega
          · by_cases e' : j = i.toNat
            · subst e'
              omega
            · have := e3 j (by omega) hj
              omega
        · refine z_aload_n C dX5_appendOrder_35 rfl ?_
          refine z_iload_n C dX5_appendOrder_36 rfl ?_
          refine z_aload_n C dX5_appendOrder_37 rfl ?_
          refine z_get C dX5_appendOrder_38 fl_X5_48 (by first | assumption | ((repeat (first | assumption | exact va_up_self _ _ _ | refine (va_up_ne _ _ (by assumption)).trans ?_)); done) | (simp [va_up, *] <;> rfl)) rfl ?_
          refine z_iload C dX5_appendOrder_41 rfl ?_
          refine z_aldN C dX5_appendOrder_43 (by first | assumption | ((repeat (first | assumption | exact va_up_self _ _ _ | refine (va_up_ne _ _ (by assumption)).trans ?_)); done) | (simp [va_up, *] <;> rfl)) (by omega) (by omega) (by assumption) (fun hr43 => ?_)
          refine z_iload_n C dX5_appendOrder_44 rfl ?_
          refine z_isubZ C dX5_appendOrder_45 ?_
          refine z_aload_n C dX5_appendOrder_46 rfl ?_
          refine z_get C dX5_appendOrder_47 fl_X5_51 (by first | assumption | ((repeat (first | assumption | exact va_up_self _ _ _ | refine (va_up_ne _ _ (by assumption)).trans ?_)); done) | (simp [va_up, *] <;> rfl)) rfl ?_
          refine z_iload C dX5_appendOrder_50 rfl ?_
          refine z_aldN C dX5_appendOrder_52 (by first | assumption | ((repeat (first | assumption | exact va_up_self _ _ _ | refine (va_up_ne _ _ (by assumption)).trans ?_)); done) | (simp [va_up, *] <;> rfl)) (by omega) (by omega) (by assumption) (fun hr52 => ?_)
          have hx1 : 0 ≤ ks i.toNat - x0 ∧ ks i.toNat - x0 < 27 := by omega
          have hA := hV1.adv (y := ks i.toNat - x0) (by omega) fun y y1 y2 y3 y4 => hlev y y1 y2 fun j hj q => (by
            by_cases e : (j : Int) < i
            · have := h1 j e
              omega
            · by_cases e' : j = i.toNat
              · subst e'
                omega
              · have := e3 j (by omega) hj
                omega)
          have hcv : c0 (x0 + (ks i.toNat - x0)) = vs i.toNat := by
            rw [show x0 + (ks i.toNat - x0) = ks i.toNat by omega]
            exact e2.2.2
          have hl1 := hge (ks i.toNat - x0) (by omega)
          refine z_callV C dX5_appendOrder_53 lk_X5_37 mw_X5_insert mi_X5_insert ms_X5_insert rfl (by first | assumption | ((repeat (first | assumption | exact va_up_self _ _ _ | refine (va_up_ne _ _ (by assumption)).trans ?_)); done) | (simp [va_up, *] <;> rfl)) (k_X5_insert hK1 hA hx1 (hvs _) (by
  by_cases e : o < zlv c0 pb pp (ks i.toNat - x0)
  · exact .inl e
  · exact .inr ⟨by omega, by rw [hwa _ (by omega), hcv]⟩)) rfl (by first | decide | exact Nat.le_of_ble_eq_true rfl) ⟨by decide, by decide, by decide, by decide⟩ (fun _ _ h => False.elim h) (fun v M' hp => ?_)
          obtain ⟨rfl, hf2, f2, g2, z2, mk2, hK2, hV2⟩ := hp
          refine z_iincZ C dX5_appendOrder_56 rfl (by decide) ?_
          refine z_goto (tgt := 12) C dX5_appendOrder_59 (by decide) ?_
          refine ih _ (i + 1) (ks i.toNat - x0 + 1) f2 g2 z2 mk2 (by omega) (by omega) (fun j hj => ?_) (fun j hj hj2 => ?_) (hf.tr hf2 (fun _ h => h) (fun _ h => h)) hK2 hV2
          · by_cases e : j = i.toNat
            · subst e
              omega
            · have := e4 j (by omega)
              omega
          · have := e3 j (by omega) hj2
            omega
  have ob := hK.2.1
  refine z_aload_n C dX5_appendOrder_0 rfl ?_
  refine z_get C dX5_appendOrder_1 fl_X5_18 (by first | assumption | ((repeat (first | assumption | exact va_up_self _ _ _ | refine (va_up_ne _ _ (by assumption)).trans ?_)); done) | (simp [va_up, *] <;> rfl)) rfl ?_
  refine z_istore_n C dX5_appendOrder_4 (by decide) ?_
  refine z_aload_n C dX5_appendOrder_5 rfl ?_
  refine z_iload_n C dX5_appendOrder_6 rfl ?_
  refine z_callV C dX5_appendOrder_7 lk_X5_41 mw_X2_placeOf mi_X2_placeOf ms_X2_placeOf rfl (by first | assumption | ((repeat (first | assumption | exact va_up_self _ _ _ | refine (va_up_ne _ _ (by assumption)).trans ?_)); done) | (simp [va_up, *] <;> rfl)) (hcp x0 (by unfold zR; omega)) rfl (by first | decide | exact Nat.le_of_ble_eq_true rfl) ⟨by decide, by decide, by decide, by decide⟩ (fun _ _ h => False.elim h) (fun v M' hp => ?_)
  obtain ⟨r, rfl, rfl, hp2⟩ := hp
  have hp3 := hp2.1
  have hp4 := hp2.2.1
  refine z_istore C dX5_appendOrder_10 (by decide) ?_
  exact loop (n - r).toNat _ r 0 f g size mk (by omega) (by omega) (fun j hj => by have := hp2.2.2.1 j hj; omega) (fun j hj hj2 => by have := hp2.2.2.2 j hj hj2; omega) zFr.rf hK hV
/-- a full ranking -/
def zFl (c : Int → Int) (b p : Int) (f : Nat → Int) : Prop := (∀ j : Nat, j < 27 → 0 ≤ f j ∧ f j < 27) ∧ (∀ i j : Nat, i < j → j < 27 → zbf c b p (f i) (f j)) ∧ ∀ s : Int, 0 ≤ s → s < 27 → ∃ j : Nat, j < 27 ∧ f j = s
def zbfD (c : Int → Int) (b p s s' : Int) : Decidable (zbf c b p s s') := by
  unfold zbf
  infer_instance
def zbfi (c : Int → Int) (b p s s' : Int) : Int := @ite Int (zbf c b p s s') (zbfD c b p s s') 1 0
/-- the rank of a symbol: one more than the number of those guessed before -/
def zrk (c : Int → Int) (b p s : Int) : Int := 1 + zsum (fun y => zbfi c b p y s) 0 27
theorem zsn_split {g : Nat → Int} {i : Nat} : ∀ n : Nat, i ≤ n → (∀ j, j < i → g j = 1) → (∀ j, i ≤ j → j < n → g j = 0) → zsn g n = i
  | 0, h, _, _ => by
    rw [show i = 0 by omega]
    rfl
  | n + 1, h, h1, h2 => by
    by_cases e : i = n + 1
    · rw [e]
      exact zsn_one (n + 1) fun j hj => h1 j (by omega)
    · show zsn g n + g n = _
      rw [zsn_split n (by omega) h1 fun j a1 a2 => h2 j a1 (by omega), h2 n (by omega) (by omega)]
      omega
theorem zbf_as {c : Int → Int} {b p s s' : Int} (h : zbf c b p s s') : ¬ zbf c b p s' s := by
  unfold zbf at h ⊢
  omega
theorem zFl.rk {c : Int → Int} {b p : Int} {f : Nat → Int} (h : zFl c b p f) {i : Nat} (hi : i < 27) : zrk c b p (f i) = i + 1 := by
  obtain ⟨h1, h2, h3⟩ := h
  have e := zsum_enum (lo := 0) (t := 27) (ks := f) 27 (fun y => zbfi c b p y (f i)) (fun j hj => by have := h1 j hj; omega) (fun x y hx hy q => by
    have := h2 x y hx hy
    rw [q] at this
    unfold zbf at this
    omega) (fun s s1 s2 _ => h3 s s1 (by omega))
  unfold zrk
  rw [e, zsn_split (g := fun j => zbfi c b p (f j) (f i)) (i := i) 27 (by omega) (fun j hj => if_pos (h2 j i hj hi)) (fun j hj hj2 => ?_)]
  · omega
  · by_cases q : j = i
    · subst q
      exact if_neg fun k => zbf_as k k
    · exact if_neg (zbf_as (h2 i j (by omega) hj2))
/-- the symbol of a rank -/
def zgst (c : Int → Int) (b p k : Int) : Nat → Int
  | 0 => -1
  | t + 1 => if zrk c b p t = k then t else zgst c b p k t
def zgs (c : Int → Int) (b p k : Int) : Int := zgst c b p k 27
theorem zgst_at {c : Int → Int} {b p k s : Int} (h : ∀ y : Int, 0 ≤ y → y < 27 → zrk c b p y = k → y = s) (hk : zrk c b p s = k) (h0 : 0 ≤ s) : ∀ t : Nat, t ≤ 27 → s < t → zgst c b p k t = s
  | 0, _, hs => by omega
  | t + 1, ht, hs => by
    unfold zgst
    split
    · rename_i q
      exact h t (by omega) (by omega) q
    · rename_i q
      refine zgst_at h hk h0 t (by omega) ?_
      by_cases e : s = t
      · rw [e] at hk
        exact absurd hk q
      · omega
theorem zFl.gs {c : Int → Int} {b p : Int} {f : Nat → Int} (h : zFl c b p f) {i : Nat} (hi : i < 27) : zgs c b p (i + 1) = f i := by
  have hr := h.1 i hi
  refine zgst_at (fun y y1 y2 q => ?_) (h.rk hi) hr.1 27 (by omega) hr.2
  obtain ⟨j, hj, rfl⟩ := h.2.2 y y1 y2
  rw [h.rk hj] at q
  rw [show j = i by omega]
theorem zFl.gs_rng {c : Int → Int} {b p : Int} {f : Nat → Int} (h : zFl c b p f) {k : Int} (hk : 1 ≤ k ∧ k ≤ 27) : 0 ≤ zgs c b p k ∧ zgs c b p k < 27 := by
  have := h.gs (i := (k - 1).toNat) (by omega)
  rw [show (((k - 1).toNat : Nat) : Int) + 1 = k by omega] at this
  rw [this]
  exact h.1 _ (by omega)
theorem zFl.rk_rng {c : Int → Int} {b p : Int} {f : Nat → Int} (h : zFl c b p f) {s : Int} (hs : 0 ≤ s ∧ s < 27) : 1 ≤ zrk c b p s ∧ zrk c b p s ≤ 27 := by
  obtain ⟨j, hj, rfl⟩ := h.2.2 s hs.1 hs.2
  rw [h.rk hj]
  omega
theorem hRv.full {c : Int → Int} {b p os : Int} {f g : Nat → Int} {size : Int} {mk : Int32} (h : hRv c b p (-1) os f g size mk 27) : size = 27 ∧ zFl c b p f := by
  have hall : ∀ s : Int, 0 ≤ s → s < 27 → zIn f size s := fun s s1 s2 => (h.2.2.2.2.2.2.2.2 s s1 s2).mpr (by
    have := zlv_rng c b p s
    omega)
  have hsz : size = 27 := by
    have e := zsum_enum (lo := 0) (t := 27) (ks := f) size.toNat (fun _ => 1) (fun j hj => by have := h.2.2.2.1 j (by omega); omega) (fun x y hx hy q => by
      have := h.2.2.2.2.1 x y hx (by omega)
      rw [q] at this
      unfold zbf at this
      omega) (fun s s1 s2 _ => by
      obtain ⟨j, hj, q⟩ := hall s s1 (by omega)
      exact ⟨j, by omega, q⟩)
    rw [zsn_one _ fun _ _ => rfl] at e
    have e2 : zsum (fun _ => (1 : Int)) 0 27 = 27 := by decide
    have := h.1
    omega
  subst hsz
  exact ⟨rfl, fun j hj => h.2.2.2.1 j (by omega), fun i j hi hj => h.2.2.2.2.1 i j hi (by omega), fun s s1 s2 => by
    obtain ⟨j, hj, q⟩ := hall s s1 s2
    exact ⟨j, by omega, q⟩⟩

