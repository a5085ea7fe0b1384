/-! Counts: the positive counts of a reader, sorted by key -/
/-- the cells of a Counts object: at a, its rows at k and v, n of them used -/
def hCt (γ : zG) (M : zM) (a k v : Nat) (ks vs : Nat → Int) (n : Int) : Prop := M a = some (.inr (2, [.ref k, .ref v, .int (zi n)])) ∧ M k = some (zar γ 643 ks) ∧ M v = some (zar γ 643 vs)
/-- what holds of the rows: used places, sorted keys, ranges -/
def hSo (ks vs : Nat → Int) (n : Int) : Prop := (0 ≤ n ∧ n ≤ 643) ∧ (∀ j, zR (ks j)) ∧ (∀ j, zR (vs j)) ∧ ∀ i j : Nat, i < j → j < n → ks i < ks j
/-- the place of a key -/
def hPl (ks : Nat → Int) (n key r : Int) : Prop := 0 ≤ r ∧ r ≤ n ∧ (∀ j : Nat, j < r → ks j < key) ∧ ∀ j : Nat, r ≤ j → j < n → key ≤ ks j
/-- how far the search still reaches: 2 ^ t - 1 -/
def hW : Nat → Int
  | 0 => 0
  | t + 1 => 2 * hW t + 1
theorem hW_le : ∀ t, t ≤ 10 → 0 ≤ hW t ∧ hW t ≤ 1023 := by decide
set_option maxHeartbeats 4000000 in
set_option maxRecDepth 100000 in
theorem k_X2_placeOf {l : Launch} {γ : zG} {M : zM} {a k v : Nat} {ks vs : Nat → Int} {n key : Int} (hC : hCt γ M a k v ks vs n) (hS : hSo ks vs n) (hkey : zR key) :
    zCon l γ yX2_placeOf cX2_placeOf 5 (some .int) [.ref a, .int (zi key)] M 0 0 0 0 (fun v' M' => ∃ r : Int, v' = some (.int (zi r)) ∧ M' = M ∧ hPl ks n key r) (fun _ _ => False) := by
  obtain ⟨hC, hK, -⟩ := hC
  obtain ⟨hn, hks, -, hsort⟩ := hS
  unfold zR at hkey
  refine zEnter [some (.ref a), some (.int (zi key)), none, none, none] (by decide +kernel) rfl rfl (Nat.le_of_ble_eq_true rfl) ?_
  intro p e s m args below meth c Q C hin hQ
  have loop : ∀ (t : Nat) (P : Int) (x4 : Option Value), t ≤ 10 → 0 ≤ P ∧ P ≤ n → (∀ j : Nat, j < P → ks j < key) → (∀ j : Nat, P + hW t ≤ j → j < n → key ≤ ks j) → zAW p l e { frames := 0, cells := 0, slots := 0, locals := 0 } s m args below meth c γ 5 Q M 0 0 6 [some (.ref a), some (.int (zi key)), some (.int (zi P)), some (.int (zi ((hW t + 1) / 2))), x4] [] := by
    intro t
    induction t with
    | zero =>
      intro P x4 ht hP h1 h2
      refine z_iload_n C dX2_placeOf_6 rfl ?_
      refine z_if_leZ (tgt := 48) C dX2_placeOf_7 (by decide) (by decide) (fun h7 => ?_) (fun h7 => ?_)
      · refine z_iload_n C dX2_placeOf_48 rfl ?_
        refine z_iret C hQ dX2_placeOf_49 rfl (by decide) (by decide) ?_
        exact ⟨P, rfl, rfl, hP.1, hP.2, h1, fun j hj hjn => h2 j (by simpa [hW] using hj) hjn⟩
      · exact absurd h7 (by decide)
    | succ t ih =>
      intro P x4 ht hP h1 h2
      have hw := hW_le t (by omega)
      have e1 : hW (t + 1) = 2 * hW t + 1 := rfl
      rw [e1] at h2
      rw [show (hW (t + 1) + 1) / 2 = hW t + 1 by omega]
      generalize hW t = w at *
      refine z_iload_n C dX2_placeOf_6 rfl ?_
      refine z_if_leZ (tgt := 48) C dX2_placeOf_7 (by decide) (by omega) (fun h7 => ?_) (fun h7 => ?_)
      · exact absurd h7 (by omega)
      · refine z_iload_n C dX2_placeOf_10 rfl ?_
        refine z_iload_n C dX2_placeOf_11 rfl ?_
        refine z_iaddZ C dX2_placeOf_12 ?_
        refine z_iconst C dX2_placeOf_13 ?_
        refine z_isubZ C dX2_placeOf_14 ?_
        refine z_istore C dX2_placeOf_15 (by decide) ?_
        refine z_iload C dX2_placeOf_17 rfl ?_
        refine z_aload_n C dX2_placeOf_19 rfl ?_
        refine z_get C dX2_placeOf_20 fl_X2_18 (by first | assumption | ((repeat (first | assumption | exact va_up_self _ _ _ | refine (va_up_ne _ _ (by assumption)).trans ?_)); done) | (simp [va_up, *] <;> rfl)) rfl ?_
        refine z_icmp_geZ (tgt := 41) C dX2_placeOf_23 (by decide) (by omega) (by omega) (fun h23 => ?_) (fun h23 => ?_)
        · refine z_iload_n C dX2_placeOf_41 rfl ?_
          refine z_iconst C dX2_placeOf_42 ?_
          refine z_idivZ C dX2_placeOf_43 (by omega) (by omega) ?_
          refine z_istore_n C dX2_placeOf_44 (by decide) ?_
          refine z_goto (tgt := 6) C dX2_placeOf_45 (by decide) ?_
          exact ih _ _ (by omega) hP h1 (fun j hj hjn => by omega)
        · refine z_aload_n C dX2_placeOf_26 rfl ?_
          refine z_get C dX2_placeOf_27 fl_X2_9 (by first | assumption | ((repeat (first | assumption | exact va_up_self _ _ _ | refine (va_up_ne _ _ (by assumption)).trans ?_)); done) | (simp [va_up, *] <;> rfl)) rfl ?_
          refine z_iload C dX2_placeOf_30 rfl ?_
          refine z_aldN C dX2_placeOf_32 (by first | assumption | ((repeat (first | assumption | exact va_up_self _ _ _ | refine (va_up_ne _ _ (by assumption)).trans ?_)); done) | (simp [va_up, *] <;> rfl)) (by omega) (by omega) (by assumption) (fun hr32 => ?_)
          refine z_iload_n C dX2_placeOf_33 rfl ?_
          refine z_icmp_geZ (tgt := 41) C dX2_placeOf_34 (by decide) (by omega) (by omega) (fun h34 => ?_) (fun h34 => ?_)
          · refine z_iload_n C dX2_placeOf_41 rfl ?_
            refine z_iconst C dX2_placeOf_42 ?_
            refine z_idivZ C dX2_placeOf_43 (by omega) (by omega) ?_
            refine z_istore_n C dX2_placeOf_44 (by decide) ?_
            refine z_goto (tgt := 6) C dX2_placeOf_45 (by decide) ?_
            refine ih _ _ (by omega) hP h1 (fun j hj hjn => ?_)
            by_cases hj2 : j = (P + (w + 1) - 1).toNat
            · rw [hj2]; exact h34
            · have := hsort (P + (w + 1) - 1).toNat j (by omega) hjn
              omega
          · refine z_iload_n C dX2_placeOf_37 rfl ?_
            refine z_iload_n C dX2_placeOf_38 rfl ?_
            refine z_iaddZ C dX2_placeOf_39 ?_
            refine z_istore_n C dX2_placeOf_40 (by decide) ?_
            refine z_iload_n C dX2_placeOf_41 rfl ?_
            refine z_iconst C dX2_placeOf_42 ?_
            refine z_idivZ C dX2_placeOf_43 (by omega) (by omega) ?_
            refine z_istore_n C dX2_placeOf_44 (by decide) ?_
            refine z_goto (tgt := 6) C dX2_placeOf_45 (by decide) ?_
            refine ih _ _ (by omega) (by omega) (fun j hj => ?_) (fun j hj hjn => h2 j (by omega) hjn)
            by_cases hj2 : j = (P + (w + 1) - 1).toNat
            · rw [hj2]; omega
            · have := hsort j (P + (w + 1) - 1).toNat (by omega) (by omega)
              omega
  have hw : hW 10 = 1023 := by decide
  have h0 := loop 10 0 none (by omega) (by omega) (fun j hj => by omega) (fun j hj hjn => by omega)
  rw [hw, show ((1023 : Int) + 1) / 2 = 512 by decide] at h0
  refine z_iconst C dX2_placeOf_0 ?_
  refine z_istore_n C dX2_placeOf_1 (by decide) ?_
  refine z_sipush C dX2_placeOf_2 (by decide) ?_
  refine z_istore_n C dX2_placeOf_5 (by decide) ?_
  exact h0
/-- the rows hold the counts of c -/
def hRp (ks vs : Nat → Int) (n : Int) (c : Int → Int) : Prop := (∀ j : Nat, j < n → (1 ≤ vs j ∧ vs j ≤ 999) ∧ (0 ≤ ks j ∧ ks j < 20439) ∧ c (ks j) = vs j) ∧ ∀ key, c key ≠ 0 → ∃ j : Nat, j < n ∧ ks j = key
/-- a Counts object that holds c -/
def hCn (γ : zG) (M : zM) (a k v : Nat) (c : Int → Int) : Prop := k ≠ v ∧ ∃ n ks vs, hCt γ M a k v ks vs n ∧ hSo ks vs n ∧ hRp ks vs n c
theorem hCn.fr {γ : zG} {M M' : zM} {a k v : Nat} {c : Int → Int} {S : List Nat} (h : hCn γ M a k v c) (f : zFr M M' S) (h1 : a ∉ S) (h2 : k ∉ S) (h3 : v ∉ S) : hCn γ M' a k v c := by
  obtain ⟨h0, n, ks, vs, ⟨q1, q2, q3⟩, h5, h6⟩ := h
  exact ⟨h0, n, ks, vs, ⟨f.at h1 q1, f.at h2 q2, f.at h3 q3⟩, h5, h6⟩
theorem hRp.rng {ks vs : Nat → Int} {n : Int} {c : Int → Int} (h : hRp ks vs n c) (k : Int) : 0 ≤ c k ∧ c k ≤ 999 := by
  by_cases e : c k = 0
  · omega
  · obtain ⟨j, hj, rfl⟩ := h.2 k e
    have := h.1 j hj
    omega
theorem hRp.key {ks vs : Nat → Int} {n : Int} {c : Int → Int} (h : hRp ks vs n c) {k : Int} (e : c k ≠ 0) : 0 ≤ k ∧ k < 20439 := by
  obtain ⟨j, hj, rfl⟩ := h.2 k e
  exact (h.1 j hj).2.1
/-- the number of positive counts between two places -/
theorem hPl.cnt {ks vs : Nat → Int} {n K r r' : Int} {t : Nat} {c f : Int → Int} (hS : hSo ks vs n) (hR : hRp ks vs n c) (h1 : hPl ks n K r) (h2 : hPl ks n (K + t) r') (hf : ∀ k, c k = 0 → f k = 0) : r ≤ r' ∧ zsum f K t = zsn (fun j => f (ks (r.toNat + j))) (r' - r).toNat := by
  have h0 : r ≤ r' := by
    by_cases e : r ≤ r'
    · exact e
    · have q1 := h1.2.2.1 r'.toNat (by have := h2.1; omega)
      have q2 := h2.2.2.2 r'.toNat (by have := h2.1; omega) (by have := h1.2.1; have := h2.1; omega)
      omega
  refine ⟨h0, ?_⟩
  have p1 := h1.1
  have p2 := h2.2.1
  refine zsum_enum (ks := fun j => ks (r.toNat + j)) (r' - r).toNat f (fun j hj => ⟨h1.2.2.2 _ (by omega) (by omega), h2.2.2.1 _ (by omega)⟩) (fun i j hi hj => ?_) (fun k q1 q2 q3 => ?_)
  · have := hS.2.2.2 (r.toNat + i) (r.toNat + j) (by omega) (by omega)
    show ks (r.toNat + i) ≠ ks (r.toNat + j)
    omega
  · obtain ⟨j, hj, e⟩ := hR.2 k (fun q => q3 (hf k q))
    refine ⟨j - r.toNat, ?_, ?_⟩
    · by_cases e1 : r' ≤ j
      · have := h2.2.2.2 j e1 hj
        omega
      · by_cases e2 : j < r
        · have := h1.2.2.1 j e2
          omega
        · omega
    · by_cases e2 : j < r
      · have := h1.2.2.1 j e2
        omega
      · show ks (r.toNat + (j - r.toNat)) = k
        rw [show r.toNat + (j - r.toNat) = j by omega]
        exact e
theorem hRp.all {ks vs : Nat → Int} {n : Int} {c f : Int → Int} (hS : hSo ks vs n) (hR : hRp ks vs n c) (hf : ∀ k, c k = 0 → f k = 0) : zsum f 0 20439 = zsn (fun j => f (ks j)) n.toNat := by
  refine zsum_enum (ks := ks) n.toNat f (fun j hj => ?_) (fun i j hi hj => ?_) (fun k q1 q2 q3 => ?_)
  · have := hR.1 j (by omega)
    omega
  · have := hS.2.2.2 i j hi (by omega)
    omega
  · obtain ⟨j, hj, e⟩ := hR.2 k (fun q => q3 (hf k q))
    exact ⟨j, by omega, e⟩
theorem zind0 (c : Int → Int) (k : Int) (h : c k = 0) : zind c k = 0 := if_pos h
theorem zind1 (c : Int → Int) (k : Int) (h : c k ≠ 0) : zind c k = 1 := if_neg h
theorem hRp.size {ks vs : Nat → Int} {n : Int} {c : Int → Int} (hS : hSo ks vs n) (hR : hRp ks vs n c) : zsum (zind c) 0 20439 = n := by
  rw [hR.all hS (zind0 c), zsn_one n.toNat fun j hj => zind1 c _ (by have := hR.1 j (by omega); omega)]
  have := hS.1
  omega
theorem hPl.ind {ks vs : Nat → Int} {n K r r' : Int} {t : Nat} {c : Int → Int} (hS : hSo ks vs n) (hR : hRp ks vs n c) (h1 : hPl ks n K r) (h2 : hPl ks n (K + t) r') : r ≤ r' ∧ zsum (zind c) K t = r' - r := by
  obtain ⟨h3, h4⟩ := h1.cnt hS hR h2 (zind0 c)
  refine ⟨h3, ?_⟩
  rw [h4, zsn_one (r' - r).toNat fun j hj => zind1 c _ (by have p1 := h1.1; have p2 := h2.2.1; have := hR.1 (r.toNat + j) (by omega); omega)]
  omega
theorem hPl.val {ks vs : Nat → Int} {n K r : Int} {c : Int → Int} (hS : hSo ks vs n) (hR : hRp ks vs n c) (h1 : hPl ks n K r) (h : n ≤ r ∨ ks r.toNat ≠ K) : c K = 0 := by
  by_cases e : c K = 0
  · exact e
  · obtain ⟨j, hj, q⟩ := hR.2 K e
    have p1 := h1.1
    by_cases e1 : j < r
    · have := h1.2.2.1 j e1
      omega
    · rcases h with h | h
      · omega
      · by_cases e2 : j = r.toNat
        · exact absurd (by rw [← e2]; exact q) h
        · have q1 := hS.2.2.2 r.toNat j (by omega) hj
          have q2 := h1.2.2.2 r.toNat (by omega) (by omega)
          omega
set_option maxHeartbeats 4000000 in
set_option maxRecDepth 100000 in
theorem k_X2_valueOf {l : Launch} {γ : zG} {M : zM} {a k v : Nat} {c0 : Int → Int} {key : Int} (hC : hCn γ M a k v c0) (hkey : zR key) :
    zCon l γ yX2_valueOf cX2_valueOf 3 (some .int) [.ref a, .int (zi key)] M 1 24 0 0 (fun v' M' => ∃ r : Int, v' = some (.int (zi r)) ∧ M' = M ∧ r = c0 key) (fun _ _ => False) := by
  obtain ⟨-, n, ks, vs, hC, hS, hR⟩ := hC
  have hcp := @k_X2_placeOf l γ M a k v ks vs n key hC hS hkey
  obtain ⟨hC, hK, hV⟩ := hC
  obtain ⟨hn, hks, hvs, hsort⟩ := id hS
  unfold zR at hkey
  refine zEnter [some (.ref a), some (.int (zi key)), none] (by decide +kernel) rfl rfl (Nat.le_of_ble_eq_true rfl) ?_
  intro p e s m args below meth c Q C hin hQ
  refine z_aload_n C dX2_valueOf_0 rfl ?_
  refine z_iload_n C dX2_valueOf_1 rfl ?_
  refine z_callV C dX2_valueOf_2 lk_X2_28 mw_X2_placeOf mi_X2_placeOf ms_X2_placeOf rfl (by first | assumption | ((repeat (first | assumption | exact va_up_self _ _ _ | refine (va_up_ne _ _ (by assumption)).trans ?_)); done) | (simp [va_up, *] <;> rfl)) hcp rfl (by first | decide | exact Nat.le_of_ble_eq_true rfl) ⟨by decide, by decide, by decide, by decide⟩ (fun _ _ h => False.elim h) (fun v M' hp => ?_)
  obtain ⟨r, rfl, rfl, hp2⟩ := hp
  have hp3 := hp2.1
  have hp4 := hp2.2.1
  refine z_istore_n C dX2_valueOf_5 (by decide) ?_
  refine z_iload_n C dX2_valueOf_6 rfl ?_
  refine z_aload_n C dX2_valueOf_7 rfl ?_
  refine z_get C dX2_valueOf_8 fl_X2_18 (by first | assumption | ((repeat (first | assumption | exact va_up_self _ _ _ | refine (va_up_ne _ _ (by assumption)).trans ?_)); done) | (simp [va_up, *] <;> rfl)) rfl ?_
  refine z_icmp_geZ (tgt := 33) C dX2_valueOf_11 (by decide) (by omega) (by omega) (fun h11 => ?_) (fun h11 => ?_)
  · refine z_iconst C dX2_valueOf_33 ?_
    refine z_iret C hQ dX2_valueOf_34 rfl (by decide) (by decide) ?_
    exact ⟨0, rfl, rfl, (hp2.val hS hR (.inl (by omega))).symm⟩
  · refine z_aload_n C dX2_valueOf_14 rfl ?_
    refine z_get C dX2_valueOf_15 fl_X2_9 (by first | assumption | ((repeat (first | assumption | exact va_up_self _ _ _ | refine (va_up_ne _ _ (by assumption)).trans ?_)); done) | (simp [va_up, *] <;> rfl)) rfl ?_
    refine z_iload_n C dX2_valueOf_18 rfl ?_
    refine z_aldN C dX2_valueOf_19 (by first | assumption | ((repeat (first | assumption | exact va_up_self _ _ _ | refine (va_up_ne _ _ (by assumption)).trans ?_)); done) | (simp [va_up, *] <;> rfl)) (by omega) (by omega) (by assumption) (fun hr19 => ?_)
    refine z_iload_n C dX2_valueOf_20 rfl ?_
    refine z_icmp_neZ (tgt := 33) C dX2_valueOf_21 (by decide) (by omega) (by omega) (fun h21 => ?_) (fun h21 => ?_)
    · refine z_iconst C dX2_valueOf_33 ?_
      refine z_iret C hQ dX2_valueOf_34 rfl (by decide) (by decide) ?_
      exact ⟨0, rfl, rfl, (hp2.val hS hR (.inr (by omega))).symm⟩
    · refine z_aload_n C dX2_valueOf_24 rfl ?_
      refine z_get C dX2_valueOf_25 fl_X2_15 (by first | assumption | ((repeat (first | assumption | exact va_up_self _ _ _ | refine (va_up_ne _ _ (by assumption)).trans ?_)); done) | (simp [va_up, *] <;> rfl)) rfl ?_
      refine z_iload_n C dX2_valueOf_28 rfl ?_
      refine z_aldN C dX2_valueOf_29 (by first | assumption | ((repeat (first | assumption | exact va_up_self _ _ _ | refine (va_up_ne _ _ (by assumption)).trans ?_)); done) | (simp [va_up, *] <;> rfl)) (by omega) (by omega) (by assumption) (fun hr29 => ?_)
      refine z_goto (tgt := 34) C dX2_valueOf_30 (by decide) ?_
      refine z_iret C hQ dX2_valueOf_34 rfl (by decide) (by decide) ?_
      refine ⟨_, rfl, rfl, ?_⟩
      rw [← (hR.1 r.toNat (by omega)).2.2, show ks r.toNat = key by omega]
/-- a row with a place made free and filled -/
def hIn (f : Nat → Int) (p n x : Int) : Nat → Int := va_up (va_cpy f f p.toNat (p + 1).toNat (n - p).toNat) p.toNat x
theorem hIn_at {f : Nat → Int} {p n x : Int} (hp : 0 ≤ p ∧ p ≤ n) (j : Nat) (hj : j ≤ n) : hIn f p n x j = if (j : Int) < p then f j else if j = p then x else f (j - 1) := by
  unfold hIn va_up va_cpy
  by_cases e1 : (j : Int) < p
  · rw [if_neg (by omega), if_neg (by omega), if_pos e1]
  · by_cases e2 : (j : Int) = p
    · rw [if_pos (by omega), if_neg e1, if_pos e2]
    · rw [if_neg (by omega), if_pos (by omega), if_neg e1, if_neg e2, show p.toNat + (j - (p + 1).toNat) = j - 1 by omega]
/-- a count raised -/
def zadd (c : Int → Int) (key am : Int) : Int → Int := fun x => if x = key then min (c x + am) 999 else c x
theorem hIns {ks vs : Nat → Int} {n key am p : Int} {c : Int → Int} (hS : hSo ks vs n) (hR : hRp ks vs n c) (hP : hPl ks n key p) (h0 : c key = 0) (hn : n < 643) (hk : 0 ≤ key ∧ key < 20439) (ham : 1 ≤ am ∧ am ≤ 999)
    (z1 : ∀ j, zR (hIn ks p n key j)) (z2 : ∀ j, zR (hIn vs p n am j)) : hSo (hIn ks p n key) (hIn vs p n am) (n + 1) ∧ hRp (hIn ks p n key) (hIn vs p n am) (n + 1) (zadd c key am) := by
  obtain ⟨p1, p2, p3, p4⟩ := hP
  have hs := hS.2.2.2
  have hn0 := hS.1
  have hlt : ∀ j : Nat, p ≤ j → j < n → key < ks j := fun j h1 h2 => by
    have h3 := p4 j h1 h2
    by_cases e : ks j = key
    · have h4 := hR.1 j h2
      rw [e] at h4
      omega
    · omega
  refine ⟨⟨by omega, z1, z2, fun i j hi hj => ?_⟩, fun j hj => ?_, fun x hx => ?_⟩
  · rw [hIn_at ⟨p1, p2⟩ i (by omega), hIn_at ⟨p1, p2⟩ j (by omega)]
    by_cases e1 : (j : Int) < p
    · rw [if_pos e1, if_pos (by omega)]
      exact hs i j hi (by omega)
    · rw [if_neg e1]
      by_cases e2 : (j : Int) = p
      · rw [if_pos e2, if_pos (by omega)]
        exact p3 i (by omega)
      · rw [if_neg e2]
        by_cases e3 : (i : Int) < p
        · rw [if_pos e3]
          have := p3 i e3
          have := hlt (j - 1) (by omega) (by omega)
          omega
        · rw [if_neg e3]
          by_cases e4 : (i : Int) = p
          · rw [if_pos e4]
            exact hlt (j - 1) (by omega) (by omega)
          · rw [if_neg e4]
            exact hs (i - 1) (j - 1) (by omega) (by omega)
  · rw [hIn_at ⟨p1, p2⟩ j (by omega), hIn_at ⟨p1, p2⟩ j (by omega)]
    unfold zadd
    by_cases e1 : (j : Int) < p
    · rw [if_pos e1, if_pos e1, if_neg (by have := p3 j e1; omega)]
      exact hR.1 j (by omega)
    · rw [if_neg e1, if_neg e1]
      by_cases e2 : (j : Int) = p
      · rw [if_pos e2, if_pos e2, if_pos rfl, h0]
        omega
      · rw [if_neg e2, if_neg e2, if_neg (by have := hlt (j - 1) (by omega) (by omega); omega)]
        exact hR.1 (j - 1) (by omega)
  · by_cases e : x = key
    · exact ⟨p.toNat, by omega, by rw [hIn_at ⟨p1, p2⟩ _ (by omega), if_neg (by omega), if_pos (by omega), e]⟩
    · rw [zadd, if_neg e] at hx
      obtain ⟨j, hj, q⟩ := hR.2 x hx
      by_cases e1 : (j : Int) < p
      · exact ⟨j, by omega, by rw [hIn_at ⟨p1, p2⟩ _ (by omega), if_pos e1, q]⟩
      · refine ⟨j + 1, by omega, ?_⟩
        rw [hIn_at ⟨p1, p2⟩ _ (by omega), if_neg (by omega), if_neg (by omega)]
        exact q
theorem hRai {ks vs : Nat → Int} {n key am : Int} {p : Nat} {c : Int → Int} (hS : hSo ks vs n) (hR : hRp ks vs n c) (hp : p < n) (h0 : ks p = key) (ham : 0 ≤ am)
    (z2 : ∀ j, zR (va_up vs p (min (vs p + am) 999) j)) : hSo ks (va_up vs p (min (vs p + am) 999)) n ∧ hRp ks (va_up vs p (min (vs p + am) 999)) n (zadd c key am) := by
  refine ⟨⟨hS.1, hS.2.1, z2, hS.2.2.2⟩, fun j hj => ?_, fun x hx => ?_⟩
  · have h1 := hR.1 j hj
    unfold zadd va_up
    by_cases e : j = p
    · subst e
      rw [if_pos rfl, if_pos h0, h1.2.2]
      omega
    · rw [if_neg e, if_neg fun q => ?_]
      · exact h1
      · rcases Nat.lt_or_gt_of_ne e with e | e
        · have := hS.2.2.2 j p e hp
          omega
        · have := hS.2.2.2 p j e hj
          omega
  · by_cases e : x = key
    · exact ⟨p, hp, by rw [h0, e]⟩
    · rw [zadd, if_neg e] at hx
      exact hR.2 x hx
/-- G holds all keys of c -/
def hRm (G : List Int) (c : Int → Int) : Prop := G.length ≤ 643 ∧ ∀ k, c k ≠ 0 → k ∈ G
theorem hRm.lt {ks vs : Nat → Int} {n key : Int} {c : Int → Int} {G : List Int} (hG : hRm G c) (hS : hSo ks vs n) (hR : hRp ks vs n c) (h : key ∈ G) (h0 : c key = 0) : n < 643 := by
  have h1 : ∀ j : Nat, j < n → ks j ≠ key := fun j hj q => by
    have := hR.1 j hj
    rw [q] at this
    omega
  have h2 := hS.1
  have := zpig (ks := fun j => if j = n.toNat then key else ks j) (n.toNat + 1) G (fun j hj => by
    show (if j = n.toNat then key else ks j) ∈ G
    split
    · exact h
    · exact hG.2 _ (by have := hR.1 j (by omega); omega)) (fun i j hi hj => by
    show (if i = n.toNat then key else ks i) ≠ (if j = n.toNat then key else ks j)
    rw [if_neg (by omega)]
    split
    · exact h1 i (by omega)
    · have := hS.2.2.2 i j hi (by omega)
      omega)
  have := hG.1
  omega
theorem hRm.add {G : List Int} {c : Int → Int} (hG : hRm G c) {key am : Int} (h : key ∈ G) : hRm G (zadd c key am) := ⟨hG.1, fun k hk => by
  by_cases e : k = key
  · rw [e]; exact h
  · rw [zadd, if_neg e] at hk
    exact hG.2 k hk⟩
set_option maxHeartbeats 4000000 in
set_option maxRecDepth 100000 in
theorem k_X2_add {l : Launch} {γ : zG} {M : zM} {a k v : Nat} {c0 : Int → Int} {key am : Int} {G : List Int} (hC : hCn γ M a k v c0) (hkey : 0 ≤ key ∧ key < 20439) (ham : 1 ≤ am ∧ am ≤ 999) (hG : hRm G c0) (hg : key ∈ G) :
    zCon l γ yX2_add cX2_add 4 none [.ref a, .int (zi key), .int (zi am)] M 1 24 0 0 (fun v' M' => v' = none ∧ zFr M M' [a, k, v] ∧ hCn γ M' a k v (zadd c0 key am)) (fun _ _ => False) := by
  obtain ⟨hkv, n, ks, vs, hC, hS, hR⟩ := hC
  have hcp := @k_X2_placeOf l γ M a k v ks vs n key hC hS (by unfold zR; omega)
  have hlt := fun h => hG.lt hS hR hg h
  obtain ⟨hC, hK, hV⟩ := hC
  obtain ⟨hn, hks, hvs, hsort⟩ := id hS
  have n1 := zne_ka hC hK
  have n2 := zne_ka hC hV
  have n3 := n1.symm
  have n4 := n2.symm
  have n5 := hkv.symm
  refine zEnter [some (.ref a), some (.int (zi key)), some (.int (zi am)), none] (by decide +kernel) rfl rfl (Nat.le_of_ble_eq_true rfl) ?_
  intro p e s m args below meth c Q C hin hQ
  refine z_aload_n C dX2_add_0 rfl ?_
  refine z_iload_n C dX2_add_1 rfl ?_
  refine z_callV C dX2_add_2 lk_X2_28 mw_X2_placeOf mi_X2_placeOf ms_X2_placeOf rfl (by first | assumption | ((repeat (first | assumption | exact va_up_self _ _ _ | refine (va_up_ne _ _ (by assumption)).trans ?_)); done) | (simp [va_up, *] <;> rfl)) hcp rfl (by first | decide | exact Nat.le_of_ble_eq_true rfl) ⟨by decide, by decide, by decide, by decide⟩ (fun _ _ h => False.elim h) (fun v M' hp => ?_)
  obtain ⟨r, rfl, rfl, hp2⟩ := hp
  have hp3 := hp2.1
  have hp4 := hp2.2.1
  refine z_istore_n C dX2_add_5 (by decide) ?_
  refine z_iload_n C dX2_add_6 rfl ?_
  refine z_aload_n C dX2_add_7 rfl ?_
  refine z_get C dX2_add_8 fl_X2_18 (by first | assumption | ((repeat (first | assumption | exact va_up_self _ _ _ | refine (va_up_ne _ _ (by assumption)).trans ?_)); done) | (simp [va_up, *] <;> rfl)) rfl ?_
  refine z_icmp_geZ (tgt := 47) C dX2_add_11 (by decide) (by omega) (by omega) (fun h11 => ?_) (fun h11 => ?_)
  · refine z_aload_n C dX2_add_47 rfl ?_
    refine z_get C dX2_add_48 fl_X2_18 (by first | assumption | ((repeat (first | assumption | exact va_up_self _ _ _ | refine (va_up_ne _ _ (by assumption)).trans ?_)); done) | (simp [va_up, *] <;> rfl)) rfl ?_
    refine z_sipush C dX2_add_51 (by decide) ?_
    refine z_icmp_geZ (tgt := 123) C dX2_add_54 (by decide) (by omega) (by omega) (fun h54 => ?_) (fun h54 => ?_)
    · refine z_vret C hQ dX2_add_123 (by decide) (by decide) ?_
      exact absurd (hlt (hp2.val hS hR (.inl (by omega)))) (by omega)
    · refine z_aload_n C dX2_add_57 rfl ?_
      refine z_get C dX2_add_58 fl_X2_9 (by first | assumption | ((repeat (first | assumption | exact va_up_self _ _ _ | refine (va_up_ne _ _ (by assumption)).trans ?_)); done) | (simp [va_up, *] <;> rfl)) rfl ?_
      refine z_iload_n C dX2_add_61 rfl ?_
      refine z_aload_n C dX2_add_62 rfl ?_
      refine z_get C dX2_add_63 fl_X2_9 (by first | assumption | ((repeat (first | assumption | exact va_up_self _ _ _ | refine (va_up_ne _ _ (by assumption)).trans ?_)); done) | (simp [va_up, *] <;> rfl)) rfl ?_
      refine z_iload_n C dX2_add_66 rfl ?_
      refine z_iconst C dX2_add_67 ?_
      refine z_iaddZ C dX2_add_68 ?_
      refine z_aload_n C dX2_add_69 rfl ?_
      refine z_get C dX2_add_70 fl_X2_18 (by first | assumption | ((repeat (first | assumption | exact va_up_self _ _ _ | refine (va_up_ne _ _ (by assumption)).trans ?_)); done) | (simp [va_up, *] <;> rfl)) rfl ?_
      refine z_iload_n C dX2_add_73 rfl ?_
      refine z_isubZ C dX2_add_74 ?_
      refine z_copyZ C dX2_add_75 t2_150 ar_nat ar_st ar_in (by first | assumption | ((repeat (first | assumption | exact va_up_self _ _ _ | refine (va_up_ne _ _ (by assumption)).trans ?_)); done) | (simp [va_up, *] <;> rfl)) (by first | assumption | ((repeat (first | assumption | exact va_up_self _ _ _ | refine (va_up_ne _ _ (by assumption)).trans ?_)); done) | (simp [va_up, *] <;> rfl)) (by omega) (by omega) (by omega) (by omega) (by omega) (by decide) (by decide) ⟨by decide, (by first | decide | exact Nat.le_of_ble_eq_true rfl)⟩ (by assumption) (by assumption) (fun hr75 => ?_)
      refine z_aload_n C dX2_add_78 rfl ?_
      refine z_get C dX2_add_79 fl_X2_15 (by first | assumption | ((repeat (first | assumption | exact va_up_self _ _ _ | refine (va_up_ne _ _ (by assumption)).trans ?_)); done) | (simp [va_up, *] <;> rfl)) rfl ?_
      refine z_iload_n C dX2_add_82 rfl ?_
      refine z_aload_n C dX2_add_83 rfl ?_
      refine z_get C dX2_add_84 fl_X2_15 (by first | assumption | ((repeat (first | assumption | exact va_up_self _ _ _ | refine (va_up_ne _ _ (by assumption)).trans ?_)); done) | (simp [va_up, *] <;> rfl)) rfl ?_
      refine z_iload_n C dX2_add_87 rfl ?_
      refine z_iconst C dX2_add_88 ?_
      refine z_iaddZ C dX2_add_89 ?_
      refine z_aload_n C dX2_add_90 rfl ?_
      refine z_get C dX2_add_91 fl_X2_18 (by first | assumption | ((repeat (first | assumption | exact va_up_self _ _ _ | refine (va_up_ne _ _ (by assumption)).trans ?_)); done) | (simp [va_up, *] <;> rfl)) rfl ?_
      refine z_iload_n C dX2_add_94 rfl ?_
      refine z_isubZ C dX2_add_95 ?_
      refine z_copyZ C dX2_add_96 t2_150 ar_nat ar_st ar_in (by first | assumption | ((repeat (first | assumption | exact va_up_self _ _ _ | refine (va_up_ne _ _ (by assumption)).trans ?_)); done) | (simp [va_up, *] <;> rfl)) (by first | assumption | ((repeat (first | assumption | exact va_up_self _ _ _ | refine (va_up_ne _ _ (by assumption)).trans ?_)); done) | (simp [va_up, *] <;> rfl)) (by omega) (by omega) (by omega) (by omega) (by omega) (by decide) (by decide) ⟨by decide, (by first | decide | exact Nat.le_of_ble_eq_true rfl)⟩ (by assumption) (by assumption) (fun hr96 => ?_)
      refine z_aload_n C dX2_add_99 rfl ?_
      refine z_get C dX2_add_100 fl_X2_9 (by first | assumption | ((repeat (first | assumption | exact va_up_self _ _ _ | refine (va_up_ne _ _ (by assumption)).trans ?_)); done) | (simp [va_up, *] <;> rfl)) rfl ?_
      refine z_iload_n C dX2_add_103 rfl ?_
      refine z_iload_n C dX2_add_104 rfl ?_
      refine z_astN C dX2_add_105 (by first | assumption | ((repeat (first | assumption | exact va_up_self _ _ _ | refine (va_up_ne _ _ (by assumption)).trans ?_)); done) | (simp [va_up, *] <;> rfl)) (by omega) (by omega) (by assumption) (by omega) (fun hr105 => ?_)
      refine z_aload_n C dX2_add_106 rfl ?_
      refine z_get C dX2_add_107 fl_X2_15 (by first | assumption | ((repeat (first | assumption | exact va_up_self _ _ _ | refine (va_up_ne _ _ (by assumption)).trans ?_)); done) | (simp [va_up, *] <;> rfl)) rfl ?_
      refine z_iload_n C dX2_add_110 rfl ?_
      refine z_iload_n C dX2_add_111 rfl ?_
      refine z_astN C dX2_add_112 (by first | assumption | ((repeat (first | assumption | exact va_up_self _ _ _ | refine (va_up_ne _ _ (by assumption)).trans ?_)); done) | (simp [va_up, *] <;> rfl)) (by omega) (by omega) (by assumption) (by omega) (fun hr112 => ?_)
      refine z_aload_n C dX2_add_113 rfl ?_
      refine z_dup C dX2_add_114 rfl ?_
      refine z_get C dX2_add_115 fl_X2_18 (by first | assumption | ((repeat (first | assumption | exact va_up_self _ _ _ | refine (va_up_ne _ _ (by assumption)).trans ?_)); done) | (simp [va_up, *] <;> rfl)) rfl ?_
      refine z_iconst C dX2_add_118 ?_
      refine z_iaddZ C dX2_add_119 ?_
      refine z_put C dX2_add_120 fl_X2_18 (by first | assumption | ((repeat (first | assumption | exact va_up_self _ _ _ | refine (va_up_ne _ _ (by assumption)).trans ?_)); done) | (simp [va_up, *] <;> rfl)) rfl rfl (by simp) ?_
      refine z_vret C hQ dX2_add_123 (by decide) (by decide) ?_
      refine ⟨rfl, ?_, hkv, n + 1, hIn ks r n key, hIn vs r n am, ⟨?_, ?_, ?_⟩, hIns hS hR hp2 (hp2.val hS hR (.inl (by omega))) (hlt (hp2.val hS hR (.inl (by omega)))) hkey ham hr105 hr112⟩
      · intro b hb
        simp at hb
        simp [va_up, hb]
      · simp [va_up]
      · simp [va_up, hIn, n3, hkv]
      · simp [va_up, hIn, n4, n5]
  · refine z_aload_n C dX2_add_14 rfl ?_
    refine z_get C dX2_add_15 fl_X2_9 (by first | assumption | ((repeat (first | assumption | exact va_up_self _ _ _ | refine (va_up_ne _ _ (by assumption)).trans ?_)); done) | (simp [va_up, *] <;> rfl)) rfl ?_
    refine z_iload_n C dX2_add_18 rfl ?_
    refine z_aldN C dX2_add_19 (by first | assumption | ((repeat (first | assumption | exact va_up_self _ _ _ | refine (va_up_ne _ _ (by assumption)).trans ?_)); done) | (simp [va_up, *] <;> rfl)) (by omega) (by omega) (by assumption) (fun hr19 => ?_)
    refine z_iload_n C dX2_add_20 rfl ?_
    refine z_icmp_neZ (tgt := 47) C dX2_add_21 (by decide) (by omega) (by omega) (fun h21 => ?_) (fun h21 => ?_)
    · refine z_aload_n C dX2_add_47 rfl ?_
      refine z_get C dX2_add_48 fl_X2_18 (by first | assumption | ((repeat (first | assumption | exact va_up_self _ _ _ | refine (va_up_ne _ _ (by assumption)).trans ?_)); done) | (simp [va_up, *] <;> rfl)) rfl ?_
      refine z_sipush C dX2_add_51 (by decide) ?_
      refine z_icmp_geZ (tgt := 123) C dX2_add_54 (by decide) (by omega) (by omega) (fun h54 => ?_) (fun h54 => ?_)
      · refine z_vret C hQ dX2_add_123 (by decide) (by decide) ?_
        exact absurd (hlt (hp2.val hS hR (.inr (by omega)))) (by omega)
      · refine z_aload_n C dX2_add_57 rfl ?_
        refine z_get C dX2_add_58 fl_X2_9 (by first | assumption | ((repeat (first | assumption | exact va_up_self _ _ _ | refine (va_up_ne _ _ (by assumption)).trans ?_)); done) | (simp [va_up, *] <;> rfl)) rfl ?_
        refine z_iload_n C dX2_add_61 rfl ?_
        refine z_aload_n C dX2_add_62 rfl ?_
        refine z_get C dX2_add_63 fl_X2_9 (by first | assumption | ((repeat (first | assumption | exact va_up_self _ _ _ | refine (va_up_ne _ _ (by assumption)).trans ?_)); done) | (simp [va_up, *] <;> rfl)) rfl ?_
        refine z_iload_n C dX2_add_66 rfl ?_
        refine z_iconst C dX2_add_67 ?_
        refine z_iaddZ C dX2_add_68 ?_
        refine z_aload_n C dX2_add_69 rfl ?_
        refine z_get C dX2_add_70 fl_X2_18 (by first | assumption | ((repeat (first | assumption | exact va_up_self _ _ _ | refine (va_up_ne _ _ (by assumption)).trans ?_)); done) | (simp [va_up, *] <;> rfl)) rfl ?_
        refine z_iload_n C dX2_add_73 rfl ?_
        refine z_isubZ C dX2_add_74 ?_
        refine z_copyZ C dX2_add_75 t2_150 ar_nat ar_st ar_in (by first | assumption | ((repeat (first | assumption | exact va_up_self _ _ _ | refine (va_up_ne _ _ (by assumption)).trans ?_)); done) | (simp [va_up, *] <;> rfl)) (by first | assumption | ((repeat (first | assumption | exact va_up_self _ _ _ | refine (va_up_ne _ _ (by assumption)).trans ?_)); done) | (simp [va_up, *] <;> rfl)) (by omega) (by omega) (by omega) (by omega) (by omega) (by decide) (by decide) ⟨by decide, (by first | decide | exact Nat.le_of_ble_eq_true rfl)⟩ (by assumption) (by assumption) (fun hr75 => ?_)
        refine z_aload_n C dX2_add_78 rfl ?_
        refine z_get C dX2_add_79 fl_X2_15 (by first | assumption | ((repeat (first | assumption | exact va_up_self _ _ _ | refine (va_up_ne _ _ (by assumption)).trans ?_)); done) | (simp [va_up, *] <;> rfl)) rfl ?_
        refine z_iload_n C dX2_add_82 rfl ?_
        refine z_aload_n C dX2_add_83 rfl ?_
        refine z_get C dX2_add_84 fl_X2_15 (by first | assumption | ((repeat (first | assumption | exact va_up_self _ _ _ | refine (va_up_ne _ _ (by assumption)).trans ?_)); done) | (simp [va_up, *] <;> rfl)) rfl ?_
        refine z_iload_n C dX2_add_87 rfl ?_
        refine z_iconst C dX2_add_88 ?_
        refine z_iaddZ C dX2_add_89 ?_
        refine z_aload_n C dX2_add_90 rfl ?_
        refine z_get C dX2_add_91 fl_X2_18 (by first | assumption | ((repeat (first | assumption | exact va_up_self _ _ _ | refine (va_up_ne _ _ (by assumption)).trans ?_)); done) | (simp [va_up, *] <;> rfl)) rfl ?_
        refine z_iload_n C dX2_add_94 rfl ?_
        refine z_isubZ C dX2_add_95 ?_
        refine z_copyZ C dX2_add_96 t2_150 ar_nat ar_st ar_in (by first | assumption | ((repeat (first | assumption | exact va_up_self _ _ _ | refine (va_up_ne _ _ (by assumption)).trans ?_)); done) | (simp [va_up, *] <;> rfl)) (by first | assumption | ((repeat (first | assumption | exact va_up_self _ _ _ | refine (va_up_ne _ _ (by assumption)).trans ?_)); done) | (simp [va_up, *] <;> rfl)) (by omega) (by omega) (by omega) (by omega) (by omega) (by decide) (by decide) ⟨by decide, (by first | decide | exact Nat.le_of_ble_eq_true rfl)⟩ (by assumption) (by assumption) (fun hr96 => ?_)
        refine z_aload_n C dX2_add_99 rfl ?_
        refine z_get C dX2_add_100 fl_X2_9 (by first | assumption | ((repeat (first | assumption | exact va_up_self _ _ _ | refine (va_up_ne _ _ (by assumption)).trans ?_)); done) | (simp [va_up, *] <;> rfl)) rfl ?_
        refine z_iload_n C dX2_add_103 rfl ?_
        refine z_iload_n C dX2_add_104 rfl ?_
        refine z_astN C dX2_add_105 (by first | assumption | ((repeat (first | assumption | exact va_up_self _ _ _ | refine (va_up_ne _ _ (by assumption)).trans ?_)); done) | (simp [va_up, *] <;> rfl)) (by omega) (by omega) (by assumption) (by omega) (fun hr105 => ?_)
        refine z_aload_n C dX2_add_106 rfl ?_
        refine z_get C dX2_add_107 fl_X2_15 (by first | assumption | ((repeat (first | assumption | exact va_up_self _ _ _ | refine (va_up_ne _ _ (by assumption)).trans ?_)); done) | (simp [va_up, *] <;> rfl)) rfl ?_
        refine z_iload_n C dX2_add_110 rfl ?_
        refine z_iload_n C dX2_add_111 rfl ?_
        refine z_astN C dX2_add_112 (by first | assumption | ((repeat (first | assumption | exact va_up_self _ _ _ | refine (va_up_ne _ _ (by assumption)).trans ?_)); done) | (simp [va_up, *] <;> rfl)) (by omega) (by omega) (by assumption) (by omega) (fun hr112 => ?_)
        refine z_aload_n C dX2_add_113 rfl ?_
        refine z_dup C dX2_add_114 rfl ?_
        refine z_get C dX2_add_115 fl_X2_18 (by first | assumption | ((repeat (first | assumption | exact va_up_self _ _ _ | refine (va_up_ne _ _ (by assumption)).trans ?_)); done) | (simp [va_up, *] <;> rfl)) rfl ?_
        refine z_iconst C dX2_add_118 ?_
        refine z_iaddZ C dX2_add_119 ?_
        refine z_put C dX2_add_120 fl_X2_18 (by first | assumption | ((repeat (first | assumption | exact va_up_self _ _ _ | refine (va_up_ne _ _ (by assumption)).trans ?_)); done) | (simp [va_up, *] <;> rfl)) rfl rfl (by simp) ?_
        refine z_vret C hQ dX2_add_123 (by decide) (by decide) ?_
        refine ⟨rfl, ?_, hkv, n + 1, hIn ks r n key, hIn vs r n am, ⟨?_, ?_, ?_⟩, hIns hS hR hp2 (hp2.val hS hR (.inr (by omega))) (hlt (hp2.val hS hR (.inr (by omega)))) hkey ham hr105 hr112⟩
        · intro b hb
          simp at hb
          simp [va_up, hb]
        · simp [va_up]
        · simp [va_up, hIn, n3, hkv]
        · simp [va_up, hIn, n4, n5]
    · refine z_aload_n C dX2_add_24 rfl ?_
      refine z_get C dX2_add_25 fl_X2_15 (by first | assumption | ((repeat (first | assumption | exact va_up_self _ _ _ | refine (va_up_ne _ _ (by assumption)).trans ?_)); done) | (simp [va_up, *] <;> rfl)) rfl ?_
      refine z_iload_n C dX2_add_28 rfl ?_
      refine z_aload_n C dX2_add_29 rfl ?_
      refine z_get C dX2_add_30 fl_X2_15 (by first | assumption | ((repeat (first | assumption | exact va_up_self _ _ _ | refine (va_up_ne _ _ (by assumption)).trans ?_)); done) | (simp [va_up, *] <;> rfl)) rfl ?_
      refine z_iload_n C dX2_add_33 rfl ?_
      refine z_aldN C dX2_add_34 (by first | assumption | ((repeat (first | assumption | exact va_up_self _ _ _ | refine (va_up_ne _ _ (by assumption)).trans ?_)); done) | (simp [va_up, *] <;> rfl)) (by omega) (by omega) (by assumption) (fun hr34 => ?_)
      refine z_iload_n C dX2_add_35 rfl ?_
      refine z_iaddZ C dX2_add_36 ?_
      refine z_sipush C dX2_add_37 (by decide) ?_
      have q40 := hR.1 r.toNat (by omega)
      refine z_min C dX2_add_40 lk_X2_32 mmin_st ma_in mmin_co (by omega) (by omega) ⟨by decide, (by first | decide | exact Nat.le_of_ble_eq_true rfl), by decide, by decide⟩ ?_
      refine z_astN C dX2_add_43 (by first | assumption | ((repeat (first | assumption | exact va_up_self _ _ _ | refine (va_up_ne _ _ (by assumption)).trans ?_)); done) | (simp [va_up, *] <;> rfl)) (by omega) (by omega) (by assumption) (by omega) (fun hr43 => ?_)
      refine z_goto (tgt := 123) C dX2_add_44 (by decide) ?_
      refine z_vret C hQ dX2_add_123 (by decide) (by decide) ?_
      refine ⟨rfl, zFr.up (by simp), hkv, n, ks, _, ⟨?_, ?_, ?_⟩, hRai hS hR (by omega) (by omega) (by omega) hr43⟩
      · rw [va_up_ne _ _ n2]; exact hC
      · rw [va_up_ne _ _ hkv]; exact hK
      · simp [va_up]

