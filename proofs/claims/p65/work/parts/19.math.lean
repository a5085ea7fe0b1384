/-! sums over keys, enumerations, a pigeonhole -/
def zsum (f : Int → Int) (lo : Int) : Nat → Int
  | 0 => 0
  | t + 1 => zsum f lo t + f (lo + t)
def zsn (g : Nat → Int) : Nat → Int
  | 0 => 0
  | n + 1 => zsn g n + g n
theorem zsum_cg {f g : Int → Int} {lo : Int} : ∀ {t : Nat}, (∀ i : Nat, i < t → f (lo + i) = g (lo + i)) → zsum f lo t = zsum g lo t
  | 0, _ => rfl
  | t + 1, h => by
    show zsum f lo t + f (lo + t) = zsum g lo t + g (lo + t)
    rw [zsum_cg (fun i hi => h i (by omega)), h t (by omega)]
theorem zsn_cg {f g : Nat → Int} : ∀ {t : Nat}, (∀ i : Nat, i < t → f i = g i) → zsn f t = zsn g t
  | 0, _ => rfl
  | t + 1, h => by
    show zsn f t + f t = zsn g t + g t
    rw [zsn_cg (fun i hi => h i (by omega)), h t (by omega)]
theorem zsum_zero {f : Int → Int} {lo : Int} : ∀ {t : Nat}, (∀ i : Nat, i < t → f (lo + i) = 0) → zsum f lo t = 0
  | 0, _ => rfl
  | t + 1, h => by
    show zsum f lo t + f (lo + t) = 0
    rw [zsum_zero (fun i hi => h i (by omega)), h t (by omega)]
    rfl
theorem zsum_out {f : Int → Int} {lo : Int} {i : Nat} : ∀ {t : Nat}, i < t → zsum f lo t = zsum (fun k => if k = lo + i then 0 else f k) lo t + f (lo + i)
  | t + 1, h => by
    show zsum f lo t + f (lo + t) = zsum _ lo t + (if lo + (t : Int) = lo + i then 0 else f (lo + t)) + f (lo + i)
    by_cases e : i = t
    · subst e
      rw [if_pos rfl, Int.add_zero]
      congr 1
      exact zsum_cg fun j hj => (if_neg (by omega)).symm
    · rw [if_neg (by omega), zsum_out (t := t) (i := i) (by omega)]
      omega
theorem zsum_enum {lo : Int} {t : Nat} {ks : Nat → Int} : ∀ (n : Nat) (f : Int → Int), (∀ j, j < n → lo ≤ ks j ∧ ks j < lo + t) → (∀ i j, i < j → j < n → ks i ≠ ks j) → (∀ k, lo ≤ k → k < lo + t → f k ≠ 0 → ∃ j, j < n ∧ ks j = k) → zsum f lo t = zsn (fun j => f (ks j)) n
  | 0, f, _, _, h => by
    refine zsum_zero fun i hi => ?_
    by_cases e : f (lo + i) = 0
    · exact e
    · obtain ⟨j, hj, -⟩ := h (lo + i) (by omega) (by omega) e
      omega
  | n + 1, f, hr, hd, hs => by
    have h1 := hr n (by omega)
    have e : ks n = lo + ((ks n - lo).toNat : Nat) := by omega
    rw [zsum_out (i := (ks n - lo).toNat) (by omega), ← e, zsum_enum n (fun k => if k = ks n then 0 else f k) (fun j hj => hr j (by omega)) (fun i j hi hj => hd i j hi (by omega)) (fun k h2 h3 h4 => ?_)]
    · show _ = zsn _ n + f (ks n)
      congr 1
      exact zsn_cg fun j hj => if_neg (hd j n hj (by omega))
    · have h5 : k ≠ ks n := fun q => h4 (if_pos q)
      obtain ⟨j, hj, q⟩ := hs k h2 h3 (by rw [if_neg h5] at h4; exact h4)
      refine ⟨j, ?_, q⟩
      by_cases e2 : j = n
      · exact absurd (by rw [← q, e2]) h5
      · omega
theorem zsn_one : ∀ (n : Nat) {g : Nat → Int}, (∀ j, j < n → g j = 1) → zsn g n = n
  | 0, _, _ => rfl
  | n + 1, g, h => by
    show zsn g n + g n = _
    rw [zsn_one n fun j hj => h j (by omega), h n (by omega)]
    omega
theorem zsum_nn {f : Int → Int} {lo : Int} : ∀ {t : Nat}, (∀ i : Nat, i < t → 0 ≤ f (lo + i)) → 0 ≤ zsum f lo t
  | 0, _ => Int.le_refl 0
  | t + 1, h => by
    show 0 ≤ zsum f lo t + f (lo + t)
    have h1 := zsum_nn (t := t) (fun i hi => h i (by omega))
    have h2 := h t (by omega)
    omega
theorem zsum_le {f : Int → Int} {lo b : Int} : ∀ {t : Nat}, (∀ i : Nat, i < t → f (lo + i) ≤ b) → zsum f lo t ≤ b * t
  | 0, _ => by simp [zsum]
  | t + 1, h => by
    show zsum f lo t + f (lo + t) ≤ _
    have h1 := zsum_le (t := t) (fun i hi => h i (by omega))
    have h2 := h t (by omega)
    have e : b * ((t + 1 : Nat) : Int) = b * t + b := by rw [Int.natCast_add, Int.mul_add]; simp
    omega
theorem zsum_pos {f : Int → Int} {lo : Int} {t : Nat} (h0 : ∀ i : Nat, i < t → 0 ≤ f (lo + i)) {k : Int} (h1 : lo ≤ k) (h2 : k < lo + t) (h : f k ≠ 0) : 0 < zsum f lo t := by
  have e : k = lo + ((k - lo).toNat : Nat) := by omega
  rw [zsum_out (i := (k - lo).toNat) (by omega), ← e]
  have h3 : 0 ≤ f k := by rw [e]; exact h0 _ (by omega)
  have h4 : 0 ≤ zsum (fun x => if x = k then 0 else f x) lo t := zsum_nn fun i hi => by
    show 0 ≤ (if lo + (i : Int) = k then 0 else f (lo + i))
    split
    · omega
    · exact h0 i hi
  omega
theorem zsum_add {f : Int → Int} {lo : Int} (t : Nat) : ∀ (u : Nat), zsum f lo (t + u) = zsum f lo t + zsum f (lo + t) u
  | 0 => by simp [zsum]
  | u + 1 => by
    show zsum f lo (t + u) + f (lo + ((t + u : Nat) : Int)) = _ + (zsum f (lo + t) u + f (lo + t + u))
    rw [zsum_add t u, show lo + ((t + u : Nat) : Int) = lo + t + u by omega]
    omega
/-- no more distinct members than a list is long -/
theorem zpig {ks : Nat → Int} : ∀ (n : Nat) (G : List Int), (∀ j, j < n → ks j ∈ G) → (∀ i j, i < j → j < n → ks i ≠ ks j) → n ≤ G.length
  | 0, _, _, _ => Nat.zero_le _
  | n + 1, G, h, hd => by
    have h1 := h n (by omega)
    have h2 := zpig n (G.erase (ks n)) (fun j hj => (List.mem_erase_of_ne (hd j n hj (by omega))).2 (h j (by omega))) (fun i j hi hj => hd i j hi (by omega))
    rw [List.length_erase_of_mem h1] at h2
    have h3 := List.length_pos_of_mem h1
    omega
/-- 1 where there is a count -/
def zind (c : Int → Int) (k : Int) : Int := if c k = 0 then 0 else 1
theorem zind_rng (c : Int → Int) (k : Int) : 0 ≤ zind c k ∧ zind c k ≤ 1 := by
  unfold zind
  split <;> decide

