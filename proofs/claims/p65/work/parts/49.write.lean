/-! the face's writing calls -/
/-- the comma before all ranks but the first -/
def zem (p : (Nat → Int) × Int) (i : Nat) : (Nat → Int) × Int := if i = 0 then p else (va_up p.1 p.2.toNat 44, p.2 + 1)
/-- the ranks of the first symbols of a document, as text -/
def zen (c : Int → Int) (X : zDoc) : Nat → (Nat → Int) × Int
  | 0 => (fun _ => 0, 0)
  | i + 1 => (zdg (zem (zen c X i) i).1 (zem (zen c X i) i).2 (zrp c (dSy X) (dLe X) i), (zem (zen c X i) i).2 + zdl (zrp c (dSy X) (dLe X) i))
def zenx (c : Int → Int) (X : zDoc) : (Nat → Int) × Int := zen c X (dLe X).toNat
theorem zdl_rng (x : Int) : 1 ≤ zdl x ∧ zdl x ≤ 2 := by
  unfold zdl
  split <;> omega
theorem va_up_cg {f g : Nat → Int} {n x : Int} (hn : 0 ≤ n) (h : ∀ j : Nat, j < n → f j = g j) : ∀ j : Nat, j < n + 1 → va_up f n.toNat x j = va_up g n.toNat x j := fun j hj => by
  unfold va_up
  split
  · rfl
  · exact h j (by omega)
theorem zdg_cg {f g : Nat → Int} {n x : Int} (hn : 0 ≤ n) (h : ∀ j : Nat, j < n → f j = g j) : ∀ j : Nat, j < n + zdl x → zdg f n x j = zdg g n x j := by
  unfold zdl zdg
  split
  · have h1 := va_up_cg (x := 48 + x / 10) hn h
    have h2 := va_up_cg (x := 48 + x % 10) (by omega) h1
    rw [show n + 1 + 1 = n + 2 by omega] at h2
    exact h2
  · exact va_up_cg hn h
theorem zrrt_cg {f g : Nat → Int} {n : Int} (h : hAt f n = hAt g n) : ∀ (t : Nat) (i z v : Int) (u : Nat → Int), zrrt f n t i z v u = zrrt g n t i z v u
  | 0, _, _, _, _ => rfl
  | t + 1, i, z, v, u => by
    unfold zrrt
    rw [h, zrrt_cg h t, zrrt_cg h t]
theorem zrr_cg {f g : Nat → Int} {n : Int} (h : hAt f n = hAt g n) : zrr f n = zrr g n := zrrt_cg h _ _ _ _ _
theorem zwb_cg {c : Int → Int} {f g : Nat → Int} : ∀ (i : Nat), (∀ j : Nat, j < i → f j = g j) → zwb c f i = zwb c g i
  | 0, _ => rfl
  | i + 1, h => by
    unfold zwb
    rw [zwb_cg i (fun j hj => h j (by omega)), h i (by omega)]
theorem zwo_cg {c : Int → Int} {f g : Nat → Int} {n : Int} (h : ∀ j : Nat, j < n → f j = g j) (j : Nat) (hj : j < n) : zwo c f j = zwo c g j := by
  unfold zwo
  rw [zwb_cg (j + 1) (fun k hk => h k (by omega))]
noncomputable def q_encode (Y : zSys) (rr dd : Int) : Int × Int := zqR (yS Y) rr (zqD (yS Y) dd (0, (zenx (rC (sRd (yS Y) rr.toNat)) (sDc (yS Y) dd.toNat)).2))
noncomputable def y_encode (Y : zSys) (rr dd : Int) : zSys := ySO Y (zenx (rC (sRd (yS Y) rr.toNat)) (sDc (yS Y) dd.toNat)).1 (zenx (rC (sRd (yS Y) rr.toNat)) (sDc (yS Y) dd.toNat)).2
noncomputable def q_decode (Y : zSys) (rr : Int) : Int × Int := zqR (yS Y) rr (zq2 ((zrr (yIf Y) (yIn Y)).1 ≠ 0) (0, (zrr (yIf Y) (yIn Y)).1))
noncomputable def y_decode (Y : zSys) (rr : Int) : zSys := ySO (ySI Y (yIf Y) 0) (zwo (rC (sRd (yS Y) rr.toNat)) (zrr (yIf Y) (yIn Y)).2) (zrr (yIf Y) (yIn Y)).1
noncomputable def q_writeExpected (Y : zSys) (rr ll : Int) : Int × Int := zqR (yS Y) rr (zq2 (1 ≤ ll ∧ ll ≤ 40) (0, ll))
noncomputable def y_writeExpected (Y : zSys) (rr ll : Int) : zSys := ySO Y (zwo (rC (sRd (yS Y) rr.toNat)) (fun _ => 1)) ll
