/-! Chance: the fraction of a symbol in a context -/
theorem zsum_nx {f : Int → Int} {x : Int} (hx : 0 ≤ x) : zsum f 0 (x + 1).toNat = zsum f 0 x.toNat + f x := by
  rw [show (x + 1).toNat = x.toNat + 1 by omega]
  show zsum f 0 x.toNat + f (0 + (x.toNat : Int)) = _
  rw [show (0 : Int) + (x.toNat : Int) = x by omega]
theorem zsum_sk {f : Int → Int} {x : Int} (hx : 0 ≤ x) : ∀ (t : Nat), (∀ s, x ≤ s → s < x + t → f s = 0) → zsum f 0 (x + t).toNat = zsum f 0 x.toNat
  | 0, _ => by simp
  | t + 1, h => by
    rw [show x + ((t + 1 : Nat) : Int) = (x + t) + 1 by omega, zsum_nx (by omega), zsum_sk hx t (fun s a b => h s a (by omega)), h (x + t) (by omega) (by omega)]
    omega
theorem zsum_mo {f g : Int → Int} {lo : Int} : ∀ {t : Nat}, (∀ i : Nat, i < t → f (lo + i) ≤ g (lo + i)) → zsum f lo t ≤ zsum g lo t
  | 0, _ => Int.le_refl 0
  | t + 1, h => by
    show zsum f lo t + f (lo + t) ≤ zsum g lo t + g (lo + t)
    have h1 := zsum_mo (t := t) (fun i hi => h i (by omega))
    have h2 := h t (by omega)
    omega
/-- the count of a symbol that stands highest in order o -/
def zvF (c : Int → Int) (b p o : Int) (s : Int) : Int := if zlv c b p s = o then c (zCs o b p + s) else 0
def zvG (c : Int → Int) (b p o : Int) (s : Int) : Int := if zlv c b p s = o then 1 else 0
/-- how many symbols stand highest in order o, and the sum of their counts there -/
def zxn (c : Int → Int) (b p o : Int) : Int := zsum (zvG c b p o) 0 27
def zxs (c : Int → Int) (b p o : Int) : Int := zsum (zvF c b p o) 0 27
def zxd (me S D : Int) : Int := if me = 0 then S + 1 else if me = 1 then S + D else 2 * S
def zxf (me D : Int) : Int := if me = 0 then 1 else D
def zxg (me n : Int) : Int := if me = 2 then 2 * n - 1 else n
/-- the factors of the orders below t; top, bottom, escapes so far -/
def zch (c : Int → Int) (b p s me : Int) : Nat → Int → Int → Int → Int × Int × Int
  | 0, T, B, E => (T, B * zxn c b p (-1), E)
  | t + 1, T, B, E => if zxn c b p t = 0 then zch c b p s me t T B E else if zlv c b p s = t then (T * zxg me (c (zCs t b p + s)), B * zxd me (zxs c b p t) (zxn c b p t), E) else zch c b p s me t (T * zxf me (zxn c b p t)) (B * zxd me (zxs c b p t) (zxn c b p t)) (E + 1)
def zcf (c : Int → Int) (b p s me : Int) : Int × Int × Int := zch c b p s me (zFo b p + 1).toNat 1 1 0
def zgd (x y : Int) : Int := ((x.gcd y : Nat) : Int)
def zcT (c : Int → Int) (b p s me : Int) : Int := (zcf c b p s me).1 / zgd (zcf c b p s me).1 (zcf c b p s me).2.1
def zcB (c : Int → Int) (b p s me : Int) : Int := (zcf c b p s me).2.1 / zgd (zcf c b p s me).1 (zcf c b p s me).2.1
def zcE (c : Int → Int) (b p s me : Int) : Int := (zcf c b p s me).2.2
/-- all counts are 0 to 999 -/
def zcR (c : Int → Int) : Prop := ∀ x, 0 ≤ c x ∧ c x ≤ 999
theorem zvG_rng (c : Int → Int) (b p o s : Int) : 0 ≤ zvG c b p o s ∧ zvG c b p o s ≤ 1 := by
  unfold zvG
  split <;> decide
theorem zvF_rng {c : Int → Int} (h : zcR c) (b p o s : Int) : 0 ≤ zvF c b p o s ∧ zvF c b p o s ≤ 999 := by
  unfold zvF
  split
  · exact h _
  · decide
theorem zvFG {c : Int → Int} (h : zcR c) {b p o : Int} (ho : 0 ≤ o) (s : Int) : zvG c b p o s ≤ zvF c b p o s := by
  unfold zvG zvF
  split
  · rename_i q
    have h1 := h (zCs o b p + s)
    by_cases e : c (zCs o b p + s) = 0
    · exact absurd q (zlv_ne ho e)
    · omega
  · decide
theorem zxn_rng (c : Int → Int) (b p o : Int) : 0 ≤ zxn c b p o ∧ zxn c b p o ≤ 27 := by
  have h1 : 0 ≤ zxn c b p o := zsum_nn fun i _ => (zvG_rng c b p o _).1
  have h2 : zxn c b p o ≤ 1 * (27 : Nat) := zsum_le fun i _ => (zvG_rng c b p o _).2
  exact ⟨h1, by simpa using h2⟩
theorem zxs_rng {c : Int → Int} (h : zcR c) (b p : Int) {o : Int} (ho : 0 ≤ o) : zxn c b p o ≤ zxs c b p o ∧ zxs c b p o ≤ 26973 := by
  have h1 : zxn c b p o ≤ zxs c b p o := zsum_mo fun i _ => zvFG h ho _
  have h2 : zxs c b p o ≤ 999 * (27 : Nat) := zsum_le fun i _ => (zvF_rng h b p o _).2
  exact ⟨h1, by simpa using h2⟩
theorem zxn_pos {c : Int → Int} {b p o s : Int} (hs : 0 ≤ s ∧ s < 27) (h : zlv c b p s = o) : 0 < zxn c b p o := zsum_pos (fun i _ => (zvG_rng c b p o _).1) hs.1 (by omega) (by rw [zvG, if_pos h]; decide)
theorem zxd_rng {c : Int → Int} (h : zcR c) {b p o me : Int} (ho : 0 ≤ o) (hn : zxn c b p o ≠ 0) : 1 ≤ zxd me (zxs c b p o) (zxn c b p o) ∧ zxd me (zxs c b p o) (zxn c b p o) ≤ 54000 := by
  have h1 := zxn_rng c b p o
  have h2 := zxs_rng h b p ho
  unfold zxd
  split
  · omega
  · split <;> omega
theorem zxf_rng {c : Int → Int} {b p o me : Int} (hn : zxn c b p o ≠ 0) : 1 ≤ zxf me (zxn c b p o) ∧ zxf me (zxn c b p o) ≤ 54000 := by
  have h1 := zxn_rng c b p o
  unfold zxf
  split <;> omega
theorem zxg_rng {n me : Int} (h : 1 ≤ n ∧ n ≤ 999) : 1 ≤ zxg me n ∧ zxg me n ≤ 54000 := by
  unfold zxg
  split <;> omega
def zbd : Nat → Int
  | 0 => 1
  | k + 1 => zbd k * 54000
theorem zbd_mul {k : Nat} {T f : Int} (h1 : 1 ≤ T ∧ T ≤ zbd k) (h2 : 1 ≤ f ∧ f ≤ 54000) : 1 ≤ T * f ∧ T * f ≤ zbd (k + 1) := by
  constructor
  · have := Int.mul_le_mul h1.1 h2.1 (by omega) (by omega)
    omega
  · exact Int.mul_le_mul h1.2 h2.2 (by omega) (by omega)
theorem zbd_le : ∀ k, k ≤ 3 → zbd k ≤ 157464000000000 := by decide
theorem zxn_no {c : Int → Int} {b p s : Int} (hs : 0 ≤ s ∧ s < 27) (h : zlv c b p s = -1) : 1 ≤ zxn c b p (-1) ∧ zxn c b p (-1) ≤ 27 := by
  have h1 := zxn_pos (c := c) (b := b) (p := p) (o := -1) hs h
  have h2 := zxn_rng c b p (-1)
  omega
/-- a visit under way: the symbols below x are seen -/
def zVi (c : Int → Int) (b p o s0 x S D n : Int) (mk : Int32) : Prop := (0 ≤ x ∧ x ≤ 27) ∧ S = zsum (zvF c b p o) 0 x.toNat ∧ D = zsum (zvG c b p o) 0 x.toNat ∧ n = (if s0 < x then zvF c b p o s0 else 0) ∧ ∀ i : Nat, zbit mk i = true ↔ (i : Int) < 27 ∧ (o < zlv c b p i ∨ (zlv c b p i = o ∧ (i : Int) < x))
/-- the symbols that stand in an order above o -/
def zXm (c : Int → Int) (b p o : Int) (mk : Int32) : Prop := ∀ i : Nat, zbit mk i = true ↔ (i : Int) < 27 ∧ o < zlv c b p i
theorem zVi.adv {c : Int → Int} {b p o s0 x y S D n : Int} {mk : Int32} (h : zVi c b p o s0 x S D n mk) (hxy : x ≤ y ∧ y ≤ 27) (hn : ∀ s, x ≤ s → s < y → zlv c b p s ≠ o) : zVi c b p o s0 y S D n mk := by
  obtain ⟨h1, h2, h3, h4, h5⟩ := h
  have e : y = x + ((y - x).toNat : Nat) := by omega
  refine ⟨by omega, ?_, ?_, ?_, fun i => ?_⟩
  · rw [h2, e, zsum_sk (f := zvF c b p o) h1.1 (y - x).toNat fun s a b1 => if_neg (hn s a (by omega))]
  · rw [h3, e, zsum_sk (f := zvG c b p o) h1.1 (y - x).toNat fun s a b1 => if_neg (hn s a (by omega))]
  · rw [h4]
    by_cases e1 : s0 < x
    · rw [if_pos e1, if_pos (by omega)]
    · rw [if_neg e1]
      by_cases e2 : s0 < y
      · rw [if_pos e2, zvF, if_neg (hn s0 (by omega) e2)]
      · rw [if_neg e2]
  · rw [h5 i]
    have := hn i
    omega
theorem zVi.put {c : Int → Int} {b p o s0 x S D n : Int} {mk : Int32} (h : zVi c b p o s0 x S D n mk) (hx : x < 27) (hl : zlv c b p x = o) : zVi c b p o s0 (x + 1) (S + c (zCs o b p + x)) (D + 1) (if x = s0 then c (zCs o b p + x) else n) (mk ||| (zi 1 <<< (zi x &&& 31))) := by
  obtain ⟨h1, h2, h3, h4, h5⟩ := h
  refine ⟨by omega, ?_, ?_, ?_, fun i => ?_⟩
  · rw [zsum_nx h1.1, h2, zvF, if_pos hl]
  · rw [zsum_nx h1.1, h3, zvG, if_pos hl]
  · by_cases e : x = s0
    · subst e
      rw [if_pos rfl, if_pos (by omega), zvF, if_pos hl]
    · rw [if_neg e, h4]
      by_cases e1 : s0 < x
      · rw [if_pos e1, if_pos (by omega)]
      · rw [if_neg e1, if_neg (by omega)]
  · rw [zbit_or mk (s := x) (by omega), Bool.or_eq_true, h5 i, decide_eq_true_iff]
    constructor
    · rintro (q | q)
      · omega
      · have : (i : Int) = x := by omega
        rw [this]
        omega
    · rintro ⟨q1, q2⟩
      by_cases e : (i : Int) = x
      · exact .inr (by omega)
      · exact .inl (by omega)
theorem zVi.ini {c : Int → Int} {b p o s0 : Int} {mk : Int32} (h : zXm c b p o mk) (hs : 0 ≤ s0) : zVi c b p o s0 0 0 0 0 mk := ⟨by omega, rfl, rfl, by rw [if_neg (by omega)], fun i => by
  rw [h i]
  omega⟩
theorem zVi.fin {c : Int → Int} {b p o s0 S D n : Int} {mk : Int32} (h : zVi c b p o s0 27 S D n mk) (hs : 0 ≤ s0 ∧ s0 < 27) : S = zxs c b p o ∧ D = zxn c b p o ∧ n = zvF c b p o s0 ∧ zXm c b p (o - 1) mk := by
  obtain ⟨h1, h2, h3, h4, h5⟩ := h
  refine ⟨h2, h3, by rw [h4, if_pos hs.2], fun i => ?_⟩
  rw [h5 i]
  omega
theorem zXm.no {c : Int → Int} {b p o : Int} {mk : Int32} (h : zXm c b p o mk) (hn : zxn c b p o = 0) : zXm c b p (o - 1) mk := fun i => by
  rw [h i]
  constructor
  · omega
  · rintro ⟨q1, q2⟩
    refine ⟨q1, ?_⟩
    by_cases e : zlv c b p i = o
    · have := zxn_pos (s := i) (by omega) e
      omega
    · omega
/-- the number of symbols in no order -/
theorem zXm.left {c : Int → Int} {b p : Int} {mk : Int32} (h : zXm c b p (-1) mk) : 27 - zpc mk = zxn c b p (-1) := by
  have e1 : zpc mk = zsn (fun i => if zbit mk i then 1 else 0) 27 := by
    unfold zpc
    rw [show (32 : Nat) = 27 + 5 by rfl, zsn_add]
    rw [zsn_cg (f := fun i => if zbit mk (27 + i) then 1 else 0) (g := fun _ => 0) (fun i hi => if_neg fun q => by
      have := (h (27 + i)).mp q
      omega)]
    simp [zsn]
  have e2 : ∀ t : Nat, t ≤ 27 → zsum (zvG c b p (-1)) 0 t = t - zsn (fun i => if zbit mk i then 1 else 0) t := by
    intro t
    induction t with
    | zero => intro _; rfl
    | succ t ih =>
      intro ht
      show zsum (zvG c b p (-1)) 0 t + zvG c b p (-1) (0 + t) = ((t + 1 : Nat) : Int) - (zsn (fun i => if zbit mk i then 1 else 0) t + (if zbit mk t then 1 else 0))
      rw [ih (by omega), show (0 : Int) + t = t by omega, zvG]
      have h1 := h t
      have h2 := zlv_rng c b p t
      by_cases e : zbit mk t = true
      · have q := h1.mp e
        rw [if_pos e, if_neg (by omega)]
        omega
      · rw [if_neg e, if_pos (by
          by_cases q : zlv c b p t = -1
          · exact q
          · exact absurd (h1.mpr (by omega)) e)]
        omega
  have := e2 27 (by omega)
  unfold zxn
  rw [this, e1]
  rfl
section ZR9
variable {p : Program} {l : Launch} {e : Env} {R : Room} {s : State} {m : MethodId} {args : Array Value} {below : List Frame} {meth : Method} {c : Code} {γ : zG} {cc : ByteArray} {nL : Nat} {ret : Option FieldType} {own : String} {xt : List ExceptionTableEntry} {Q : State → Prop} {M : zM} {k n pc mc ms : Nat} {L : zL} {st : List Value}
theorem z_lconstZ (C : zC p l s m args meth c γ cc nL ret own xt) {v : Fin 2} {x : Int} (hd : decode cc pc = .ok (.lconst v, 1)) (hx : ((v : Nat) : Int) = x)
    (kk : zAW p l e R s m args below meth c γ nL Q M k n (pc + 1) L (.long (zl x) :: st)) : zAW p l e R s m args below meth c γ nL Q M k n pc L st := by
  refine z_lconst C hd rfl ?_
  rw [hx]
  exact kk
end ZR9

