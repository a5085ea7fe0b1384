/-! cells made for the face: all blocks, and their names at the end -/
def kT (n i : Nat) : Prop := i < 102 + 43 * n
def zZ0 (j : Nat) : zSt := if j = 0 then zFs9 else zS0
/-- the parts of the face that lie outside the blocks, all new -/
def zPP (γ : zG) (U : Nat → Nat) (M : zM) : Prop := M (U 3) = some (zaZ γ 2 (fun _ => 0)) ∧ hBy γ M (U 4) (U 5) (fun _ => 0) 0 ∧ hBy γ M (U 6) (U 7) (fun _ => 0) 0 ∧ hCn γ M (U 8) (U 9) (U 10) (fun _ => 0) ∧ hRq γ M (U 11) (U 12) (U 13) ∧ M (U 14) = some (.inr (1, [.long (zl 1), .long (zl 1), .int (zi 0), .int 0])) ∧ M (U 15) = some (zaI γ 40 (fun _ => 0))
theorem zPP.cg {γ : zG} {U V : Nat → Nat} {M : zM} (h : zPP γ U M) (q : ∀ j, j < 16 → V j = U j) : zPP γ V M := by
  unfold zPP at h ⊢
  rw [q 3 (by omega), q 4 (by omega), q 5 (by omega), q 6 (by omega), q 7 (by omega), q 8 (by omega), q 9 (by omega), q 10 (by omega), q 11 (by omega), q 12 (by omega), q 13 (by omega), q 14 (by omega), q 15 (by omega)]
  exact h
theorem zPP.fr {γ : zG} {U : Nat → Nat} {M M' : zM} {S : List Nat} (h : zPP γ U M) (f : zFr M M' S) (q : ∀ j, j < 16 → U j ∉ S) : zPP γ U M' := by
  obtain ⟨h3, h4, h6, h8, h11, h14, h15⟩ := h
  exact ⟨f.at (q 3 (by omega)) h3, h4.fr f (q 4 (by omega)) (q 5 (by omega)), h6.fr f (q 6 (by omega)) (q 7 (by omega)), h8.fr f (q 8 (by omega)) (q 9 (by omega)) (q 10 (by omega)), h11.fr f (q 11 (by omega)) (q 12 (by omega)) (q 13 (by omega)), f.at (q 14 (by omega)) h14, f.at (q 15 (by omega)) h15⟩
theorem zSg.iff {Mo M : zM} {a : Nat} {U : Nat → Nat} {mk mk' : Nat → Prop} {P P' : zM → Prop} (h : zSg Mo a U mk P M) (k : ∀ i, mk i ↔ mk' i) (q : ∀ M, P M ↔ P' M) : zSg Mo a U mk' P' M := by
  obtain rfl : mk = mk' := funext fun i => propext (k i)
  obtain rfl : P = P' := funext fun M => propext (q M)
  exact h
/-- n blocks of the loops are made -/
def zLq (γ : zG) (Mo : zM) (a : Nat) (U0 : Nat → Nat) (n : Nat) (U : Nat → Nat) (Dk : Nat → Nat → Nat) (M : zM) : Prop := zSg Mo a U (kT n) (fun M => zPP γ U0 M ∧ ∀ j, j < 2 + n → hSt γ M (Dk j) (zZ0 j)) M ∧ (∀ j, j < 102 → U j = U0 j) ∧ ∀ j r, j < 2 + n → r < 43 → Dk j r = U (16 + 43 * j + r)
theorem zLq.stp {γ : zG} {Mo M1 M2 : zM} {a b w q n : Nat} {U0 U D : Nat → Nat} {Dk : Nat → Nat → Nat} {o x y : va_E} (h : zLq γ Mo a U0 n U Dk M1) (hq : M1 q = none) (g : hGr (va_up M1 q (some o)) M2 q D 43) (ha : M2 a = some x) (hS : hSt γ M2 D zS0) (hw : 1 ≤ w ∧ w ≤ 2) (hb : b = U0 w) : zLq γ Mo a U0 (n + 1) (zUx U D (102 + 43 * n) 43) (fun j => if j = 2 + n then D else Dk j) (va_up M2 b (some y)) := by
  obtain ⟨h1, h2, h3⟩ := h
  have z := h1.blkE (mk' := kT (n + 1)) (lo := 102 + 43 * n) (w := w) (b := b) (y := y) (by omega) (fun i => by unfold kT; omega) (fun i v => by unfold kT at v; omega) hq g ha hS ⟨by unfold kT; omega, hw.2⟩ (hb.trans (h2 w (by omega)).symm)
  refine ⟨z.iff (fun _ => Iff.rfl) fun M => ⟨fun v => ⟨v.1.1, fun j hj => ?_⟩, fun v => ⟨⟨v.1, fun j hj => ?_⟩, ?_⟩⟩, fun j hj => ?_, fun j r hj hr => ?_⟩
  · by_cases e1 : j = 2 + n
    · show hSt γ M (if j = 2 + n then D else Dk j) (zZ0 j)
      rw [if_pos e1, show zZ0 j = zS0 from if_neg (by omega)]
      exact v.2
    · show hSt γ M (if j = 2 + n then D else Dk j) (zZ0 j)
      rw [if_neg e1]
      exact v.1.2 j (by omega)
  · have v2 : hSt γ M (if j = 2 + n then D else Dk j) (zZ0 j) := v.2 j (by omega)
    rwa [if_neg (by omega)] at v2
  · have v2 : hSt γ M (if 2 + n = 2 + n then D else Dk (2 + n)) (zZ0 (2 + n)) := v.2 (2 + n) (by omega)
    rwa [if_pos rfl, show zZ0 (2 + n) = zS0 from if_neg (by omega)] at v2
  · rw [zUx_o (by omega)]
    exact h2 j hj
  · show (if j = 2 + n then D else Dk j) r = _
    by_cases e1 : j = 2 + n
    · rw [if_pos e1, e1, show 16 + 43 * (2 + n) + r = 102 + 43 * n + r by omega, zUx_n hr]
    · rw [if_neg e1, zUx_o (by omega)]
      exact h3 j r (by omega) hr
/-- all is made; the first n blocks bear the names of the end -/
def zRn (γ : zG) (Mo : zM) (a : Nat) (U : Nat → Nat) (Dk : Nat → Nat → Nat) (x0 x1 x2 : va_E) (n : Nat) (M : zM) : Prop := zGw Mo a U (kT 10) M ∧ zPP γ U M ∧ (∀ j, j < 12 → hSt γ M (if j < n then zUb U j else Dk j) (zZ0 j)) ∧ M (U 0) = some x0 ∧ M (U 1) = some x1 ∧ M (U 2) = some x2
section ZM6
variable {p : Program} {l : Launch} {e : Env} {R : Room} {s : State} {m : MethodId} {args : Array Value} {below : List Frame} {meth : Method} {c : Code} {γ : zG} {cc : ByteArray} {nL : Nat} {ret : Option FieldType} {own : String} {xt : List ExceptionTableEntry} {Q : State → Prop} {M : zM} {k n pc : Nat} {L : zL} {st : List Value}
theorem z_rlbs {Mo : zM} {a : Nat} {U : Nat → Nat} {Dk : Nat → Nat → Nat} {x0 x1 x2 : va_E} (hD : ∀ j r, j < 12 → r < 43 → Dk j r = U (16 + 43 * j + r)) : ∀ (t i : Nat) (M : zM), i + t = 12 → zRn γ Mo a U Dk x0 x1 x2 i M → (∀ M', zRn γ Mo a U Dk x0 x1 x2 12 M' → zAW p l e R s m args below meth c γ nL Q M' k n pc L st) → zAW p l e R s m args below meth c γ nL Q M k n pc L st := by
  intro t
  induction t with
  | zero =>
    intro i M hi h kk
    obtain rfl : i = 12 := by omega
    exact kk M h
  | succ t ih =>
    intro i M hi h kk
    obtain ⟨hG, hP, hB, h0, h1, h2⟩ := id h
    have hI : ∀ x y, x < 532 → y < 532 → U x = U y → x = y := fun x y hx hy v => hG.2.1 x y (by unfold kT; omega) (by unfold kT; omega) v
    have hBi := hB i (by omega)
    rw [if_neg (by omega)] at hBi
    refine z_rlb (D' := zUb U i) hBi (fun x y hx hy v => ?_) (fun j hj => (hD i j (by omega) hj).symm) (fun M' f hs hS => ?_)
    · rw [hD i x (by omega) hx, hD i y (by omega) hy] at v
      have := hI _ _ (by omega) (by omega) v
      omega
    have nf : ∀ j, j < 532 → j ≠ 16 + 43 * i + 1 → j ≠ 16 + 43 * i + 2 → U j ∉ [Dk i 1, Dk i 2] := fun j hj n1 n2 v => by
      rw [hD i 1 (by omega) (by omega), hD i 2 (by omega) (by omega)] at v
      simp only [List.mem_cons, List.not_mem_nil, or_false] at v
      rcases v with v | v
      · exact n1 (hI _ _ hj (by omega) v)
      · exact n2 (hI _ _ hj (by omega) v)
    refine ih (i + 1) M' (by omega) ⟨⟨hG.1, hG.2.1, fun j hj => hs _ (hG.2.2.1 j hj), hG.2.2.2.1, fun b hb => ?_⟩, hP.fr f (fun j hj => nf j (by omega) (by omega) (by omega)), fun j hj => ?_, f.at (nf 0 (by omega) (by omega) (by omega)) h0, f.at (nf 1 (by omega) (by omega) (by omega)) h1, f.at (nf 2 (by omega) (by omega) (by omega)) h2⟩ kk
    · rw [f b fun v => ?_]
      · exact hG.2.2.2.2 b hb
      · rw [hD i 1 (by omega) (by omega), hD i 2 (by omega) (by omega)] at v
        simp only [List.mem_cons, List.not_mem_nil, or_false] at v
        rcases v with v | v
        · exact hb _ (by unfold kT; omega) v.symm
        · exact hb _ (by unfold kT; omega) v.symm
    · by_cases e1 : j = i
      · rw [if_pos (by omega), e1]
        exact hS
      · have hj' := hB j hj
        have e2 : (if j < i + 1 then zUb U j else Dk j) = (if j < i then zUb U j else Dk j) := by
          by_cases e3 : j < i
          · rw [if_pos e3, if_pos (by omega)]
          · rw [if_neg e3, if_neg (by omega)]
        rw [e2]
        refine hj'.fr f fun r hr => ?_
        have e4 : (if j < i then zUb U j else Dk j) r = U (16 + 43 * j + r) := by
          by_cases e3 : j < i
          · rw [if_pos e3]
          · rw [if_neg e3]
            exact hD j r hj hr
        rw [e4]
        exact nf _ (by omega) (by omega) (by omega)
/-- the end of the making -/
theorem z_fin {Mo : zM} {a ra rb : Nat} {U0 U : Nat → Nat} {Dk : Nat → Nat → Nat} {x : va_E} (h : zLq γ Mo a U0 10 U Dk M) (ea : ra = U0 1) (eb : rb = U0 2) (h0 : M a = some x) (h1 : M ra = some (zaQ γ 7 8 (fun j => if j < 8 then some (Dk (2 + j) 0) else none))) (h2 : M rb = some (zaQ γ 7 2 (fun j => if j < 2 then some (Dk (10 + j) 0) else none))) (kk : ∀ M', zRn γ Mo a U Dk x (zaQ γ 7 8 (fun j => some (U (16 + 43 * (2 + j))))) (zaQ γ 7 2 (fun j => some (U (16 + 43 * (10 + j))))) 12 M' → zAW p l e R s m args below meth c γ nL Q M' k n pc L st) : zAW p l e R s m args below meth c γ nL Q M k n pc L st := by
  obtain ⟨⟨hG, ⟨hP, hB⟩, -⟩, hU, hD⟩ := h
  have hI : ∀ x y, x < 532 → y < 532 → U x = U y → x = y := fun x y hx hy v => hG.2.1 x y (by unfold kT; omega) (by unfold kT; omega) v
  have u0 : a = U 0 := hG.1.2.symm
  have u1 : ra = U 1 := ea.trans (hU 1 (by omega)).symm
  have u2 : rb = U 2 := eb.trans (hU 2 (by omega)).symm
  subst u0 u1 u2
  have nn : ∀ x y, x < 532 → y < 532 → x ≠ y → U x ≠ U y := fun x y hx hy w v => w (hI x y hx hy v)
  refine z_mono (M0 := va_up (va_up M (U 1) (some (zaQ γ 7 8 (fun j => some (U (16 + 43 * (2 + j))))))) (U 2) (some (zaQ γ 7 2 (fun j => some (U (16 + 43 * (10 + j))))))) (fun H hH => ?_) ?_
  · refine zHW.eqv (x := zaQ γ 7 2 (fun j => if j < 2 then some (Dk (10 + j) 0) else none)) (zHW.eqv hH h1 (zaQ_cg fun j hj => by rw [if_pos hj, hD _ 0 (by omega) (by omega)]; rfl)) ?_ (zaQ_cg fun j hj => by rw [if_pos hj, hD _ 0 (by omega) (by omega)]; rfl)
    rw [va_up_ne _ _ (nn 2 1 (by omega) (by omega) (by omega))]
    exact h2
  have f : zFr M (va_up (va_up M (U 1) (some (zaQ γ 7 8 (fun j => some (U (16 + 43 * (2 + j))))))) (U 2) (some (zaQ γ 7 2 (fun j => some (U (16 + 43 * (10 + j))))))) [U 1, U 2] := zFr.u2 zFr.rf (by simp) (by simp)
  have nf : ∀ j, j < 532 → j ≠ 1 → j ≠ 2 → U j ∉ [U 1, U 2] := fun j hj n1 n2 => by simp [nn j 1 hj (by omega) n1, nn j 2 hj (by omega) n2]
  have hPU : zPP γ U M := hP.cg fun j hj => hU j (by omega)
  refine z_rlbs hD 12 0 _ (by omega) ⟨⟨hG.1, hG.2.1, fun j hj => ?_, hG.2.2.2.1, fun b hb => ?_⟩, ?_, fun j hj => ?_, f.at (nf 0 (by omega) (by omega) (by omega)) h0, ?_, va_up_self _ _ _⟩ kk
  · by_cases e2 : U j = U 2
    · rw [e2]
      exact ⟨_, va_up_self _ _ _⟩
    · rw [va_up_ne _ _ e2]
      by_cases e1 : U j = U 1
      · rw [e1]
        exact ⟨_, va_up_self _ _ _⟩
      · rw [va_up_ne _ _ e1]
        exact hG.2.2.1 j hj
  · rw [f b fun v => ?_]
    · exact hG.2.2.2.2 b hb
    · simp only [List.mem_cons, List.not_mem_nil, or_false] at v
      rcases v with v | v
      · exact hb 1 (by unfold kT; omega) v.symm
      · exact hb 2 (by unfold kT; omega) v.symm
  · obtain ⟨p3, p4, p6, p8, p11, p14, p15⟩ := hPU
    have q : ∀ j, 3 ≤ j → j < 16 → U j ∉ [U 1, U 2] := fun j h3 h4 => nf j (by omega) (by omega) (by omega)
    exact ⟨f.at (q 3 (by omega) (by omega)) p3, p4.fr f (q 4 (by omega) (by omega)) (q 5 (by omega) (by omega)), p6.fr f (q 6 (by omega) (by omega)) (q 7 (by omega) (by omega)), p8.fr f (q 8 (by omega) (by omega)) (q 9 (by omega) (by omega)) (q 10 (by omega) (by omega)), p11.fr f (q 11 (by omega) (by omega)) (q 12 (by omega) (by omega)) (q 13 (by omega) (by omega)), f.at (q 14 (by omega) (by omega)) p14, f.at (q 15 (by omega) (by omega)) p15⟩
  · rw [if_neg (by omega)]
    refine (hB j hj).fr f fun r hr => ?_
    rw [hD j r hj hr]
    exact nf _ (by omega) (by omega) (by omega)
  · rw [va_up_ne _ _ (nn 1 2 (by omega) (by omega) (by omega))]
    exact va_up_self _ _ _
end ZM6
/-- all made: the face stands -/
theorem zRn.face {γ : zG} {Mo M : zM} {a : Nat} {U : Nat → Nat} {Dk : Nat → Nat → Nat} (h : zRn γ Mo a U Dk (.inr (8, [.ref (U 16), .ref (U 59), .ref (U 1), .int (zi 0), .int (zi 0), .ref (U 2), .ref (U 3), .ref (U 4), .ref (U 6), .int (zi 0), .int (zi (-1)), .ref (U 8), .ref (U 11), .ref (U 14), .ref (U 15)])) (zaQ γ 7 8 (fun j => some (U (16 + 43 * (2 + j))))) (zaQ γ 7 2 (fun j => some (U (16 + 43 * (10 + j))))) 12 M) : U 0 = a ∧ (∀ j, 1 ≤ j → j < 532 → Mo (U j) = none) ∧ zFr Mo M (zFU U) ∧ hFc γ M U zY0 := by
  obtain ⟨hG, ⟨p3, p4, p6, p8, p11, p14, p15⟩, hB, h0, h1, h2⟩ := h
  have hbo : hBo (fun _ => 0) 0 := ⟨by omega, fun _ => (by unfold zR; omega : zR 0), fun j (hj : (j : Int) < 0) => by omega⟩
  refine ⟨hG.1.2, fun j h1 h2 => hG.2.2.2.1 j (by unfold kT; omega) (by omega), fun b hb => hG.2.2.2.2 b fun i hi v => hb (zRm.mpr ⟨i, by unfold kT at hi; omega, v⟩), fun i j hi hj v => hG.2.1 i j (by unfold kT; omega) (by unfold kT; omega) v, 0, zZ0, fun _ => 0, fun _ => 0, ⟨by omega, rfl, fun i (hi : (i : Int) < 0) => by omega, fun k hk w => absurd rfl w⟩, h0, ⟨h1, h2, p3, ⟨p4, hbo⟩, ⟨p6, hbo⟩, ⟨_, p8⟩, p11, ⟨1, 1, 0, 0, p14⟩, ⟨fun _ => 0, p15, fun _ => (by unfold zR; omega : zR 0)⟩, fun k hk => ?_⟩, fun j hj => rfl, fun j hj => rfl⟩
  have := hB k hk
  rwa [if_pos hk] at this
theorem zLq.ne {γ : zG} {Mo M : zM} {a n : Nat} {U0 U : Nat → Nat} {Dk : Nat → Nat → Nat} (h : zLq γ Mo a U0 n U Dk M) {i j : Nat} (hi : i < 102) (hj : j < 102) (hij : i ≠ j) : U0 i ≠ U0 j := fun v => by
  rw [← h.2.1 i hi, ← h.2.1 j hj] at v
  exact hij (h.1.1.2.1 i j (by unfold kT; omega) (by unfold kT; omega) v)
theorem zLq.a {γ : zG} {Mo M : zM} {a n : Nat} {U0 U : Nat → Nat} {Dk : Nat → Nat → Nat} (h : zLq γ Mo a U0 n U Dk M) {j : Nat} (hj : j < 102) (h0 : j ≠ 0) : a ≠ U0 j := by
  rw [← h.1.1.1.2, h.2.1 0 (by omega)]
  exact h.ne (by omega) hj h0.symm
theorem zqJ1 {γ : zG} {kd N k c w q : Nat} {Dk : Nat → Nat → Nat} {D : Nat → Nat} (hD : D 0 = q) (hw : w = c + k) : zaQ γ kd N (va_up (fun j => if j < k then some (Dk (c + j) 0) else none) k (some q)) = zaQ γ kd N (fun j => if j < k + 1 then some ((fun j => if j = w then D else Dk j) (c + j) 0) else none) := by
  congr 1
  funext j
  unfold va_up
  show (if j = k then some q else if j < k then some (Dk (c + j) 0) else none) = if j < k + 1 then some ((if c + j = w then D else Dk (c + j)) 0) else none
  by_cases e1 : j = k
  · rw [if_pos e1, if_pos (by omega), if_pos (by omega), hD]
  · rw [if_neg e1]
    by_cases e2 : j < k
    · rw [if_pos e2, if_pos (by omega), if_neg (by omega)]
    · rw [if_neg e2, if_neg (by omega)]
theorem zqJ2 {γ : zG} {kd N k c w : Nat} {Dk : Nat → Nat → Nat} {D : Nat → Nat} (hw : ∀ j, j < k → c + j ≠ w) : zaQ γ kd N (fun j => if j < k then some (Dk (c + j) 0) else none) = zaQ γ kd N (fun j => if j < k then some ((fun j => if j = w then D else Dk j) (c + j) 0) else none) := by
  congr 1
  funext j
  show (if j < k then some (Dk (c + j) 0) else none) = if j < k then some ((if c + j = w then D else Dk (c + j)) 0) else none
  by_cases e2 : j < k
  · rw [if_pos e2, if_pos e2, if_neg (hw j e2)]
  · rw [if_neg e2, if_neg e2]

