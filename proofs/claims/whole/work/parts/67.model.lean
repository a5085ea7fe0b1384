/-! the model learns as the class does -/
theorem zadd_comm (c : Int → Int) {k1 k2 : Int} (h : k1 ≠ k2) : zadd (zadd c k1 1) k2 1 = zadd (zadd c k2 1) k1 1 := by
  funext x
  unfold zadd
  by_cases e1 : x = k1
  · have e2 : ¬ x = k2 := fun w => h (e1.symm.trans w)
    simp only [if_pos e1, if_neg e2]
  · simp only [if_neg e1]
theorem mLn_eq {c : Int → Int} {b p s : Int} (hb : -1 ≤ b ∧ b < 27) (hp : -1 ≤ p ∧ p < 27) (hs : 0 ≤ s ∧ s < 27) (h : b ≠ -1 → p ≠ -1) : mLn c b p s = zlrn c b p s := by
  unfold mLn zlrn zFo
  by_cases e1 : p = -1
  · have e2 : b = -1 := by
      by_cases e : b = -1
      · exact e
      · exact absurd e1 (h e)
    rw [if_neg (by omega), if_neg (by omega), if_pos e1]
    show _ = zadd c (zCs ((0 : Nat) : Int) b p + s) 1
    unfold mKy zCs
    simp
  · by_cases e2 : b = -1
    · rw [if_neg (by omega), if_pos e1, if_neg e1, if_pos e2]
      show _ = zadd (zadd c (zCs ((1 : Nat) : Int) b p + s) 1) (zCs ((0 : Nat) : Int) b p + s) 1
      have q1 : mKy (-1) (-1) s = zCs ((0 : Nat) : Int) b p + s := by
        unfold mKy zCs
        simp
      have q2 : mKy (-1) p s = zCs ((1 : Nat) : Int) b p + s := by
        unfold mKy zCs
        simp [e1]
      rw [q1, q2]
      exact zadd_comm c (by unfold zCs; simp; omega)
    · rw [if_pos e2, if_pos e1, if_neg e1, if_neg e2]
      show _ = zadd (zadd (zadd c (zCs ((2 : Nat) : Int) b p + s) 1) (zCs ((1 : Nat) : Int) b p + s) 1) (zCs ((0 : Nat) : Int) b p + s) 1
      have q1 : mKy (-1) (-1) s = zCs ((0 : Nat) : Int) b p + s := by
        unfold mKy zCs
        simp
      have q2 : mKy (-1) p s = zCs ((1 : Nat) : Int) b p + s := by
        unfold mKy zCs
        simp [e1]
      have q3 : mKy b p s = zCs ((2 : Nat) : Int) b p + s := by
        unfold mKy zCs
        simp [e2]
      have v0 : zCs ((0 : Nat) : Int) b p + s = s := by unfold zCs; simp
      have v1 : zCs ((1 : Nat) : Int) b p + s = 27 + p * 27 + s := by unfold zCs; simp
      have v2 : zCs ((2 : Nat) : Int) b p + s = 756 + (b * 27 + p) * 27 + s := by unfold zCs; simp
      rw [q1, q2, q3, v0, v1, v2]
      rw [zadd_comm (zadd c s 1) (show 27 + p * 27 + s ≠ 756 + (b * 27 + p) * 27 + s by omega), zadd_comm c (show s ≠ 756 + (b * 27 + p) * 27 + s by omega), zadd_comm (zadd c (756 + (b * 27 + p) * 27 + s) 1) (show s ≠ 27 + p * 27 + s by omega)]

