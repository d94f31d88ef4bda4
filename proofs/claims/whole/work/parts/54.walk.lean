/-! VoteWalls: stepsOfWalk, walk -/
def vw_far (j a b : Nat) : Prop := ¬ (a = b ∨ (¬ j = 0 ∧ (a = b + 1 ∨ a + 1 = b)))
def vw_stp (Y : vw_Y) (law : Int32) (lk st : Nat → Int32) (C : Nat → Nat) : Nat → Nat → Nat → Nat
  | 0, j, _ => j
  | m + 1, j, l => if (C j = l ∨ (¬ j = 0 ∧ (C j = l + 1 ∨ C j + 1 = l))) ∧ 2 ≤ vw_wd Y (vw_ps Y law lk st (j + 1)) (C j) then vw_stp Y law lk st C m (j + 1) (C j) else j
theorem nI_abs {a b : Nat} (ha : a ≤ 99) (hb : b ≤ 99) : (if 0 ≤ nI a - nI b then nI a - nI b else 0 - (nI a - nI b)) = nI (if b ≤ a then a - b else b - a) := by
  have h1 : (nI a - nI b).toInt = (a : Int) - b := by
    rw [Int32.toInt_sub, nI_toInt (by omega), nI_toInt (by omega), Int.bmod_def]
    omega
  apply Int32.toInt_inj.mp
  rw [nI_toInt (by split <;> omega)]
  by_cases q : b ≤ a
  · rw [if_pos (by rw [Int32.le_iff_toInt_le, h1]; simp; omega), if_pos q, h1]; omega
  · rw [if_neg (by rw [Int32.le_iff_toInt_le, h1]; simp; omega), if_neg q, Int32.toInt_sub, h1, Int.bmod_def]; simp; omega
