/-! the yard, in numbers -/
abbrev vw_Y : Type := Nat × Nat × Nat × (Nat → Nat) × (Nat → Nat) × (Nat → Nat)
def yI (Y : vw_Y) : Nat := Y.1
def yB (Y : vw_Y) : Nat := Y.2.1
def yN (Y : vw_Y) : Nat := Y.2.2.1
def yG (Y : vw_Y) : Nat → Nat := Y.2.2.2.1
def yK (Y : vw_Y) : Nat → Nat := Y.2.2.2.2.1
def yP (Y : vw_Y) : Nat → Nat := Y.2.2.2.2.2
def vw_sum (f : Nat → Nat) : Nat → Nat
  | 0 => 0
  | n + 1 => vw_sum f n + f n
theorem vw_sum_congr {f g : Nat → Nat} : ∀ {n : Nat}, (∀ p, p < n → f p = g p) → vw_sum f n = vw_sum g n
  | 0, _ => rfl
  | n + 1, h => by rw [vw_sum, vw_sum, vw_sum_congr (fun p hp => h p (by omega)), h n (by omega)]
theorem vw_sum_add (f g : Nat → Nat) : ∀ n, vw_sum (fun p => f p + g p) n = vw_sum f n + vw_sum g n
  | 0 => rfl
  | n + 1 => by rw [vw_sum, vw_sum, vw_sum, vw_sum_add f g n]; omega
theorem vw_sum_le {f : Nat → Nat} {c : Nat} (hf : ∀ p, f p ≤ c) : ∀ n, vw_sum f n ≤ c * n
  | 0 => by simp [vw_sum]
  | n + 1 => by
    have := vw_sum_le hf n
    have := hf n
    rw [vw_sum, Nat.mul_succ]
    omega
theorem vw_sum_0 {f : Nat → Nat} : ∀ {n : Nat}, (∀ p, p < n → f p = 0) → vw_sum f n = 0
  | 0, _ => rfl
  | n + 1, h => by rw [vw_sum, vw_sum_0 (fun p hp => h p (by omega)), h n (by omega)]
def vw_vt (k : Nat) : Nat := if k = 2 then 4 else if k = 1 then 2 else 1
theorem vw_vt_le (k : Nat) : vw_vt k ≤ 4 := by unfold vw_vt; split <;> (try split) <;> omega
/-- votes of those from lo on and below hi, but for a set -/
def vw_bt (Y : vw_Y) (q : Int32) (lo hi : Nat) : Nat := vw_sum (fun p => if vw_in q (nI p) = false ∧ lo ≤ yP Y p ∧ yP Y p < hi then vw_vt (yK Y p) else 0) (yN Y)
theorem vw_bt_le (Y : vw_Y) (q : Int32) (lo hi : Nat) : vw_bt Y q lo hi ≤ 4 * yN Y := vw_sum_le (fun p => by split; exact vw_vt_le _; omega) _
theorem vw_bt_split (Y : vw_Y) (q : Int32) {lo mid hi : Nat} (h1 : lo ≤ mid) (h2 : mid ≤ hi) : vw_bt Y q lo hi = vw_bt Y q lo mid + vw_bt Y q mid hi := by
  unfold vw_bt
  rw [← vw_sum_add]
  refine vw_sum_congr (fun p _ => ?_)
  by_cases hq : vw_in q (nI p) = false
  · by_cases a1 : lo ≤ yP Y p <;> by_cases a2 : yP Y p < hi <;> by_cases a3 : yP Y p < mid <;> by_cases a4 : mid ≤ yP Y p <;> simp [hq, a1, a2, a3, a4] <;> omega
  · simp [hq]
def vw_u (g : Nat → Nat) (b x : Nat) : Nat → Nat := fun j => if j = b then x else g j
theorem vw_u_s (g : Nat → Nat) (b x : Nat) : vw_u g b x b = x := if_pos rfl
theorem vw_u_n (g : Nat → Nat) {b j : Nat} (x : Nat) (h : j ≠ b) : vw_u g b x j = g j := if_neg h
def vw_lo (g : Nat → Nat) (b : Nat) : Nat := if b = 0 then 0 else g (b - 1)
def vw_hi (Y : vw_Y) (g : Nat → Nat) (b : Nat) : Nat := if b + 1 = yB Y then yI Y else g (b + 1)
/-- where a board is behind its push -/
def vw_nx (Y : vw_Y) (q : Int32) (g : Nat → Nat) (b : Nat) : Nat :=
  if vw_bt Y q (g b) (vw_hi Y g b) < vw_bt Y q (vw_lo g b) (g b) ∧ g b + 1 < vw_hi Y g b then g b + 1
  else if vw_bt Y q (vw_lo g b) (g b) < vw_bt Y q (g b) (vw_hi Y g b) ∧ vw_lo g b + 1 < g b then g b - 1 else g b
/-- the boards stand apart, in order -/
def vw_inc (Y : vw_Y) (g : Nat → Nat) : Prop := ∀ b, b < yB Y → vw_lo g b < g b ∧ g b < vw_hi Y g b
theorem vw_nx_in {Y : vw_Y} {q : Int32} {g : Nat → Nat} {b : Nat} (h : vw_lo g b < g b ∧ g b < vw_hi Y g b) : vw_lo g b < vw_nx Y q g b ∧ vw_nx Y q g b < vw_hi Y g b := by
  unfold vw_nx
  split
  · omega
  · split <;> omega
theorem vw_inc_u {Y : vw_Y} {g : Nat → Nat} {b x : Nat} (h : vw_inc Y g) (hb : b < yB Y) (hx : vw_lo g b < x ∧ x < vw_hi Y g b) : vw_inc Y (vw_u g b x) := by
  intro c hc
  have h1 := h c hc
  have h0 := h b hb
  unfold vw_lo vw_hi at *
  unfold vw_u
  by_cases e1 : c = b
  · subst e1
    by_cases e2 : c = 0
    · by_cases e3 : c + 1 = yB Y
      · simp [e2, e3] at *; omega
      · simp [e2, e3] at *; omega
    · by_cases e3 : c + 1 = yB Y
      · simp [e2, e3, show ¬ c - 1 = c by omega] at *; omega
      · simp [e2, e3, show ¬ c - 1 = c by omega] at *; omega
  · by_cases e4 : c = b + 1
    · subst e4
      have e5 : ¬ b + 1 = yB Y := by omega
      by_cases e3 : b + 1 + 1 = yB Y
      · simp [e3, e5, show ¬ b + 1 + 1 = b by omega] at *; omega
      · simp [e3, e5, show ¬ b + 1 + 1 = b by omega] at *; omega
    · by_cases e6 : b = c + 1
      · subst e6
        have e5 : ¬ c + 1 = yB Y := by omega
        by_cases e2 : c = 0
        · subst e2
          have e9 : ¬ 1 = yB Y := by omega
          simp [e9] at *; omega
        · simp [e2, e5, show ¬ c - 1 = c + 1 by omega] at *; omega
      · have e7 : ¬ c + 1 = b := by omega
        by_cases e2 : c = 0
        · subst e2
          have e9 : ¬ 1 = yB Y := by omega
          have e10 : ¬ 0 = b := by omega
          have e11 : ¬ 1 = b := by omega
          simp [e9, e10, e11] at *; omega
        · have e8 : ¬ c - 1 = b := by omega
          simp [e1, e2, e7, e8] at *; omega
theorem vw_inc_pos {Y : vw_Y} {g : Nat → Nat} (h : vw_inc Y g) : ∀ b, b < yB Y → 0 < g b ∧ g b < yI Y := by
  intro b hb
  constructor
  · have := h b hb; omega
  · have key : ∀ k b, b + k + 1 = yB Y → g b < yI Y := by
      intro k
      induction k with
      | zero =>
        intro b hb
        have := (h b (by omega)).2
        unfold vw_hi at this
        rw [if_pos (by omega)] at this
        exact this
      | succ k ih =>
        intro b hb
        have := (h b (by omega)).2
        unfold vw_hi at this
        rw [if_neg (by omega)] at this
        have := ih (b + 1) (by omega)
        omega
    exact key (yB Y - b - 1) b (by omega)
/-- a Sunday: the first n boards in the order of the law; whether one has moved -/
def vw_ix (Y : vw_Y) (law : Int32) (k : Nat) : Nat := if law = 0 then k else yB Y - 1 - k
def vw_go (Y : vw_Y) (law lk q : Int32) : Nat → (Nat → Nat) → (Nat → Nat) × Bool
  | 0, g => (g, false)
  | n + 1, g => if vw_in lk (nI (vw_ix Y law n)) = true then vw_go Y law lk q n g
    else (vw_u (vw_go Y law lk q n g).1 (vw_ix Y law n) (vw_nx Y q (vw_go Y law lk q n g).1 (vw_ix Y law n)), (vw_go Y law lk q n g).2 || decide (¬ vw_nx Y q (vw_go Y law lk q n g).1 (vw_ix Y law n) = (vw_go Y law lk q n g).1 (vw_ix Y law n)))
theorem vw_ix_lt {Y : vw_Y} {law : Int32} {k : Nat} (h : k < yB Y) : vw_ix Y law k < yB Y := by unfold vw_ix; split <;> omega
theorem vw_go_inc {Y : vw_Y} {law lk q : Int32} {g : Nat → Nat} (h : vw_inc Y g) : ∀ n, n ≤ yB Y → vw_inc Y (vw_go Y law lk q n g).1
  | 0, _ => h
  | n + 1, hn => by
    have ih := vw_go_inc (law := law) (lk := lk) (q := q) h n (by omega)
    unfold vw_go
    split
    · exact ih
    · exact vw_inc_u ih (vw_ix_lt (by omega)) (vw_nx_in (ih _ (vw_ix_lt (by omega))))
/-- where the boards are behind n Sundays -/
def vw_ps (Y : vw_Y) (law : Int32) (lk st : Nat → Int32) : Nat → Nat → Nat
  | 0 => yG Y
  | n + 1 => (vw_go Y law (lk n) (st n) (yB Y) (vw_ps Y law lk st n)).1
def vw_mv (Y : vw_Y) (law : Int32) (lk st : Nat → Int32) (n : Nat) : Bool := (vw_go Y law (lk n) (st n) (yB Y) (vw_ps Y law lk st n)).2
/-- behind the last Sunday on which one moved, of the first n -/
def vw_lm (Y : vw_Y) (law : Int32) (lk st : Nat → Int32) : Nat → Nat
  | 0 => 0
  | n + 1 => if vw_mv Y law lk st n = true then n + 1 else vw_lm Y law lk st n
theorem vw_ps_inc {Y : vw_Y} {law : Int32} {lk st : Nat → Int32} (h : vw_inc Y (yG Y)) : ∀ n, vw_inc Y (vw_ps Y law lk st n)
  | 0 => h
  | n + 1 => vw_go_inc (vw_ps_inc h n) _ (Nat.le_refl _)
/-- nothing has moved: the boards are where they were -/
theorem vw_go_stay {Y : vw_Y} {law lk q : Int32} {g : Nat → Nat} : ∀ n, (vw_go Y law lk q n g).2 = false → (vw_go Y law lk q n g).1 = g
  | 0, _ => rfl
  | n + 1, h => by
    unfold vw_go at h ⊢
    split at h
    · rename_i hl
      rw [if_pos hl]
      exact vw_go_stay n h
    · rename_i hl
      rw [if_neg hl]
      dsimp only at h ⊢
      simp only [Bool.or_eq_false_iff, decide_eq_false_iff_not, Classical.not_not] at h
      rw [h.2]
      have ih := vw_go_stay n h.1
      funext j
      by_cases hj : j = vw_ix Y law n
      · subst hj; rw [vw_u_s, ih]
      · rw [vw_u_n _ _ hj, ih]
theorem vw_ps_stay {Y : vw_Y} {law : Int32} {lk st : Nat → Int32} {n : Nat} (h : vw_mv Y law lk st n = false) : vw_ps Y law lk st (n + 1) = vw_ps Y law lk st n := vw_go_stay _ h
/-- from a Sunday on that nothing moved, and with the same locks and strikes, nothing moves -/
theorem vw_steady {Y : vw_Y} {law : Int32} {lk st : Nat → Int32} {m : Nat} (h : vw_mv Y law lk st m = false) {N : Nat} (hl : ∀ j, m ≤ j → j < N → lk j = lk m ∧ st j = st m) : ∀ j, m ≤ j → j < N → vw_mv Y law lk st j = false ∧ vw_ps Y law lk st (j + 1) = vw_ps Y law lk st m := by
  intro j
  induction j with
  | zero =>
    intro h1 h2
    have : m = 0 := by omega
    subst this
    exact ⟨h, vw_ps_stay h⟩
  | succ j ih =>
    intro h1 h2
    by_cases e : m = j + 1
    · subst e
      exact ⟨h, vw_ps_stay h⟩
    · obtain ⟨i1, i2⟩ := ih (by omega) (by omega)
      have i3 : vw_mv Y law lk st (j + 1) = false := by
        unfold vw_mv at h ⊢
        rw [i2, (hl (j + 1) h1 h2).1, (hl (j + 1) h1 h2).2]
        exact h
      exact ⟨i3, by rw [vw_ps_stay i3, i2]⟩
theorem vw_lm_stay {Y : vw_Y} {law : Int32} {lk st : Nat → Int32} {m : Nat} : ∀ n, m ≤ n → (∀ j, m ≤ j → j < n → vw_mv Y law lk st j = false) → vw_lm Y law lk st n = vw_lm Y law lk st m
  | 0, h, _ => by have : m = 0 := by omega
                  subst this; rfl
  | n + 1, h, hm => by
    by_cases e : m = n + 1
    · subst e; rfl
    · unfold vw_lm
      rw [hm n (by omega) (by omega), if_neg (by decide)]
      rw [vw_lm_stay n (by omega) (fun j h1 h2 => hm j h1 (by omega))]
      cases m with
      | zero => rfl
      | succ k => rfl
