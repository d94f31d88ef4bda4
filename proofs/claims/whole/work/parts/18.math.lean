/-! the yard, in numbers -/
abbrev vw_Y : Type := Nat × Nat × Nat × (Nat → Nat) × (Nat → Nat) × (Nat → Nat)
def yI (Y : vw_Y) : Nat := Y.1
def yB (Y : vw_Y) : Nat := Y.2.1
def yN (Y : vw_Y) : Nat := Y.2.2.1
def yG (Y : vw_Y) : Nat → Nat := Y.2.2.2.1
def yK (Y : vw_Y) : Nat → Nat := Y.2.2.2.2.1
def yP (Y : vw_Y) : Nat → Nat := Y.2.2.2.2.2
def vw_sum (f : Nat → Nat) : Nat → Nat
  | 0 => 0
  | n + 1 => vw_sum f n + f n
theorem vw_sum_congr {f g : Nat → Nat} : ∀ {n : Nat}, (∀ p, p < n → f p = g p) → vw_sum f n = vw_sum g n
  | 0, _ => rfl
  | n + 1, h => by rw [vw_sum, vw_sum, vw_sum_congr (fun p hp => h p (by omega)), h n (by omega)]
theorem vw_sum_add (f g : Nat → Nat) : ∀ n, vw_sum (fun p => f p + g p) n = vw_sum f n + vw_sum g n
  | 0 => rfl
  | n + 1 => by rw [vw_sum, vw_sum, vw_sum, vw_sum_add f g n]; omega
theorem vw_sum_le {f : Nat → Nat} {c : Nat} (hf : ∀ p, f p ≤ c) : ∀ n, vw_sum f n ≤ c * n
  | 0 => by simp [vw_sum]
  | n + 1 => by
    have := vw_sum_le hf n
    have := hf n
    rw [vw_sum, Nat.mul_succ]
    omega
theorem vw_sum_0 {f : Nat → Nat} : ∀ {n : Nat}, (∀ p, p < n → f p = 0) → vw_sum f n = 0
  | 0, _ => rfl
  | n + 1, h => by rw [vw_sum, vw_sum_0 (fun p hp => h p (by omega)), h n (by omega)]
def vw_vt (k : Nat) : Nat := if k = 2 then 4 else if k = 1 then 2 else 1
theorem vw_vt_le (k : Nat) : vw_vt k ≤ 4 := by unfold vw_vt; split <;> (try split) <;> omega
/-- votes of those from lo on and below hi, but for a set -/
def vw_bt (Y : vw_Y) (q : Int32) (lo hi : Nat) : Nat := vw_sum (fun p => if vw_in q (nI p) = false ∧ lo ≤ yP Y p ∧ yP Y p < hi then vw_vt (yK Y p) else 0) (yN Y)
theorem vw_bt_le (Y : vw_Y) (q : Int32) (lo hi : Nat) : vw_bt Y q lo hi ≤ 4 * yN Y := vw_sum_le (fun p => by split; exact vw_vt_le _; omega) _
theorem vw_bt_split (Y : vw_Y) (q : Int32) {lo mid hi : Nat} (h1 : lo ≤ mid) (h2 : mid ≤ hi) : vw_bt Y q lo hi = vw_bt Y q lo mid + vw_bt Y q mid hi := by
  unfold vw_bt
  rw [← vw_sum_add]
  refine vw_sum_congr (fun p _ => ?_)
  by_cases hq : vw_in q (nI p) = false
  · by_cases a1 : lo ≤ yP Y p <;> by_cases a2 : yP Y p < hi <;> by_cases a3 : yP Y p < mid <;> by_cases a4 : mid ≤ yP Y p <;> simp [hq, a1, a2, a3, a4] <;> omega
  · simp [hq]
def vw_u (g : Nat → Nat) (b x : Nat) : Nat → Nat := fun j => if j = b then x else g j
theorem vw_u_s (g : Nat → Nat) (b x : Nat) : vw_u g b x b = x := if_pos rfl
theorem vw_u_n (g : Nat → Nat) {b j : Nat} (x : Nat) (h : j ≠ b) : vw_u g b x j = g j := if_neg h
def vw_lo (g : Nat → Nat) (b : Nat) : Nat := if b = 0 then 0 else g (b - 1)
def vw_hi (Y : vw_Y) (g : Nat → Nat) (b : Nat) : Nat := if b + 1 = yB Y then yI Y else g (b + 1)
/-- where a board is behind its push -/
def vw_nx (Y : vw_Y) (q : Int32) (g : Nat → Nat) (b : Nat) : Nat :=
  if vw_bt Y q (g b) (vw_hi Y g b) < vw_bt Y q (vw_lo g b) (g b) ∧ g b + 1 < vw_hi Y g b then g b + 1
  else if vw_bt Y q (vw_lo g b) (g b) < vw_bt Y q (g b) (vw_hi Y g b) ∧ vw_lo g b + 1 < g b then g b - 1 else g b
/-- the boards stand apart, in order -/
def vw_inc (Y : vw_Y) (g : Nat → Nat) : Prop := ∀ b, b < yB Y → vw_lo g b < g b ∧ g b < vw_hi Y g b
theorem vw_nx_in {Y : vw_Y} {q : Int32} {g : Nat → Nat} {b : Nat} (h : vw_lo g b < g b ∧ g b < vw_hi Y g b) : vw_lo g b < vw_nx Y q g b ∧ vw_nx Y q g b < vw_hi Y g b := by
  unfold vw_nx
  split
  · omega
  · split <;> omega
theorem vw_inc_u {Y : vw_Y} {g : Nat → Nat} {b x : Nat} (h : vw_inc Y g) (hb : b < yB Y) (hx : vw_lo g b < x ∧ x < vw_hi Y g b) : vw_inc Y (vw_u g b x) := by
  intro c hc
  have h1 := h c hc
  have h0 := h b hb
  unfold vw_lo vw_hi at *
  unfold vw_u
  by_cases e1 : c = b
  · subst e1
    by_cases e2 : c = 0
    · by_cases e3 : c + 1 = yB Y
      · simp [e2, e3] at *; omega
      · simp [e2, e3] at *; omega
    · by_cases e3 : c + 1 = yB Y
      · simp [e2, e3, show ¬ c - 1 = c by omega] at *; omega
      · simp [e2, e3, show ¬ c - 1 = c by omega] at *; omega
  · sorry
