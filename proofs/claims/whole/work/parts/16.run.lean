/-! through joins in one go -/
section VXM
variable {sc : Option (Nat × (Nat → Int32))} {lim : vx_Z} {J J' : Nat → vx_K} {Q : Option Value → vx_Z → vx_H → Prop} {k k' : vx_K}
set_option maxHeartbeats 1000000 in
theorem vx_st_mono (hJ : ∀ t L S z h, J t L S z h → J' t L S z h) (hk : ∀ L S z h, k L S z h → k' L S z h) (it : vx_I) (L : vx_L) (S : List Value) (z : vx_Z) (h : vx_H) (hst : vx_st sc lim it L S z h J Q k) : vx_st sc lim it L S z h J' Q k' := by
  obtain ⟨i, ln, a, b, v, ps⟩ := it
  revert hst
  unfold vx_st
  dsimp only
  (repeat' split) <;> intro hst <;> first
    | exact hst
    | exact hk _ _ _ _ hst
    | exact hJ _ _ _ _ _ hst
    | exact ⟨hst.1, hk _ _ _ _ hst.2⟩
    | exact ⟨fun q => hJ _ _ _ _ _ (hst.1 q), fun q => hk _ _ _ _ (hst.2 q)⟩
    | exact ⟨hst.1, hst.2.1, hk _ _ _ _ hst.2.2⟩
    | exact ⟨hst.1, hst.2.1, hst.2.2.1, hk _ _ _ _ hst.2.2.2⟩
    | exact ⟨hst.1, hst.2.1, hst.2.2.1, hst.2.2.2.1, hk _ _ _ _ hst.2.2.2.2⟩
    | exact ⟨hst.1, hst.2.1, hst.2.2.1, hst.2.2.2.1, hst.2.2.2.2.1, hst.2.2.2.2.2.1, hk _ _ _ _ hst.2.2.2.2.2.2⟩
    | (obtain ⟨q1, q2, q3, P, q4, q5⟩ := hst; exact ⟨q1, q2, q3, P, q4, fun r h' hp => hk _ _ _ _ (q5 r h' hp)⟩)
    | (obtain ⟨q1, q2, P, q4, q5⟩ := hst; exact ⟨q1, q2, P, q4, fun r h' hp => hk _ _ _ _ (q5 r h' hp)⟩)
    | (obtain ⟨q1, q2, q2a, q3, P, q4, q5⟩ := hst; exact ⟨q1, q2, q2a, q3, P, q4, fun r h' hp => hk _ _ _ _ (q5 r h' hp)⟩)
theorem vx_b_mono (hJ : ∀ t L S z h, J t L S z h → J' t L S z h) : ∀ (is : List vx_I) (pc : Nat) (L : vx_L) (S : List Value) (z : vx_Z) (h : vx_H), vx_b sc lim J Q pc is L S z h → vx_b sc lim J' Q pc is L S z h
  | [], pc, L, S, z, h, hb => hJ pc L S z h hb
  | it :: is, pc, L, S, z, h, hb => vx_st_mono hJ (vx_b_mono hJ is (pc + it.2.1)) it L S z h hb
/-- go on through blocks, but for those where one stops -/
def vx_run (sc : Option (Nat × (Nat → Int32))) (lim : vx_Z) (tab : List (Nat × List vx_I)) (Q : Option Value → vx_Z → vx_H → Prop) (X : Nat → vx_K) (stops : List Nat) : Nat → Nat → vx_K
  | 0, t => X t
  | n + 1, t => fun L S z h => if t ∈ stops then X t L S z h else vx_b sc lim (vx_run sc lim tab Q X stops n) Q t (vx_bk tab t) L S z h
theorem vx_run_X {tab : List (Nat × List vx_I)} {X : Nat → vx_K} (hX : vx_cl0 sc lim tab Q X) (stops : List Nat) : ∀ n t L S z h, vx_run sc lim tab Q X stops n t L S z h → X t L S z h
  | 0, _, _, _, _, _, h => h
  | n + 1, t, L, S, z, h, hr => by
    unfold vx_run at hr
    split at hr
    · exact hr
    · exact hX t L S z h (vx_b_mono (vx_run_X hX stops n) _ _ _ _ _ _ hr)
theorem vx_go {tab : List (Nat × List vx_I)} {X : Nat → vx_K} (hX : vx_cl0 sc lim tab Q X) (stops : List Nat) (n : Nat) {t : Nat} {L : vx_L} {S : List Value} {z : vx_Z} {h : vx_H} (hr : vx_b sc lim (vx_run sc lim tab Q X stops n) Q t (vx_bk tab t) L S z h) : X t L S z h := hX t L S z h (vx_b_mono (vx_run_X hX stops n) _ _ _ _ _ _ hr)
theorem vx_run_s {tab : List (Nat × List vx_I)} {X : Nat → vx_K} {stops : List Nat} {n t : Nat} {L : vx_L} {S : List Value} {z : vx_Z} {h : vx_H} : vx_run sc lim tab Q X stops (n + 1) t L S z h = if t ∈ stops then X t L S z h else vx_b sc lim (vx_run sc lim tab Q X stops n) Q t (vx_bk tab t) L S z h := rfl
end VXM
def vx_bI (c : Prop) [Decidable c] : Int32 := if c then 1 else 0
theorem vx_bI_0 {c : Prop} [Decidable c] : vx_bI c = 0 ↔ ¬ c := by unfold vx_bI; split <;> simp_all
theorem vx_bI_01 {c : Prop} [Decidable c] : vx_bI c = 0 ∨ vx_bI c = 1 := by unfold vx_bI; split <;> simp
theorem vx_bI_t {c : Prop} [Decidable c] (h : c) : vx_bI c = 1 := if_pos h
theorem vx_bI_f {c : Prop} [Decidable c] (h : ¬ c) : vx_bI c = 0 := if_neg h
