/-! a yard that is read is well made -/
theorem p_bds_ok (c : Nat → Int32) (n I : Nat) : ∀ (m k l : Nat) (g : Nat → Nat) (p : Nat) (B : Nat) (g' : Nat → Nat) (p' : Nat), k + m = 5 → p_bds c n I m k l g p = (true, B, g', p') → (∀ j, j < k → 1 ≤ g j ∧ g j ≤ l ∧ g j ≤ I - 1) → (∀ a b, a < b → b < k → g a < g b) → 1 ≤ B ∧ B ≤ 5 ∧ (∀ j, j < B → 1 ≤ g' j ∧ g' j ≤ I - 1) ∧ (∀ a b, a < b → b < B → g' a < g' b)
  | 0, k, l, g, p, B, g', p', hk, h, h1, h2 => by
    unfold p_bds at h
    cases h
    exact ⟨by omega, by omega, fun j hj => ⟨(h1 j hj).1, (h1 j hj).2.2⟩, h2⟩
  | m + 1, k, l, g, p, B, g', p', hk, h, h1, h2 => by
    unfold p_bds at h
    split at h
    · split at h
      · rename_i v p2 e
        have hv := p_num_in (by rw [e])
        refine p_bds_ok c n I m (k + 1) v (vw_u g k v) p2 B g' p' (by omega) h (fun j hj => ?_) (fun a b hab hb => ?_)
        · unfold vw_u
          split
          · omega
          · have := h1 j (by omega); omega
        · unfold vw_u
          rw [if_neg (show ¬ a = k by omega)]
          have ha := h1 a (by omega)
          split
          · omega
          · exact h2 a b hab (by omega)
      · cases h
    · injection h with h0 h
      injection h with h3 h
      injection h with h4 h
      subst h3 h4
      have := of_decide_eq_true h0
      exact ⟨by omega, by omega, fun j hj => ⟨(h1 j hj).1, (h1 j hj).2.2⟩, h2⟩
theorem p_prs_ok (c : Nat → Int32) (n I : Nat) (hI : 4 ≤ I) : ∀ (m k : Nat) (K P : Nat → Nat) (p : Nat) (N : Nat) (K' P' : Nat → Nat) (p' : Nat), k + m = 8 → p_prs c n I m k K P p = (true, N, K', P', p') → (∀ j, j < k → P j < I ∧ K j ≤ 2) → 1 ≤ N ∧ N ≤ 8 ∧ (∀ j, j < N → P' j < I ∧ K' j ≤ 2)
  | 0, k, K, P, p, N, K', P', p', hk, h, h1 => by
    unfold p_prs at h
    cases h
    exact ⟨by omega, by omega, h1⟩
  | m + 1, k, K, P, p, N, K', P', p', hk, h, h1 => by
    unfold p_prs at h
    split at h
    · split at h
      · cases h
      · rename_i kd ek
        obtain ⟨-, hkd⟩ := p_kind_some ek
        split at h
        · rename_i v p2 e
          have hv := p_num_in (by rw [e])
          refine p_prs_ok c n I hI m (k + 1) (vw_u K k kd) (vw_u P k v) p2 N K' P' p' (by omega) h (fun j hj => ?_)
          unfold vw_u
          split
          · omega
          · exact h1 j (by omega)
        · cases h
    · injection h with h0 h
      injection h with h3 h
      injection h with h4 h
      injection h with h5 h
      subst h3 h4 h5
      have := of_decide_eq_true h0
      exact ⟨by omega, by omega, h1⟩
theorem p_yd_ok {c : Nat → Int32} {n p : Nat} {Y : vw_Y} (h : p_yd c n = (some Y, p)) : yOk Y ∧ 0 < yB Y := by
  unfold p_yd at h
  split at h
  · cases h
  · rename_i I p1 e1
    have hI := p_in_in (v := I) (by rw [e1])
    split at h
    · cases h
    · rename_i B g p2 e2
      split at h
      · cases h
      · rename_i N K P p3 e3
        split at h
        · cases h
          obtain ⟨b1, b2, b3, b4⟩ := p_bds_ok c n I 5 0 0 _ p1 B g p2 rfl e2 (fun j hj => absurd hj (Nat.not_lt_zero j)) (fun a b _ hb => absurd hb (Nat.not_lt_zero b))
          obtain ⟨n1, n2, n3⟩ := p_prs_ok c n I hI.1 8 0 _ _ p2 N K P _ rfl e3 (fun j hj => absurd hj (Nat.not_lt_zero j))
          refine ⟨⟨b2, n2, hI.2, n3, ?_, ?_⟩, b1⟩
          · intro b hb
            have hb : b < B := hb
            show vw_lo g b < g b ∧ g b < vw_hi (I, B, N, g, K, P) g b
            have h1 := b3 b hb
            unfold vw_lo vw_hi
            constructor
            · split
              · omega
              · exact b4 (b - 1) b (by omega) hb
            · split
              · show g b < I
                omega
              · rename_i q
                have q : ¬ b + 1 = B := q
                exact b4 b (b + 1) (by omega) (by omega)
          · show B = 0 ↔ N = 0
            omega
        · cases h
