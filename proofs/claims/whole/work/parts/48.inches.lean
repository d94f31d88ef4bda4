/-! the reader: takeInches, takeBoards -/
theorem p_num_le (c : Nat → Int32) {n lo hi p : Nat} (hp : p ≤ n) : (p_num c n lo hi p).2 ≤ n := by
  rw [p_num_eq]
  cases e : p_d1 c n p lo hi 0 10 with
  | none => exact hp
  | some t =>
    obtain ⟨hpn, -⟩ := p_d1_some e
    show (if (p_d1 c n (p + 1) lo hi t 1).isSome then p + 2 else p + 1) ≤ n
    cases e2 : p_d1 c n (p + 1) lo hi t 1 with
    | none => exact hpn
    | some v =>
      obtain ⟨hpn2, -⟩ := p_d1_some e2
      exact hpn2
theorem p_num_in {c : Nat → Int32} {n lo hi p v : Nat} (h : (p_num c n lo hi p).1 = some v) : lo ≤ v ∧ v ≤ hi ∧ v ≤ 99 := by
  unfold p_num at h
  split at h
  · cases h
  · rename_i d e
    obtain ⟨d1, d2, d3⟩ := p_dig_some e
    split at h
    · split at h
      · cases h
      · rename_i f e2
        obtain ⟨f1, f2, f3⟩ := p_dig_some e2
        split at h
        · rename_i q
          injection h with h
          omega
        · cases h
    · cases h
def p_in (c : Nat → Int32) (n p : Nat) : Option Nat × Nat := if p < n ∧ c p = 118 then p_num c n 4 30 (p + 1) else (none, p)
def hYr (h : vx_H) (y : Nat) (a b c : Int32) (f1 f2 f3 : Nat → Int32) : Prop := h y = some (.inr (.inr (5, [.ref (y + 1), .ref (y + 2), .ref (y + 3), .int a, .int b, .int c]))) ∧ h (y + 1) = some (.inl (5, f1)) ∧ h (y + 2) = some (.inl (8, f2)) ∧ h (y + 3) = some (.inl (8, f3))
/-- the reader and the yard being read alone differ -/
def vr (y : Nat) (h h' : vx_H) : Prop := ∀ k, k ≠ 2 → (k < y ∨ y + 3 < k) → h' k = h k
theorem vr.rf {y : Nat} {h : vx_H} : vr y h h := fun _ _ _ => rfl
theorem vr.tr {y : Nat} {h h1 h2 : vx_H} (u : vr y h h1) (w : vr y h1 h2) : vr y h h2 := fun k a b => (w k a b).trans (u k a b)
theorem vr.at {y : Nat} {h : vx_H} {x i n p : Nat} : vr y h (atR h x i n p) := fun _ a _ => vx_up_n _ _ a
theorem vr.up {y k : Nat} {h : vx_H} {c : vx_C} (h1 : y ≤ k) (h2 : k ≤ y + 3) : vr y h (vx_up h k c) := fun j _ hj => vx_up_n h c (by omega)
theorem hYr.at {h : vx_H} {y : Nat} {a b c : Int32} {f1 f2 f3 : Nat → Int32} (u : hYr h y a b c f1 f2 f3) (hy : 3 ≤ y) (x i n p : Nat) : hYr (atR h x i n p) y a b c f1 f2 f3 := by
  obtain ⟨u1, u2, u3, u4⟩ := u
  exact ⟨(vx_up_n _ _ (by omega)).trans u1, (vx_up_n _ _ (by omega)).trans u2, (vx_up_n _ _ (by omega)).trans u3, (vx_up_n _ _ (by omega)).trans u4⟩
theorem hSh.vr {h h' : vx_H} {x y : Nat} {s : vw_Sh} (u : hSh h x s) (w : vr y h h') (hx : 30 ≤ x) (hy : y ≤ 26) : hSh h' x s := u.eq (fun k h1 h2 => w k (by omega) (by omega))
theorem vw_takeInches (h : vx_H) (sz x y : Nat) (s : vw_Sh) (hx : 30 ≤ x) (hy : 3 ≤ y ∧ y ≤ 26) (u : hSh h x s) {i n p : Nat} (r : hR h x i n p) (hin : i + n ≤ s.2.1) (hp : p ≤ n) {a b c : Int32} {f1 f2 f3 : Nat → Int32} (hyr : hYr h y a b c f1 f2 f3) : vx_Ok m_Tr_takeInches [.ref 2, .ref y] sz h (fun r h' => r = some (.int (vx_bI ((p_in (tx s i) n p).1.isSome = true))) ∧ hR h' x i n (p_in (tx s i) n p).2 ∧ (∃ a', hYr h' y a' b c f1 f2 f3 ∧ ∀ v, (p_in (tx s i) n p).1 = some v → a' = nI v) ∧ vr y h h') := by
  unfold p_in
  refine ok_Tr_takeInches [some (.ref 2), some (.ref y)] (Nat.le_of_ble_eq_true rfl) rfl (fun lim z X hX => ?_)
  have r0 := r
  unfold hR at r
  refine vx_go hX [] 9 ?_
  simp only [e_nil, e_iconst, e_bipush, e_sipush, e_lconst, e_ldc_w, e_ldc2_w, e_iload, e_iload_n, e_lload, e_lload_n, e_aload, e_aload_n, e_istore, e_istore_n, e_astore, e_astore_n, e_lstore, e_iinc, e_iadd, e_isub, e_imul, e_iand, e_ior, e_ishl, e_ishr, e_iushr, e_idiv, e_irem, e_ldiv, e_lrem, e_ineg, e_lshl, e_lcmp, e_i2l, e_i2b, e_i2s, e_dup_i, e_dup_r, e_dup2, e_if_eq, e_if_ne, e_if_lt, e_if_ge, e_if_gt, e_if_le, e_icmp_eq, e_icmp_ne, e_icmp_lt, e_icmp_ge, e_icmp_gt, e_icmp_le, e_ifnull_r, e_ifnull_n, e_goto, e_tsw, e_lsw, e_getf, e_puti, e_putz, e_puta, e_new, e_newa, e_anew, e_iald, e_sald, e_iast, e_aald, e_aast, e_alen, e_slen, e_inv, e_acp, e_min, e_max, e_abs, e_ins, e_oinit, e_inx, e_iret, e_lret, e_vret, vx_run_s, List.getElem?_cons_succ, List.getElem?_cons_zero, List.set_cons_succ, List.set_cons_zero, List.mem_cons, List.not_mem_nil, or_false, false_or, if_true, if_false, ite_true, ite_false, ↓reduceIte, reduceCtorEq, List.take_succ_cons, List.take_zero, List.drop_succ_cons, List.drop_zero, List.reverse_cons, List.reverse_nil, List.nil_append, List.cons_append, List.append_nil, List.length_cons, List.length_nil, Option.toList_some, Option.toList_none, vx_nl, vx_isob, true_and, and_true, Nat.reduceAdd, Nat.reduceEqDiff, Nat.reduceLeDiff, Nat.zero_add, Nat.add_zero, not_false_eq_true, not_true_eq_false, Nat.reduceLT, Nat.reduceMul, Nat.reduceSub, Nat.zero_le, vx_up_s, false_implies, true_implies, forall_const, implies_true, imp_self, Nat.le_refl, forall_eq, forall_eq_apply_imp_iff, and_imp, exists_and_left, exists_eq_left, Nat.one_ne_zero, eq_self, true_or, or_true, Option.some.injEq, Value.int.injEq, Value.long.injEq, bk_Tr_takeInches_0, bk_Tr_takeInches_11, bk_Tr_takeInches_33, bk_Tr_takeInches_34, r]
  refine vx_cl1 (vw_takeCode h _ x s u r0 hin hp 118 (by decide)) ?_
  by_cases q : p < n ∧ tx s i p = 118
  · rw [if_pos q, vx_bI_t q, if_pos q]
    have r1 := hR.at h x i n (p + 1)
    have r2 := r1
    unfold hR at r2
    simp only [e_nil, e_iconst, e_bipush, e_sipush, e_lconst, e_ldc_w, e_ldc2_w, e_iload, e_iload_n, e_lload, e_lload_n, e_aload, e_aload_n, e_istore, e_istore_n, e_astore, e_astore_n, e_lstore, e_iinc, e_iadd, e_isub, e_imul, e_iand, e_ior, e_ishl, e_ishr, e_iushr, e_idiv, e_irem, e_ldiv, e_lrem, e_ineg, e_lshl, e_lcmp, e_i2l, e_i2b, e_i2s, e_dup_i, e_dup_r, e_dup2, e_if_eq, e_if_ne, e_if_lt, e_if_ge, e_if_gt, e_if_le, e_icmp_eq, e_icmp_ne, e_icmp_lt, e_icmp_ge, e_icmp_gt, e_icmp_le, e_ifnull_r, e_ifnull_n, e_goto, e_tsw, e_lsw, e_getf, e_puti, e_putz, e_puta, e_new, e_newa, e_anew, e_iald, e_sald, e_iast, e_aald, e_aast, e_alen, e_slen, e_inv, e_acp, e_min, e_max, e_abs, e_ins, e_oinit, e_inx, e_iret, e_lret, e_vret, vx_run_s, List.getElem?_cons_succ, List.getElem?_cons_zero, List.set_cons_succ, List.set_cons_zero, List.mem_cons, List.not_mem_nil, or_false, false_or, if_true, if_false, ite_true, ite_false, ↓reduceIte, reduceCtorEq, List.take_succ_cons, List.take_zero, List.drop_succ_cons, List.drop_zero, List.reverse_cons, List.reverse_nil, List.nil_append, List.cons_append, List.append_nil, List.length_cons, List.length_nil, Option.toList_some, Option.toList_none, vx_nl, vx_isob, true_and, and_true, Nat.reduceAdd, Nat.reduceEqDiff, Nat.reduceLeDiff, Nat.zero_add, Nat.add_zero, not_false_eq_true, not_true_eq_false, Nat.reduceLT, Nat.reduceMul, Nat.reduceSub, Nat.zero_le, vx_up_s, false_implies, true_implies, forall_const, implies_true, imp_self, Nat.le_refl, forall_eq, forall_eq_apply_imp_iff, and_imp, exists_and_left, exists_eq_left, Nat.one_ne_zero, eq_self, true_or, or_true, Option.some.injEq, Value.int.injEq, Value.long.injEq, bk_Tr_takeInches_0, bk_Tr_takeInches_11, bk_Tr_takeInches_33, bk_Tr_takeInches_34, r2]
    refine ⟨fun _ => ?_, fun q3 => absurd q3 (by decide)⟩
    refine vx_cl1 (vw_takeNumber _ _ x s hx (u.at hx x i n (p + 1)) r1 hin q.1 4 30 (by decide) (by decide)) ?_
    rw [atR_at]
    have hyr2 := hyr.at hy.1 x i n (p_num (tx s i) n 4 30 (p + 1)).2
    obtain ⟨y1, y2, y3, y4⟩ := id hyr2
    have ev : vr y h (atR h x i n (p_num (tx s i) n 4 30 (p + 1)).2) := vr.at
    have er := hR.at h x i n (p_num (tx s i) n 4 30 (p + 1)).2
    generalize atR h x i n (p_num (tx s i) n 4 30 (p + 1)).2 = g at y1 y2 y3 y4 hyr2 ev er ⊢
    simp only [e_nil, e_iconst, e_bipush, e_sipush, e_lconst, e_ldc_w, e_ldc2_w, e_iload, e_iload_n, e_lload, e_lload_n, e_aload, e_aload_n, e_istore, e_istore_n, e_astore, e_astore_n, e_lstore, e_iinc, e_iadd, e_isub, e_imul, e_iand, e_ior, e_ishl, e_ishr, e_iushr, e_idiv, e_irem, e_ldiv, e_lrem, e_ineg, e_lshl, e_lcmp, e_i2l, e_i2b, e_i2s, e_dup_i, e_dup_r, e_dup2, e_if_eq, e_if_ne, e_if_lt, e_if_ge, e_if_gt, e_if_le, e_icmp_eq, e_icmp_ne, e_icmp_lt, e_icmp_ge, e_icmp_gt, e_icmp_le, e_ifnull_r, e_ifnull_n, e_goto, e_tsw, e_lsw, e_getf, e_puti, e_putz, e_puta, e_new, e_newa, e_anew, e_iald, e_sald, e_iast, e_aald, e_aast, e_alen, e_slen, e_inv, e_acp, e_min, e_max, e_abs, e_ins, e_oinit, e_inx, e_iret, e_lret, e_vret, vx_run_s, List.getElem?_cons_succ, List.getElem?_cons_zero, List.set_cons_succ, List.set_cons_zero, List.mem_cons, List.not_mem_nil, or_false, false_or, if_true, if_false, ite_true, ite_false, ↓reduceIte, reduceCtorEq, List.take_succ_cons, List.take_zero, List.drop_succ_cons, List.drop_zero, List.reverse_cons, List.reverse_nil, List.nil_append, List.cons_append, List.append_nil, List.length_cons, List.length_nil, Option.toList_some, Option.toList_none, vx_nl, vx_isob, true_and, and_true, Nat.reduceAdd, Nat.reduceEqDiff, Nat.reduceLeDiff, Nat.zero_add, Nat.add_zero, not_false_eq_true, not_true_eq_false, Nat.reduceLT, Nat.reduceMul, Nat.reduceSub, Nat.zero_le, vx_up_s, false_implies, true_implies, forall_const, implies_true, imp_self, Nat.le_refl, forall_eq, forall_eq_apply_imp_iff, and_imp, exists_and_left, exists_eq_left, Nat.one_ne_zero, eq_self, true_or, or_true, Option.some.injEq, Value.int.injEq, Value.long.injEq, bk_Tr_takeInches_0, bk_Tr_takeInches_11, bk_Tr_takeInches_33, bk_Tr_takeInches_34, y1]
    have er2 : hR (vx_up g y (.inr (.inr (5, [.ref (y + 1), .ref (y + 2), .ref (y + 3), .int (oI (p_num (tx s i) n 4 30 (p + 1)).1), .int b, .int c])))) x i n (p_num (tx s i) n 4 30 (p + 1)).2 := (vx_up_n _ _ (by omega)).trans er
    have ey2 : hYr (vx_up g y (.inr (.inr (5, [.ref (y + 1), .ref (y + 2), .ref (y + 3), .int (oI (p_num (tx s i) n 4 30 (p + 1)).1), .int b, .int c])))) y (oI (p_num (tx s i) n 4 30 (p + 1)).1) b c f1 f2 f3 := ⟨vx_up_s _ _ _, (vx_up_n _ _ (by omega)).trans y2, (vx_up_n _ _ (by omega)).trans y3, (vx_up_n _ _ (by omega)).trans y4⟩
    have ev2 : vr y h (vx_up g y (.inr (.inr (5, [.ref (y + 1), .ref (y + 2), .ref (y + 3), .int (oI (p_num (tx s i) n 4 30 (p + 1)).1), .int b, .int c])))) := ev.tr (vr.up (by omega) (by omega))
    cases e : (p_num (tx s i) n 4 30 (p + 1)).1 with
    | none =>
      rw [e] at er2 ey2 ev2
      refine ⟨fun _ => ⟨(vx_bI_f (by decide)).symm, er2, ⟨_, ey2, fun v hv => by cases hv⟩, ev2⟩, fun q2 => absurd (show (-1 : Int32) < 0 by decide) q2⟩
    | some v =>
      rw [e] at er2 ey2 ev2
      have hv := p_num_in e
      refine ⟨fun q2 => absurd q2 (nI_pos (by omega)), fun _ => ⟨(vx_bI_t rfl).symm, er2, ⟨_, ey2, fun w hw => by cases hw; rfl⟩, ev2⟩⟩
  · rw [if_neg q, vx_bI_f q, if_neg q]
    simp only [e_nil, e_iconst, e_bipush, e_sipush, e_lconst, e_ldc_w, e_ldc2_w, e_iload, e_iload_n, e_lload, e_lload_n, e_aload, e_aload_n, e_istore, e_istore_n, e_astore, e_astore_n, e_lstore, e_iinc, e_iadd, e_isub, e_imul, e_iand, e_ior, e_ishl, e_ishr, e_iushr, e_idiv, e_irem, e_ldiv, e_lrem, e_ineg, e_lshl, e_lcmp, e_i2l, e_i2b, e_i2s, e_dup_i, e_dup_r, e_dup2, e_if_eq, e_if_ne, e_if_lt, e_if_ge, e_if_gt, e_if_le, e_icmp_eq, e_icmp_ne, e_icmp_lt, e_icmp_ge, e_icmp_gt, e_icmp_le, e_ifnull_r, e_ifnull_n, e_goto, e_tsw, e_lsw, e_getf, e_puti, e_putz, e_puta, e_new, e_newa, e_anew, e_iald, e_sald, e_iast, e_aald, e_aast, e_alen, e_slen, e_inv, e_acp, e_min, e_max, e_abs, e_ins, e_oinit, e_inx, e_iret, e_lret, e_vret, vx_run_s, List.getElem?_cons_succ, List.getElem?_cons_zero, List.set_cons_succ, List.set_cons_zero, List.mem_cons, List.not_mem_nil, or_false, false_or, if_true, if_false, ite_true, ite_false, ↓reduceIte, reduceCtorEq, List.take_succ_cons, List.take_zero, List.drop_succ_cons, List.drop_zero, List.reverse_cons, List.reverse_nil, List.nil_append, List.cons_append, List.append_nil, List.length_cons, List.length_nil, Option.toList_some, Option.toList_none, vx_nl, vx_isob, true_and, and_true, Nat.reduceAdd, Nat.reduceEqDiff, Nat.reduceLeDiff, Nat.zero_add, Nat.add_zero, not_false_eq_true, not_true_eq_false, Nat.reduceLT, Nat.reduceMul, Nat.reduceSub, Nat.zero_le, vx_up_s, false_implies, true_implies, forall_const, implies_true, imp_self, Nat.le_refl, forall_eq, forall_eq_apply_imp_iff, and_imp, exists_and_left, exists_eq_left, Nat.one_ne_zero, eq_self, true_or, or_true, Option.some.injEq, Value.int.injEq, Value.long.injEq, bk_Tr_takeInches_0, bk_Tr_takeInches_11, bk_Tr_takeInches_33, bk_Tr_takeInches_34, r]
    exact ⟨(vx_bI_f (by decide)).symm, r0, ⟨a, hyr⟩, vr.rf⟩
/-- the boards: how many are read, the last one's gap, their gaps, the place -/
def p_bds (c : Nat → Int32) (n I : Nat) : Nat → Nat → Nat → (Nat → Nat) → Nat → Bool × Nat × (Nat → Nat) × Nat
  | 0, k, _, g, p => (true, k, g, p)
  | m + 1, k, l, g, p => if p < n ∧ c p = 59 then (match p_num c n (l + 1) (I - 1) (p + 1) with
    | (some v, p') => p_bds c n I m (k + 1) v (vw_u g k v) p'
    | (none, p') => (false, k, g, p')) else (decide (0 < k), k, g, p)
/-- what a reading of boards leaves -/
def BdP (h : vx_H) (x i n y I : Nat) (c : Int32) (f2 f3 : Nat → Int32) (R : Bool × Nat × (Nat → Nat) × Nat) (v : Int32) (h' : vx_H) : Prop := v = vx_bI (R.1 = true) ∧ hR h' x i n R.2.2.2 ∧ R.2.2.2 ≤ n ∧ vr y h h' ∧ ∃ f1' b', hYr h' y (nI I) b' c f1' f2 f3 ∧ (R.1 = true → b' = nI R.2.1 ∧ ∀ j, j < R.2.1 → f1' j = nI (R.2.2.1 j))
theorem vw_takeBoards (h : vx_H) (sz x y : Nat) (s : vw_Sh) (hx : 30 ≤ x) (hy : 3 ≤ y ∧ y ≤ 26) (u : hSh h x s) {i n p I : Nat} (hI : 4 ≤ I ∧ I ≤ 30) (r : hR h x i n p) (hin : i + n ≤ s.2.1) (hp : p ≤ n) {b c : Int32} {f1 f2 f3 : Nat → Int32} (hyr : hYr h y (nI I) b c f1 f2 f3) (g0 : Nat → Nat) : vx_Ok m_Tr_takeBoards [.ref 2, .ref y] sz h (fun r h' => ∃ v, r = some (.int v) ∧ BdP h x i n y I c f2 f3 (p_bds (tx s i) n I 5 0 0 g0 p) v h') := by
  generalize hR0 : p_bds (tx s i) n I 5 0 0 g0 p = R0
  refine ok_Tr_takeBoards [some (.ref 2), some (.ref y), none, none] (Nat.le_of_ble_eq_true rfl) rfl (fun lim z X hX => ?_)
  have loop : ∀ (m k l : Nat) (g : Nat → Nat) (pp : Nat) (h2 : vx_H) (f1 : Nat → Int32), k + m = 5 → l ≤ 30 → pp ≤ n → hR h2 x i n pp → hYr h2 y (nI I) (nI k) c f1 f2 f3 → vr y h h2 → (∀ j, j < k → f1 j = nI (g j)) → p_bds (tx s i) n I m k l g pp = R0 → X 9 [some (.ref 2), some (.ref y), some (.int (nI l)), some (.int (nI k))] [] z h2 := by
    intro m
    induction m with
    | zero =>
      intro k l g pp h2 f1 hk hl hpp hr hyr hv hg he
      have e : k = 5 := by omega
      subst e
      refine vx_go hX [9] 9 ?_
      simp only [e_nil, e_iconst, e_bipush, e_sipush, e_lconst, e_ldc_w, e_ldc2_w, e_iload, e_iload_n, e_lload, e_lload_n, e_aload, e_aload_n, e_istore, e_istore_n, e_astore, e_astore_n, e_lstore, e_iinc, e_iadd, e_isub, e_imul, e_iand, e_ior, e_ishl, e_ishr, e_iushr, e_idiv, e_irem, e_ldiv, e_lrem, e_ineg, e_lshl, e_lcmp, e_i2l, e_i2b, e_i2s, e_dup_i, e_dup_r, e_dup2, e_if_eq, e_if_ne, e_if_lt, e_if_ge, e_if_gt, e_if_le, e_icmp_eq, e_icmp_ne, e_icmp_lt, e_icmp_ge, e_icmp_gt, e_icmp_le, e_ifnull_r, e_ifnull_n, e_goto, e_tsw, e_lsw, e_getf, e_puti, e_putz, e_puta, e_new, e_newa, e_anew, e_iald, e_sald, e_iast, e_aald, e_aast, e_alen, e_slen, e_inv, e_acp, e_min, e_max, e_abs, e_ins, e_oinit, e_inx, e_iret, e_lret, e_vret, vx_run_s, List.getElem?_cons_succ, List.getElem?_cons_zero, List.set_cons_succ, List.set_cons_zero, List.mem_cons, List.not_mem_nil, or_false, false_or, if_true, if_false, ite_true, ite_false, ↓reduceIte, reduceCtorEq, List.take_succ_cons, List.take_zero, List.drop_succ_cons, List.drop_zero, List.reverse_cons, List.reverse_nil, List.nil_append, List.cons_append, List.append_nil, List.length_cons, List.length_nil, Option.toList_some, Option.toList_none, vx_nl, vx_isob, true_and, and_true, Nat.reduceAdd, Nat.reduceEqDiff, Nat.reduceLeDiff, Nat.zero_add, Nat.add_zero, not_false_eq_true, not_true_eq_false, Nat.reduceLT, Nat.reduceMul, Nat.reduceSub, Nat.zero_le, vx_up_s, false_implies, true_implies, forall_const, implies_true, imp_self, Nat.le_refl, forall_eq, forall_eq_apply_imp_iff, and_imp, exists_and_left, exists_eq_left, Nat.one_ne_zero, eq_self, true_or, or_true, Option.some.injEq, Value.int.injEq, Value.long.injEq, bk_Tr_takeBoards_0, bk_Tr_takeBoards_9, bk_Tr_takeBoards_29, bk_Tr_takeBoards_40, bk_Tr_takeBoards_60, bk_Tr_takeBoards_80]
      refine ⟨fun _ => ?_, fun q => absurd (show (5 : Int32) ≤ nI 5 by decide) q⟩
      subst he
      exact ⟨1, rfl, (vx_bI_t rfl).symm, hr, hpp, hv, _, _, hyr, fun _ => ⟨rfl, hg⟩⟩
    | succ m ih =>
      intro k l g pp h2 f1 hk hl hpp hr hyr hv hg he
      have u2 := u.vr hv hx hy.2
      have r2 := hr
      unfold hR at r2
      obtain ⟨y1, y2, y3, y4⟩ := id hyr
      unfold p_bds at he
      have h29 : (0 < k → pp < n ∧ tx s i pp = 59) → X 29 [some (.ref 2), some (.ref y), some (.int (nI l)), some (.int (nI k))] [] z h2 := by
        intro hq
        refine vx_go hX [9] 9 ?_
        simp only [e_nil, e_iconst, e_bipush, e_sipush, e_lconst, e_ldc_w, e_ldc2_w, e_iload, e_iload_n, e_lload, e_lload_n, e_aload, e_aload_n, e_istore, e_istore_n, e_astore, e_astore_n, e_lstore, e_iinc, e_iadd, e_isub, e_imul, e_iand, e_ior, e_ishl, e_ishr, e_iushr, e_idiv, e_irem, e_ldiv, e_lrem, e_ineg, e_lshl, e_lcmp, e_i2l, e_i2b, e_i2s, e_dup_i, e_dup_r, e_dup2, e_if_eq, e_if_ne, e_if_lt, e_if_ge, e_if_gt, e_if_le, e_icmp_eq, e_icmp_ne, e_icmp_lt, e_icmp_ge, e_icmp_gt, e_icmp_le, e_ifnull_r, e_ifnull_n, e_goto, e_tsw, e_lsw, e_getf, e_puti, e_putz, e_puta, e_new, e_newa, e_anew, e_iald, e_sald, e_iast, e_aald, e_aast, e_alen, e_slen, e_inv, e_acp, e_min, e_max, e_abs, e_ins, e_oinit, e_inx, e_iret, e_lret, e_vret, vx_run_s, List.getElem?_cons_succ, List.getElem?_cons_zero, List.set_cons_succ, List.set_cons_zero, List.mem_cons, List.not_mem_nil, or_false, false_or, if_true, if_false, ite_true, ite_false, ↓reduceIte, reduceCtorEq, List.take_succ_cons, List.take_zero, List.drop_succ_cons, List.drop_zero, List.reverse_cons, List.reverse_nil, List.nil_append, List.cons_append, List.append_nil, List.length_cons, List.length_nil, Option.toList_some, Option.toList_none, vx_nl, vx_isob, true_and, and_true, Nat.reduceAdd, Nat.reduceEqDiff, Nat.reduceLeDiff, Nat.zero_add, Nat.add_zero, not_false_eq_true, not_true_eq_false, Nat.reduceLT, Nat.reduceMul, Nat.reduceSub, Nat.zero_le, vx_up_s, false_implies, true_implies, forall_const, implies_true, imp_self, Nat.le_refl, forall_eq, forall_eq_apply_imp_iff, and_imp, exists_and_left, exists_eq_left, Nat.one_ne_zero, eq_self, true_or, or_true, Option.some.injEq, Value.int.injEq, Value.long.injEq, bk_Tr_takeBoards_0, bk_Tr_takeBoards_9, bk_Tr_takeBoards_29, bk_Tr_takeBoards_40, bk_Tr_takeBoards_60, bk_Tr_takeBoards_80, r2]
        refine vx_cl1 (vw_takeCode h2 _ x s u2 hr hin hpp 59 (by decide)) ?_
        by_cases q : pp < n ∧ tx s i pp = 59
        · rw [vx_bI_t q, if_pos q]
          have r3 := hR.at h2 x i n (pp + 1)
          have r4 := r3
          unfold hR at r4
          have hyr3 := hyr.at hy.1 x i n (pp + 1)
          obtain ⟨z1, z2, z3, z4⟩ := id hyr3
          have e1 : nI l + 1 = nI (l + 1) := nI_1 l
          have e2 : nI I - 1 = nI (I - 1) := nI_sub (b := 1) (by omega)
          simp only [e_nil, e_iconst, e_bipush, e_sipush, e_lconst, e_ldc_w, e_ldc2_w, e_iload, e_iload_n, e_lload, e_lload_n, e_aload, e_aload_n, e_istore, e_istore_n, e_astore, e_astore_n, e_lstore, e_iinc, e_iadd, e_isub, e_imul, e_iand, e_ior, e_ishl, e_ishr, e_iushr, e_idiv, e_irem, e_ldiv, e_lrem, e_ineg, e_lshl, e_lcmp, e_i2l, e_i2b, e_i2s, e_dup_i, e_dup_r, e_dup2, e_if_eq, e_if_ne, e_if_lt, e_if_ge, e_if_gt, e_if_le, e_icmp_eq, e_icmp_ne, e_icmp_lt, e_icmp_ge, e_icmp_gt, e_icmp_le, e_ifnull_r, e_ifnull_n, e_goto, e_tsw, e_lsw, e_getf, e_puti, e_putz, e_puta, e_new, e_newa, e_anew, e_iald, e_sald, e_iast, e_aald, e_aast, e_alen, e_slen, e_inv, e_acp, e_min, e_max, e_abs, e_ins, e_oinit, e_inx, e_iret, e_lret, e_vret, vx_run_s, List.getElem?_cons_succ, List.getElem?_cons_zero, List.set_cons_succ, List.set_cons_zero, List.mem_cons, List.not_mem_nil, or_false, false_or, if_true, if_false, ite_true, ite_false, ↓reduceIte, reduceCtorEq, List.take_succ_cons, List.take_zero, List.drop_succ_cons, List.drop_zero, List.reverse_cons, List.reverse_nil, List.nil_append, List.cons_append, List.append_nil, List.length_cons, List.length_nil, Option.toList_some, Option.toList_none, vx_nl, vx_isob, true_and, and_true, Nat.reduceAdd, Nat.reduceEqDiff, Nat.reduceLeDiff, Nat.zero_add, Nat.add_zero, not_false_eq_true, not_true_eq_false, Nat.reduceLT, Nat.reduceMul, Nat.reduceSub, Nat.zero_le, vx_up_s, false_implies, true_implies, forall_const, implies_true, imp_self, Nat.le_refl, forall_eq, forall_eq_apply_imp_iff, and_imp, exists_and_left, exists_eq_left, Nat.one_ne_zero, eq_self, true_or, or_true, Option.some.injEq, Value.int.injEq, Value.long.injEq, bk_Tr_takeBoards_0, bk_Tr_takeBoards_9, bk_Tr_takeBoards_29, bk_Tr_takeBoards_40, bk_Tr_takeBoards_60, bk_Tr_takeBoards_80, r4, z1, e1, e2]
          refine ⟨fun _ => ?_, fun q3 => absurd q3 (by decide)⟩
          refine vx_cl1 (vw_takeNumber _ _ x s hx (u2.at hx x i n (pp + 1)) r3 hin q.1 (l + 1) (I - 1) (by omega) (by omega)) ?_
          rw [atR_at]
          have hle := p_num_le (tx s i) (n := n) (lo := l + 1) (hi := I - 1) (p := pp + 1) q.1
          rw [if_pos q] at he
          cases e : p_num (tx s i) n (l + 1) (I - 1) (pp + 1) with
          | mk o p' =>
            rw [e] at he hle
            have hyr5 := hyr.at hy.1 x i n p'
            have ev5 : vr y h (atR h2 x i n p') := hv.tr vr.at
            have r5 := hR.at h2 x i n p'
            obtain ⟨w1, w2, w3, w4⟩ := id hyr5
            cases o with
            | none =>
              simp only [e_nil, e_iconst, e_bipush, e_sipush, e_lconst, e_ldc_w, e_ldc2_w, e_iload, e_iload_n, e_lload, e_lload_n, e_aload, e_aload_n, e_istore, e_istore_n, e_astore, e_astore_n, e_lstore, e_iinc, e_iadd, e_isub, e_imul, e_iand, e_ior, e_ishl, e_ishr, e_iushr, e_idiv, e_irem, e_ldiv, e_lrem, e_ineg, e_lshl, e_lcmp, e_i2l, e_i2b, e_i2s, e_dup_i, e_dup_r, e_dup2, e_if_eq, e_if_ne, e_if_lt, e_if_ge, e_if_gt, e_if_le, e_icmp_eq, e_icmp_ne, e_icmp_lt, e_icmp_ge, e_icmp_gt, e_icmp_le, e_ifnull_r, e_ifnull_n, e_goto, e_tsw, e_lsw, e_getf, e_puti, e_putz, e_puta, e_new, e_newa, e_anew, e_iald, e_sald, e_iast, e_aald, e_aast, e_alen, e_slen, e_inv, e_acp, e_min, e_max, e_abs, e_ins, e_oinit, e_inx, e_iret, e_lret, e_vret, vx_run_s, List.getElem?_cons_succ, List.getElem?_cons_zero, List.set_cons_succ, List.set_cons_zero, List.mem_cons, List.not_mem_nil, or_false, false_or, if_true, if_false, ite_true, ite_false, ↓reduceIte, reduceCtorEq, List.take_succ_cons, List.take_zero, List.drop_succ_cons, List.drop_zero, List.reverse_cons, List.reverse_nil, List.nil_append, List.cons_append, List.append_nil, List.length_cons, List.length_nil, Option.toList_some, Option.toList_none, vx_nl, vx_isob, true_and, and_true, Nat.reduceAdd, Nat.reduceEqDiff, Nat.reduceLeDiff, Nat.zero_add, Nat.add_zero, not_false_eq_true, not_true_eq_false, Nat.reduceLT, Nat.reduceMul, Nat.reduceSub, Nat.zero_le, vx_up_s, false_implies, true_implies, forall_const, implies_true, imp_self, Nat.le_refl, forall_eq, forall_eq_apply_imp_iff, and_imp, exists_and_left, exists_eq_left, Nat.one_ne_zero, eq_self, true_or, or_true, Option.some.injEq, Value.int.injEq, Value.long.injEq, bk_Tr_takeBoards_0, bk_Tr_takeBoards_9, bk_Tr_takeBoards_29, bk_Tr_takeBoards_40, bk_Tr_takeBoards_60, bk_Tr_takeBoards_80, oI]
              subst he
              refine ⟨fun q4 => absurd q4 (by decide), fun _ => ⟨0, rfl, (vx_bI_f Bool.false_ne_true).symm, r5, hle, ev5, _, _, hyr5, fun q5 => by cases q5⟩⟩
            | some v =>
              have hv2 := p_num_in (by rw [e])
              have n1 : (y : Nat) ≠ y + 1 := by omega
              simp only [e_nil, e_iconst, e_bipush, e_sipush, e_lconst, e_ldc_w, e_ldc2_w, e_iload, e_iload_n, e_lload, e_lload_n, e_aload, e_aload_n, e_istore, e_istore_n, e_astore, e_astore_n, e_lstore, e_iinc, e_iadd, e_isub, e_imul, e_iand, e_ior, e_ishl, e_ishr, e_iushr, e_idiv, e_irem, e_ldiv, e_lrem, e_ineg, e_lshl, e_lcmp, e_i2l, e_i2b, e_i2s, e_dup_i, e_dup_r, e_dup2, e_if_eq, e_if_ne, e_if_lt, e_if_ge, e_if_gt, e_if_le, e_icmp_eq, e_icmp_ne, e_icmp_lt, e_icmp_ge, e_icmp_gt, e_icmp_le, e_ifnull_r, e_ifnull_n, e_goto, e_tsw, e_lsw, e_getf, e_puti, e_putz, e_puta, e_new, e_newa, e_anew, e_iald, e_sald, e_iast, e_aald, e_aast, e_alen, e_slen, e_inv, e_acp, e_min, e_max, e_abs, e_ins, e_oinit, e_inx, e_iret, e_lret, e_vret, vx_run_s, List.getElem?_cons_succ, List.getElem?_cons_zero, List.set_cons_succ, List.set_cons_zero, List.mem_cons, List.not_mem_nil, or_false, false_or, if_true, if_false, ite_true, ite_false, ↓reduceIte, reduceCtorEq, List.take_succ_cons, List.take_zero, List.drop_succ_cons, List.drop_zero, List.reverse_cons, List.reverse_nil, List.nil_append, List.cons_append, List.append_nil, List.length_cons, List.length_nil, Option.toList_some, Option.toList_none, vx_nl, vx_isob, true_and, and_true, Nat.reduceAdd, Nat.reduceEqDiff, Nat.reduceLeDiff, Nat.zero_add, Nat.add_zero, not_false_eq_true, not_true_eq_false, Nat.reduceLT, Nat.reduceMul, Nat.reduceSub, Nat.zero_le, vx_up_s, false_implies, true_implies, forall_const, implies_true, imp_self, Nat.le_refl, forall_eq, forall_eq_apply_imp_iff, and_imp, exists_and_left, exists_eq_left, Nat.one_ne_zero, eq_self, true_or, or_true, Option.some.injEq, Value.int.injEq, Value.long.injEq, bk_Tr_takeBoards_0, bk_Tr_takeBoards_9, bk_Tr_takeBoards_29, bk_Tr_takeBoards_40, bk_Tr_takeBoards_60, bk_Tr_takeBoards_80, oI, w1, w2, vx_up_n _ _ n1]
              refine ⟨fun _ => ⟨vp_in_nI (by omega) (by decide), ?_⟩, fun q4 => absurd (nI_pos' (by omega)) q4⟩
              rw [nI_clamp (by omega), nI_1]
              refine ih (k + 1) v (vw_u g k v) p' _ (upd f1 k (nI v)) (by omega) (by omega) hle ((vx_up_n _ _ (by omega)).trans ((vx_up_n _ _ (by omega)).trans r5)) ⟨vx_up_s _ _ _, (vx_up_n _ _ (by omega)).trans (vx_up_s _ _ _), (vx_up_n _ _ (by omega)).trans ((vx_up_n _ _ (by omega)).trans w3), (vx_up_n _ _ (by omega)).trans ((vx_up_n _ _ (by omega)).trans w4)⟩ (ev5.tr ((vr.up (by omega) (by omega)).tr (vr.up (by omega) (by omega)))) (fun j hj => ?_) he
              unfold upd vw_u
              by_cases ej : j = k
              · rw [if_pos ej, if_pos ej]
              · rw [if_neg ej, if_neg ej]; exact hg j (by omega)
        · rw [vx_bI_f q, if_neg q]
          have k0 : ¬ 0 < k := fun c => q (hq c)
          rw [if_neg q] at he
          simp only [e_nil, e_iconst, e_bipush, e_sipush, e_lconst, e_ldc_w, e_ldc2_w, e_iload, e_iload_n, e_lload, e_lload_n, e_aload, e_aload_n, e_istore, e_istore_n, e_astore, e_astore_n, e_lstore, e_iinc, e_iadd, e_isub, e_imul, e_iand, e_ior, e_ishl, e_ishr, e_iushr, e_idiv, e_irem, e_ldiv, e_lrem, e_ineg, e_lshl, e_lcmp, e_i2l, e_i2b, e_i2s, e_dup_i, e_dup_r, e_dup2, e_if_eq, e_if_ne, e_if_lt, e_if_ge, e_if_gt, e_if_le, e_icmp_eq, e_icmp_ne, e_icmp_lt, e_icmp_ge, e_icmp_gt, e_icmp_le, e_ifnull_r, e_ifnull_n, e_goto, e_tsw, e_lsw, e_getf, e_puti, e_putz, e_puta, e_new, e_newa, e_anew, e_iald, e_sald, e_iast, e_aald, e_aast, e_alen, e_slen, e_inv, e_acp, e_min, e_max, e_abs, e_ins, e_oinit, e_inx, e_iret, e_lret, e_vret, vx_run_s, List.getElem?_cons_succ, List.getElem?_cons_zero, List.set_cons_succ, List.set_cons_zero, List.mem_cons, List.not_mem_nil, or_false, false_or, if_true, if_false, ite_true, ite_false, ↓reduceIte, reduceCtorEq, List.take_succ_cons, List.take_zero, List.drop_succ_cons, List.drop_zero, List.reverse_cons, List.reverse_nil, List.nil_append, List.cons_append, List.append_nil, List.length_cons, List.length_nil, Option.toList_some, Option.toList_none, vx_nl, vx_isob, true_and, and_true, Nat.reduceAdd, Nat.reduceEqDiff, Nat.reduceLeDiff, Nat.zero_add, Nat.add_zero, not_false_eq_true, not_true_eq_false, Nat.reduceLT, Nat.reduceMul, Nat.reduceSub, Nat.zero_le, vx_up_s, false_implies, true_implies, forall_const, implies_true, imp_self, Nat.le_refl, forall_eq, forall_eq_apply_imp_iff, and_imp, exists_and_left, exists_eq_left, Nat.one_ne_zero, eq_self, true_or, or_true, Option.some.injEq, Value.int.injEq, Value.long.injEq, bk_Tr_takeBoards_0, bk_Tr_takeBoards_9, bk_Tr_takeBoards_29, bk_Tr_takeBoards_40, bk_Tr_takeBoards_60, bk_Tr_takeBoards_80, r2]
          subst he
          exact ⟨0, rfl, (vx_bI_f (by simpa using k0)).symm, hr, hpp, hv, _, _, hyr, fun q5 => absurd (of_decide_eq_true q5) k0⟩
      refine vx_go hX [29] 9 ?_
      simp only [e_nil, e_iconst, e_bipush, e_sipush, e_lconst, e_ldc_w, e_ldc2_w, e_iload, e_iload_n, e_lload, e_lload_n, e_aload, e_aload_n, e_istore, e_istore_n, e_astore, e_astore_n, e_lstore, e_iinc, e_iadd, e_isub, e_imul, e_iand, e_ior, e_ishl, e_ishr, e_iushr, e_idiv, e_irem, e_ldiv, e_lrem, e_ineg, e_lshl, e_lcmp, e_i2l, e_i2b, e_i2s, e_dup_i, e_dup_r, e_dup2, e_if_eq, e_if_ne, e_if_lt, e_if_ge, e_if_gt, e_if_le, e_icmp_eq, e_icmp_ne, e_icmp_lt, e_icmp_ge, e_icmp_gt, e_icmp_le, e_ifnull_r, e_ifnull_n, e_goto, e_tsw, e_lsw, e_getf, e_puti, e_putz, e_puta, e_new, e_newa, e_anew, e_iald, e_sald, e_iast, e_aald, e_aast, e_alen, e_slen, e_inv, e_acp, e_min, e_max, e_abs, e_ins, e_oinit, e_inx, e_iret, e_lret, e_vret, vx_run_s, List.getElem?_cons_succ, List.getElem?_cons_zero, List.set_cons_succ, List.set_cons_zero, List.mem_cons, List.not_mem_nil, or_false, false_or, if_true, if_false, ite_true, ite_false, ↓reduceIte, reduceCtorEq, List.take_succ_cons, List.take_zero, List.drop_succ_cons, List.drop_zero, List.reverse_cons, List.reverse_nil, List.nil_append, List.cons_append, List.append_nil, List.length_cons, List.length_nil, Option.toList_some, Option.toList_none, vx_nl, vx_isob, true_and, and_true, Nat.reduceAdd, Nat.reduceEqDiff, Nat.reduceLeDiff, Nat.zero_add, Nat.add_zero, not_false_eq_true, not_true_eq_false, Nat.reduceLT, Nat.reduceMul, Nat.reduceSub, Nat.zero_le, vx_up_s, false_implies, true_implies, forall_const, implies_true, imp_self, Nat.le_refl, forall_eq, forall_eq_apply_imp_iff, and_imp, exists_and_left, exists_eq_left, Nat.one_ne_zero, eq_self, true_or, or_true, Option.some.injEq, Value.int.injEq, Value.long.injEq, bk_Tr_takeBoards_0, bk_Tr_takeBoards_9, bk_Tr_takeBoards_29, bk_Tr_takeBoards_40, bk_Tr_takeBoards_60, bk_Tr_takeBoards_80, r2]
      refine ⟨fun q => absurd q (nI_ge (b := 5) (by omega) (by decide)), fun _ => ⟨fun q => h29 (fun c => absurd q (nI_nle c (by omega))), fun q => ?_⟩⟩
      refine vx_cl1 (vw_code h2 _ x s u2 hr hin hpp) ?_
      simp only [e_nil, e_iconst, e_bipush, e_sipush, e_lconst, e_ldc_w, e_ldc2_w, e_iload, e_iload_n, e_lload, e_lload_n, e_aload, e_aload_n, e_istore, e_istore_n, e_astore, e_astore_n, e_lstore, e_iinc, e_iadd, e_isub, e_imul, e_iand, e_ior, e_ishl, e_ishr, e_iushr, e_idiv, e_irem, e_ldiv, e_lrem, e_ineg, e_lshl, e_lcmp, e_i2l, e_i2b, e_i2s, e_dup_i, e_dup_r, e_dup2, e_if_eq, e_if_ne, e_if_lt, e_if_ge, e_if_gt, e_if_le, e_icmp_eq, e_icmp_ne, e_icmp_lt, e_icmp_ge, e_icmp_gt, e_icmp_le, e_ifnull_r, e_ifnull_n, e_goto, e_tsw, e_lsw, e_getf, e_puti, e_putz, e_puta, e_new, e_newa, e_anew, e_iald, e_sald, e_iast, e_aald, e_aast, e_alen, e_slen, e_inv, e_acp, e_min, e_max, e_abs, e_ins, e_oinit, e_inx, e_iret, e_lret, e_vret, vx_run_s, List.getElem?_cons_succ, List.getElem?_cons_zero, List.set_cons_succ, List.set_cons_zero, List.mem_cons, List.not_mem_nil, or_false, false_or, if_true, if_false, ite_true, ite_false, ↓reduceIte, reduceCtorEq, List.take_succ_cons, List.take_zero, List.drop_succ_cons, List.drop_zero, List.reverse_cons, List.reverse_nil, List.nil_append, List.cons_append, List.append_nil, List.length_cons, List.length_nil, Option.toList_some, Option.toList_none, vx_nl, vx_isob, true_and, and_true, Nat.reduceAdd, Nat.reduceEqDiff, Nat.reduceLeDiff, Nat.zero_add, Nat.add_zero, not_false_eq_true, not_true_eq_false, Nat.reduceLT, Nat.reduceMul, Nat.reduceSub, Nat.zero_le, vx_up_s, false_implies, true_implies, forall_const, implies_true, imp_self, Nat.le_refl, forall_eq, forall_eq_apply_imp_iff, and_imp, exists_and_left, exists_eq_left, Nat.one_ne_zero, eq_self, true_or, or_true, Option.some.injEq, Value.int.injEq, Value.long.injEq, bk_Tr_takeBoards_0, bk_Tr_takeBoards_9, bk_Tr_takeBoards_29, bk_Tr_takeBoards_40, bk_Tr_takeBoards_60, bk_Tr_takeBoards_80, r2]
      have k0 : 0 < k := Nat.pos_of_ne_zero (fun e => q (by subst e; decide))
      refine ⟨fun q2 => h29 (fun _ => ?_), fun q2 => ?_⟩
      · by_cases e : pp < n
        · rw [if_pos e] at q2; exact ⟨e, q2⟩
        · rw [if_neg e] at q2; exact absurd q2 (by decide)
      · have q3 : ¬ (pp < n ∧ tx s i pp = 59) := fun c => q2 (by rw [if_pos c.1]; exact c.2)
        rw [if_neg q3] at he
        subst he
        exact ⟨1, rfl, (vx_bI_t (decide_eq_true k0)).symm, hr, hpp, hv, _, _, hyr, fun _ => ⟨rfl, hg⟩⟩
  refine vx_go hX [9] 9 ?_
  obtain ⟨y1, y2, y3, y4⟩ := hyr
  simp only [e_nil, e_iconst, e_bipush, e_sipush, e_lconst, e_ldc_w, e_ldc2_w, e_iload, e_iload_n, e_lload, e_lload_n, e_aload, e_aload_n, e_istore, e_istore_n, e_astore, e_astore_n, e_lstore, e_iinc, e_iadd, e_isub, e_imul, e_iand, e_ior, e_ishl, e_ishr, e_iushr, e_idiv, e_irem, e_ldiv, e_lrem, e_ineg, e_lshl, e_lcmp, e_i2l, e_i2b, e_i2s, e_dup_i, e_dup_r, e_dup2, e_if_eq, e_if_ne, e_if_lt, e_if_ge, e_if_gt, e_if_le, e_icmp_eq, e_icmp_ne, e_icmp_lt, e_icmp_ge, e_icmp_gt, e_icmp_le, e_ifnull_r, e_ifnull_n, e_goto, e_tsw, e_lsw, e_getf, e_puti, e_putz, e_puta, e_new, e_newa, e_anew, e_iald, e_sald, e_iast, e_aald, e_aast, e_alen, e_slen, e_inv, e_acp, e_min, e_max, e_abs, e_ins, e_oinit, e_inx, e_iret, e_lret, e_vret, vx_run_s, List.getElem?_cons_succ, List.getElem?_cons_zero, List.set_cons_succ, List.set_cons_zero, List.mem_cons, List.not_mem_nil, or_false, false_or, if_true, if_false, ite_true, ite_false, ↓reduceIte, reduceCtorEq, List.take_succ_cons, List.take_zero, List.drop_succ_cons, List.drop_zero, List.reverse_cons, List.reverse_nil, List.nil_append, List.cons_append, List.append_nil, List.length_cons, List.length_nil, Option.toList_some, Option.toList_none, vx_nl, vx_isob, true_and, and_true, Nat.reduceAdd, Nat.reduceEqDiff, Nat.reduceLeDiff, Nat.zero_add, Nat.add_zero, not_false_eq_true, not_true_eq_false, Nat.reduceLT, Nat.reduceMul, Nat.reduceSub, Nat.zero_le, vx_up_s, false_implies, true_implies, forall_const, implies_true, imp_self, Nat.le_refl, forall_eq, forall_eq_apply_imp_iff, and_imp, exists_and_left, exists_eq_left, Nat.one_ne_zero, eq_self, true_or, or_true, Option.some.injEq, Value.int.injEq, Value.long.injEq, bk_Tr_takeBoards_0, bk_Tr_takeBoards_9, bk_Tr_takeBoards_29, bk_Tr_takeBoards_40, bk_Tr_takeBoards_60, bk_Tr_takeBoards_80, y1]
  exact loop 5 0 0 g0 p _ f1 rfl (by omega) hp ((vx_up_n _ _ (by omega)).trans r) ⟨vx_up_s _ _ _, (vx_up_n _ _ (by omega)).trans y2, (vx_up_n _ _ (by omega)).trans y3, (vx_up_n _ _ (by omega)).trans y4⟩ (vr.up (by omega) (by omega)) (fun j hj => absurd hj (by omega)) hR0
