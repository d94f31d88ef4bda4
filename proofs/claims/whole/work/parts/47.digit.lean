/-! the reader: takeDigit, takeNumber -/
theorem dig_iff (x : Int32) : (0 ≤ x - 48 ∧ x - 48 ≤ 9) ↔ (48 ≤ x ∧ x ≤ 57) := by
  simp only [Int32.le_iff_toInt_le, Int32.toInt_sub, Int32.reduceToInt]
  have h1 := Int32.le_toInt x
  have h2 := Int32.toInt_lt x
  rw [Int.bmod_def]
  omega
theorem p_dig_some {c : Nat → Int32} {n p d : Nat} (h : p_dig c n p = some d) : p < n ∧ d ≤ 9 ∧ c p = nI (48 + d) := by
  unfold p_dig at h
  split at h
  · rename_i q
    injection h with h
    obtain ⟨a, ha, e1, e2⟩ := nI_arg2 (x := c p) (n := 57) (by decide) ⟨Int32.le_trans (by decide) q.2.1, q.2.2⟩
    have h48 : 48 ≤ a := by
      have := q.2.1
      rw [e1] at this
      exact (nI_leI (a := 48) (by decide) (by omega)).mp this
    rw [e1, show (48 : Int32) = nI 48 from rfl, nI_sub h48, nI_clamp (by omega)] at h
    refine ⟨q.1, by omega, ?_⟩
    rw [e1, ← h, show 48 + (a - 48) = a by omega]
  · cases h
theorem p_dig_none {c : Nat → Int32} {n p : Nat} (h : p_dig c n p = none) : ¬ (0 ≤ (if p < n then c p else -1) - 48 ∧ (if p < n then c p else -1) - 48 ≤ (9 : Int32)) := by
  unfold p_dig at h
  split at h
  · cases h
  · rename_i q
    rw [dig_iff]
    by_cases e : p < n
    · rw [if_pos e]; exact fun c => q ⟨e, c⟩
    · rw [if_neg e]; decide
theorem nI_mul (a b : Nat) : nI a * nI b = nI (a * b) := (Int32.ofNat_mul a b).symm
theorem nI_maxI {a b : Nat} (ha : a < 2 ^ 31) (hb : b < 2 ^ 31) : (if nI a < nI b then nI b else nI a) = nI (max a b) := by
  simp only [nI_ltI ha hb]
  split
  · rw [Nat.max_eq_right (by omega)]
  · rw [Nat.max_eq_left (by omega)]
theorem nI_minI {a b : Nat} (ha : a < 2 ^ 31) (hb : b < 2 ^ 31) : (if nI b < nI a then nI b else nI a) = nI (min a b) := by
  simp only [nI_ltI hb ha]
  split
  · rw [Nat.min_eq_right (by omega)]
  · rw [Nat.min_eq_left (by omega)]
def p_d1 (c : Nat → Int32) (n p lo hi t un : Nat) : Option Nat := match p_dig c n p with
  | none => none
  | some d => if max (t + d * un) lo ≤ min (t + d * un + un - 1) hi then some (t + d * un) else none
theorem vw_takeDigit (h : vx_H) (sz x : Nat) (s : vw_Sh) (u : hSh h x s) {i n p : Nat} (r : hR h x i n p) (hin : i + n ≤ s.2.1) (hp : p ≤ n) (lo hi t un : Nat) (h1 : lo ≤ 99) (h2 : hi ≤ 99) (h3 : t ≤ 99) (h4 : un ≤ 10) (h5 : 1 ≤ un) : vx_Ok m_Tr_takeDigit [.ref 2, .int (nI lo), .int (nI hi), .int (nI t), .int (nI un)] sz h (fun r h' => r = some (.int (oI (p_d1 (tx s i) n p lo hi t un))) ∧ h' = atR h x i n (if (p_d1 (tx s i) n p lo hi t un).isSome then p + 1 else p)) := by
  unfold p_d1
  refine ok_Tr_takeDigit [some (.ref 2), some (.int (nI lo)), some (.int (nI hi)), some (.int (nI t)), some (.int (nI un)), none, none, none] (Nat.le_of_ble_eq_true rfl) rfl (fun lim z X hX => ?_)
  have r0 := r
  unfold hR at r
  refine vx_go hX [] 9 ?_
  simp only [e_nil, e_iconst, e_bipush, e_sipush, e_lconst, e_ldc_w, e_ldc2_w, e_iload, e_iload_n, e_lload, e_lload_n, e_aload, e_aload_n, e_istore, e_istore_n, e_astore, e_astore_n, e_lstore, e_iinc, e_iadd, e_isub, e_imul, e_iand, e_ior, e_ishl, e_ishr, e_iushr, e_idiv, e_irem, e_ldiv, e_lrem, e_ineg, e_lshl, e_lcmp, e_i2l, e_i2b, e_i2s, e_dup_i, e_dup_r, e_dup2, e_if_eq, e_if_ne, e_if_lt, e_if_ge, e_if_gt, e_if_le, e_icmp_eq, e_icmp_ne, e_icmp_lt, e_icmp_ge, e_icmp_gt, e_icmp_le, e_ifnull_r, e_ifnull_n, e_goto, e_tsw, e_lsw, e_getf, e_puti, e_putz, e_puta, e_new, e_newa, e_anew, e_iald, e_sald, e_iast, e_aald, e_aast, e_alen, e_slen, e_inv, e_acp, e_min, e_max, e_abs, e_ins, e_oinit, e_inx, e_iret, e_lret, e_vret, vx_run_s, List.getElem?_cons_succ, List.getElem?_cons_zero, List.set_cons_succ, List.set_cons_zero, List.mem_cons, List.not_mem_nil, or_false, false_or, if_true, if_false, ite_true, ite_false, ↓reduceIte, reduceCtorEq, List.take_succ_cons, List.take_zero, List.drop_succ_cons, List.drop_zero, List.reverse_cons, List.reverse_nil, List.nil_append, List.cons_append, List.append_nil, List.length_cons, List.length_nil, Option.toList_some, Option.toList_none, vx_nl, vx_isob, true_and, and_true, Nat.reduceAdd, Nat.reduceEqDiff, Nat.reduceLeDiff, Nat.zero_add, Nat.add_zero, not_false_eq_true, not_true_eq_false, Nat.reduceLT, Nat.reduceMul, Nat.reduceSub, Nat.zero_le, vx_up_s, false_implies, true_implies, forall_const, implies_true, imp_self, Nat.le_refl, forall_eq, forall_eq_apply_imp_iff, and_imp, exists_and_left, exists_eq_left, Nat.one_ne_zero, eq_self, true_or, or_true, Option.some.injEq, Value.int.injEq, Value.long.injEq, bk_Tr_takeDigit_0, bk_Tr_takeDigit_54, bk_Tr_takeDigit_56, r]
  refine vx_cl1 (vw_code h _ x s u r0 hin hp) ?_
  cases e : p_dig (tx s i) n p with
  | none =>
    have hn := p_dig_none e
    simp only [e_nil, e_iconst, e_bipush, e_sipush, e_lconst, e_ldc_w, e_ldc2_w, e_iload, e_iload_n, e_lload, e_lload_n, e_aload, e_aload_n, e_istore, e_istore_n, e_astore, e_astore_n, e_lstore, e_iinc, e_iadd, e_isub, e_imul, e_iand, e_ior, e_ishl, e_ishr, e_iushr, e_idiv, e_irem, e_ldiv, e_lrem, e_ineg, e_lshl, e_lcmp, e_i2l, e_i2b, e_i2s, e_dup_i, e_dup_r, e_dup2, e_if_eq, e_if_ne, e_if_lt, e_if_ge, e_if_gt, e_if_le, e_icmp_eq, e_icmp_ne, e_icmp_lt, e_icmp_ge, e_icmp_gt, e_icmp_le, e_ifnull_r, e_ifnull_n, e_goto, e_tsw, e_lsw, e_getf, e_puti, e_putz, e_puta, e_new, e_newa, e_anew, e_iald, e_sald, e_iast, e_aald, e_aast, e_alen, e_slen, e_inv, e_acp, e_min, e_max, e_abs, e_ins, e_oinit, e_inx, e_iret, e_lret, e_vret, vx_run_s, List.getElem?_cons_succ, List.getElem?_cons_zero, List.set_cons_succ, List.set_cons_zero, List.mem_cons, List.not_mem_nil, or_false, false_or, if_true, if_false, ite_true, ite_false, ↓reduceIte, reduceCtorEq, List.take_succ_cons, List.take_zero, List.drop_succ_cons, List.drop_zero, List.reverse_cons, List.reverse_nil, List.nil_append, List.cons_append, List.append_nil, List.length_cons, List.length_nil, Option.toList_some, Option.toList_none, vx_nl, vx_isob, true_and, and_true, Nat.reduceAdd, Nat.reduceEqDiff, Nat.reduceLeDiff, Nat.zero_add, Nat.add_zero, not_false_eq_true, not_true_eq_false, Nat.reduceLT, Nat.reduceMul, Nat.reduceSub, Nat.zero_le, vx_up_s, false_implies, true_implies, forall_const, implies_true, imp_self, Nat.le_refl, forall_eq, forall_eq_apply_imp_iff, and_imp, exists_and_left, exists_eq_left, Nat.one_ne_zero, eq_self, true_or, or_true, Option.some.injEq, Value.int.injEq, Value.long.injEq, bk_Tr_takeDigit_0, bk_Tr_takeDigit_54, bk_Tr_takeDigit_56, r]
    refine ⟨fun _ => ⟨rfl, r0.id.symm⟩, fun q => ⟨fun _ => ⟨rfl, r0.id.symm⟩, fun q2 => ?_⟩⟩
    exact absurd ⟨Int32.not_lt.mp q, Int32.not_lt.mp q2⟩ hn
  | some d =>
    obtain ⟨d1, d2, d3⟩ := p_dig_some e
    rw [if_pos d1, d3]
    have e1 : nI (48 + d) - 48 = nI d := by rw [show (48 : Int32) = nI 48 from rfl, nI_sub (by omega)]; congr 1; omega
    have hm : d * un ≤ 90 := Nat.mul_le_mul d2 h4
    simp only [e_nil, e_iconst, e_bipush, e_sipush, e_lconst, e_ldc_w, e_ldc2_w, e_iload, e_iload_n, e_lload, e_lload_n, e_aload, e_aload_n, e_istore, e_istore_n, e_astore, e_astore_n, e_lstore, e_iinc, e_iadd, e_isub, e_imul, e_iand, e_ior, e_ishl, e_ishr, e_iushr, e_idiv, e_irem, e_ldiv, e_lrem, e_ineg, e_lshl, e_lcmp, e_i2l, e_i2b, e_i2s, e_dup_i, e_dup_r, e_dup2, e_if_eq, e_if_ne, e_if_lt, e_if_ge, e_if_gt, e_if_le, e_icmp_eq, e_icmp_ne, e_icmp_lt, e_icmp_ge, e_icmp_gt, e_icmp_le, e_ifnull_r, e_ifnull_n, e_goto, e_tsw, e_lsw, e_getf, e_puti, e_putz, e_puta, e_new, e_newa, e_anew, e_iald, e_sald, e_iast, e_aald, e_aast, e_alen, e_slen, e_inv, e_acp, e_min, e_max, e_abs, e_ins, e_oinit, e_inx, e_iret, e_lret, e_vret, vx_run_s, List.getElem?_cons_succ, List.getElem?_cons_zero, List.set_cons_succ, List.set_cons_zero, List.mem_cons, List.not_mem_nil, or_false, false_or, if_true, if_false, ite_true, ite_false, ↓reduceIte, reduceCtorEq, List.take_succ_cons, List.take_zero, List.drop_succ_cons, List.drop_zero, List.reverse_cons, List.reverse_nil, List.nil_append, List.cons_append, List.append_nil, List.length_cons, List.length_nil, Option.toList_some, Option.toList_none, vx_nl, vx_isob, true_and, and_true, Nat.reduceAdd, Nat.reduceEqDiff, Nat.reduceLeDiff, Nat.zero_add, Nat.add_zero, not_false_eq_true, not_true_eq_false, Nat.reduceLT, Nat.reduceMul, Nat.reduceSub, Nat.zero_le, vx_up_s, false_implies, true_implies, forall_const, implies_true, imp_self, Nat.le_refl, forall_eq, forall_eq_apply_imp_iff, and_imp, exists_and_left, exists_eq_left, Nat.one_ne_zero, eq_self, true_or, or_true, Option.some.injEq, Value.int.injEq, Value.long.injEq, bk_Tr_takeDigit_0, bk_Tr_takeDigit_54, bk_Tr_takeDigit_56, r, e1, nI_mul, nI_add]
    have e2 : nI (t + d * un + un) - 1 = nI (t + d * un + un - 1) := nI_sub (b := 1) (by omega)
    rw [e2, nI_maxI (by omega) (by omega), nI_minI (by omega) (by omega)]
    refine ⟨fun q => absurd q (nI_pos (by omega)), fun _ => ⟨fun q => absurd q (nI_nlt (a := 9) (b := d) (by omega) (by decide)), fun _ => ⟨fun q => ?_, fun q => ?_⟩⟩⟩
    · have q := (nI_leI (by omega) (by omega)).mp q
      simp only [if_pos q, nI_1]
      exact ⟨rfl, rfl⟩
    · have q : ¬ (max (t + d * un) lo ≤ min (t + d * un + un - 1) hi) := fun c => q (nI_le c (by omega))
      simp only [if_neg q]
      exact ⟨rfl, r0.id.symm⟩
theorem p_d1_some {c : Nat → Int32} {n p lo hi t un v : Nat} (h : p_d1 c n p lo hi t un = some v) : p < n ∧ ∃ d, d ≤ 9 ∧ v = t + d * un ∧ p_dig c n p = some d ∧ max (t + d * un) lo ≤ min (t + d * un + un - 1) hi := by
  unfold p_d1 at h
  split at h
  · cases h
  · rename_i d e
    obtain ⟨d1, d2, d3⟩ := p_dig_some e
    split at h
    · rename_i q
      injection h with h
      exact ⟨d1, d, d2, h.symm, e, q⟩
    · cases h
/-- a number of two digits, by its digits -/
theorem p_num_eq (c : Nat → Int32) (n lo hi p : Nat) : p_num c n lo hi p = (match p_d1 c n p lo hi 0 10 with
  | none => (none, p)
  | some t => (p_d1 c n (p + 1) lo hi t 1, if (p_d1 c n (p + 1) lo hi t 1).isSome then p + 2 else p + 1)) := by
  unfold p_num p_d1
  cases e : p_dig c n p with
  | none => rfl
  | some d =>
    have e0 : 0 + d * 10 = 10 * d := by omega
    simp only [e0, show 10 * d + 10 - 1 = 10 * d + 9 by omega]
    by_cases q : max (10 * d) lo ≤ min (10 * d + 9) hi
    · simp only [if_pos q]
      cases e2 : p_dig c n (p + 1) with
      | none => rfl
      | some f =>
        simp only [Nat.mul_one, Nat.add_sub_cancel]
        by_cases q2 : lo ≤ 10 * d + f ∧ 10 * d + f ≤ hi
        · have q3 : max (10 * d + f) lo ≤ min (10 * d + f) hi := by omega
          simp only [if_pos q2, if_pos q3]
          rfl
        · have q3 : ¬ (max (10 * d + f) lo ≤ min (10 * d + f) hi) := by omega
          simp only [if_neg q2, if_neg q3]
          rfl
    · simp only [if_neg q]
theorem vw_takeNumber (h : vx_H) (sz x : Nat) (s : vw_Sh) (hx : 30 ≤ x) (u : hSh h x s) {i n p : Nat} (r : hR h x i n p) (hin : i + n ≤ s.2.1) (hp : p ≤ n) (lo hi : Nat) (h1 : lo ≤ 99) (h2 : hi ≤ 99) : vx_Ok m_Tr_takeNumber [.ref 2, .int (nI lo), .int (nI hi)] sz h (fun r h' => r = some (.int (oI (p_num (tx s i) n lo hi p).1)) ∧ h' = atR h x i n (p_num (tx s i) n lo hi p).2) := by
  rw [p_num_eq]
  refine ok_Tr_takeNumber [some (.ref 2), some (.int (nI lo)), some (.int (nI hi)), none] (Nat.le_of_ble_eq_true rfl) rfl (fun lim z X hX => ?_)
  have r0 := r
  unfold hR at r
  refine vx_go hX [] 9 ?_
  simp only [e_nil, e_iconst, e_bipush, e_sipush, e_lconst, e_ldc_w, e_ldc2_w, e_iload, e_iload_n, e_lload, e_lload_n, e_aload, e_aload_n, e_istore, e_istore_n, e_astore, e_astore_n, e_lstore, e_iinc, e_iadd, e_isub, e_imul, e_iand, e_ior, e_ishl, e_ishr, e_iushr, e_idiv, e_irem, e_ldiv, e_lrem, e_ineg, e_lshl, e_lcmp, e_i2l, e_i2b, e_i2s, e_dup_i, e_dup_r, e_dup2, e_if_eq, e_if_ne, e_if_lt, e_if_ge, e_if_gt, e_if_le, e_icmp_eq, e_icmp_ne, e_icmp_lt, e_icmp_ge, e_icmp_gt, e_icmp_le, e_ifnull_r, e_ifnull_n, e_goto, e_tsw, e_lsw, e_getf, e_puti, e_putz, e_puta, e_new, e_newa, e_anew, e_iald, e_sald, e_iast, e_aald, e_aast, e_alen, e_slen, e_inv, e_acp, e_min, e_max, e_abs, e_ins, e_oinit, e_inx, e_iret, e_lret, e_vret, vx_run_s, List.getElem?_cons_succ, List.getElem?_cons_zero, List.set_cons_succ, List.set_cons_zero, List.mem_cons, List.not_mem_nil, or_false, false_or, if_true, if_false, ite_true, ite_false, ↓reduceIte, reduceCtorEq, List.take_succ_cons, List.take_zero, List.drop_succ_cons, List.drop_zero, List.reverse_cons, List.reverse_nil, List.nil_append, List.cons_append, List.append_nil, List.length_cons, List.length_nil, Option.toList_some, Option.toList_none, vx_nl, vx_isob, true_and, and_true, Nat.reduceAdd, Nat.reduceEqDiff, Nat.reduceLeDiff, Nat.zero_add, Nat.add_zero, not_false_eq_true, not_true_eq_false, Nat.reduceLT, Nat.reduceMul, Nat.reduceSub, Nat.zero_le, vx_up_s, false_implies, true_implies, forall_const, implies_true, imp_self, Nat.le_refl, forall_eq, forall_eq_apply_imp_iff, and_imp, exists_and_left, exists_eq_left, Nat.one_ne_zero, eq_self, true_or, or_true, Option.some.injEq, Value.int.injEq, Value.long.injEq, bk_Tr_takeNumber_0, bk_Tr_takeNumber_18, bk_Tr_takeNumber_26, r]
  refine vx_cl1 (vw_takeDigit h _ x s u r0 hin hp lo hi 0 10 h1 h2 (by decide) (by decide) (by decide)) ?_
  cases e : p_d1 (tx s i) n p lo hi 0 10 with
  | none =>
    simp only [e_nil, e_iconst, e_bipush, e_sipush, e_lconst, e_ldc_w, e_ldc2_w, e_iload, e_iload_n, e_lload, e_lload_n, e_aload, e_aload_n, e_istore, e_istore_n, e_astore, e_astore_n, e_lstore, e_iinc, e_iadd, e_isub, e_imul, e_iand, e_ior, e_ishl, e_ishr, e_iushr, e_idiv, e_irem, e_ldiv, e_lrem, e_ineg, e_lshl, e_lcmp, e_i2l, e_i2b, e_i2s, e_dup_i, e_dup_r, e_dup2, e_if_eq, e_if_ne, e_if_lt, e_if_ge, e_if_gt, e_if_le, e_icmp_eq, e_icmp_ne, e_icmp_lt, e_icmp_ge, e_icmp_gt, e_icmp_le, e_ifnull_r, e_ifnull_n, e_goto, e_tsw, e_lsw, e_getf, e_puti, e_putz, e_puta, e_new, e_newa, e_anew, e_iald, e_sald, e_iast, e_aald, e_aast, e_alen, e_slen, e_inv, e_acp, e_min, e_max, e_abs, e_ins, e_oinit, e_inx, e_iret, e_lret, e_vret, vx_run_s, List.getElem?_cons_succ, List.getElem?_cons_zero, List.set_cons_succ, List.set_cons_zero, List.mem_cons, List.not_mem_nil, or_false, false_or, if_true, if_false, ite_true, ite_false, ↓reduceIte, reduceCtorEq, List.take_succ_cons, List.take_zero, List.drop_succ_cons, List.drop_zero, List.reverse_cons, List.reverse_nil, List.nil_append, List.cons_append, List.append_nil, List.length_cons, List.length_nil, Option.toList_some, Option.toList_none, vx_nl, vx_isob, true_and, and_true, Nat.reduceAdd, Nat.reduceEqDiff, Nat.reduceLeDiff, Nat.zero_add, Nat.add_zero, not_false_eq_true, not_true_eq_false, Nat.reduceLT, Nat.reduceMul, Nat.reduceSub, Nat.zero_le, vx_up_s, false_implies, true_implies, forall_const, implies_true, imp_self, Nat.le_refl, forall_eq, forall_eq_apply_imp_iff, and_imp, exists_and_left, exists_eq_left, Nat.one_ne_zero, eq_self, true_or, or_true, Option.some.injEq, Value.int.injEq, Value.long.injEq, bk_Tr_takeNumber_0, bk_Tr_takeNumber_18, bk_Tr_takeNumber_26, oI, Option.isSome_none, Bool.false_eq_true]
    exact fun q => absurd q (by decide)
  | some t =>
    obtain ⟨hpn, d, hd, e1, -⟩ := p_d1_some e
    have r1 := hR.at h x i n (p + 1)
    have r2 := r1
    unfold hR at r2
    simp only [e_nil, e_iconst, e_bipush, e_sipush, e_lconst, e_ldc_w, e_ldc2_w, e_iload, e_iload_n, e_lload, e_lload_n, e_aload, e_aload_n, e_istore, e_istore_n, e_astore, e_astore_n, e_lstore, e_iinc, e_iadd, e_isub, e_imul, e_iand, e_ior, e_ishl, e_ishr, e_iushr, e_idiv, e_irem, e_ldiv, e_lrem, e_ineg, e_lshl, e_lcmp, e_i2l, e_i2b, e_i2s, e_dup_i, e_dup_r, e_dup2, e_if_eq, e_if_ne, e_if_lt, e_if_ge, e_if_gt, e_if_le, e_icmp_eq, e_icmp_ne, e_icmp_lt, e_icmp_ge, e_icmp_gt, e_icmp_le, e_ifnull_r, e_ifnull_n, e_goto, e_tsw, e_lsw, e_getf, e_puti, e_putz, e_puta, e_new, e_newa, e_anew, e_iald, e_sald, e_iast, e_aald, e_aast, e_alen, e_slen, e_inv, e_acp, e_min, e_max, e_abs, e_ins, e_oinit, e_inx, e_iret, e_lret, e_vret, vx_run_s, List.getElem?_cons_succ, List.getElem?_cons_zero, List.set_cons_succ, List.set_cons_zero, List.mem_cons, List.not_mem_nil, or_false, false_or, if_true, if_false, ite_true, ite_false, ↓reduceIte, reduceCtorEq, List.take_succ_cons, List.take_zero, List.drop_succ_cons, List.drop_zero, List.reverse_cons, List.reverse_nil, List.nil_append, List.cons_append, List.append_nil, List.length_cons, List.length_nil, Option.toList_some, Option.toList_none, vx_nl, vx_isob, true_and, and_true, Nat.reduceAdd, Nat.reduceEqDiff, Nat.reduceLeDiff, Nat.zero_add, Nat.add_zero, not_false_eq_true, not_true_eq_false, Nat.reduceLT, Nat.reduceMul, Nat.reduceSub, Nat.zero_le, vx_up_s, false_implies, true_implies, forall_const, implies_true, imp_self, Nat.le_refl, forall_eq, forall_eq_apply_imp_iff, and_imp, exists_and_left, exists_eq_left, Nat.one_ne_zero, eq_self, true_or, or_true, Option.some.injEq, Value.int.injEq, Value.long.injEq, bk_Tr_takeNumber_0, bk_Tr_takeNumber_18, bk_Tr_takeNumber_26, r2, oI, Option.isSome_some]
    refine ⟨fun _ => ?_, fun q => absurd (nI_pos' (by omega)) q⟩
    refine ⟨_, vw_takeDigit _ _ x s (u.at hx x i n (p + 1)) r1 hin hpn lo hi t 1 h1 h2 (by omega) (by decide) (by decide), ?_⟩
    rintro _ _ ⟨rfl, rfl⟩
    simp only [e_nil, e_iconst, e_bipush, e_sipush, e_lconst, e_ldc_w, e_ldc2_w, e_iload, e_iload_n, e_lload, e_lload_n, e_aload, e_aload_n, e_istore, e_istore_n, e_astore, e_astore_n, e_lstore, e_iinc, e_iadd, e_isub, e_imul, e_iand, e_ior, e_ishl, e_ishr, e_iushr, e_idiv, e_irem, e_ldiv, e_lrem, e_ineg, e_lshl, e_lcmp, e_i2l, e_i2b, e_i2s, e_dup_i, e_dup_r, e_dup2, e_if_eq, e_if_ne, e_if_lt, e_if_ge, e_if_gt, e_if_le, e_icmp_eq, e_icmp_ne, e_icmp_lt, e_icmp_ge, e_icmp_gt, e_icmp_le, e_ifnull_r, e_ifnull_n, e_goto, e_tsw, e_lsw, e_getf, e_puti, e_putz, e_puta, e_new, e_newa, e_anew, e_iald, e_sald, e_iast, e_aald, e_aast, e_alen, e_slen, e_inv, e_acp, e_min, e_max, e_abs, e_ins, e_oinit, e_inx, e_iret, e_lret, e_vret, vx_run_s, List.getElem?_cons_succ, List.getElem?_cons_zero, List.set_cons_succ, List.set_cons_zero, List.mem_cons, List.not_mem_nil, or_false, false_or, if_true, if_false, ite_true, ite_false, ↓reduceIte, reduceCtorEq, List.take_succ_cons, List.take_zero, List.drop_succ_cons, List.drop_zero, List.reverse_cons, List.reverse_nil, List.nil_append, List.cons_append, List.append_nil, List.length_cons, List.length_nil, Option.toList_some, Option.toList_none, vx_nl, vx_isob, true_and, and_true, Nat.reduceAdd, Nat.reduceEqDiff, Nat.reduceLeDiff, Nat.zero_add, Nat.add_zero, not_false_eq_true, not_true_eq_false, Nat.reduceLT, Nat.reduceMul, Nat.reduceSub, Nat.zero_le, vx_up_s, false_implies, true_implies, forall_const, implies_true, imp_self, Nat.le_refl, forall_eq, forall_eq_apply_imp_iff, and_imp, exists_and_left, exists_eq_left, Nat.one_ne_zero, eq_self, true_or, or_true, Option.some.injEq, Value.int.injEq, Value.long.injEq, bk_Tr_takeNumber_0, bk_Tr_takeNumber_18, bk_Tr_takeNumber_26]
    rw [atR_at]
    exact ⟨rfl, rfl⟩
