/-! VoteWalls: visit, failed, as -/
section RVX
variable {h h' : vx_H} {Y : vw_Y} {law : Int32} {L S R : vw_T} {tr fa : Int32} {SH : Nat → vw_Sh}
def a_visit (Y : vw_Y) (p : Int32) : Int32 := if 0 ≤ p ∧ p < nI (yN Y) then (if yK Y p.toNatClampNeg = 2 then 90 else p) else -1
def s_visit (Y : vw_Y) (tr p : Int32) : Int32 := if 0 ≤ p ∧ p < nI (yN Y) then (if yK Y p.toNatClampNeg = 2 then 31 * tr + 5 else 31 * tr + 4) else tr
theorem vw_visit (sz : Nat) (u : RV h Y law L S R tr fa SH) (o : SOk Y law L S R) (p : Int32) : vx_Ok m_V_visit [.ref 0, .int p] sz h (fun r h' => r = some (.int (a_visit Y p)) ∧ RV h' Y law L S R (s_visit Y tr p) fa SH ∧ vf 0 37 h h') := by
  refine ok_V_visit [some (.ref 0), some (.int p)] (Nat.le_of_ble_eq_true rfl) rfl (fun lim z X hX => ?_)
  have u0 := u
  obtain ⟨yq, uq⟩ := u.q o
  obtain ⟨y, y', t0, u1, u2, u3, u4, u5, u6, u7, u8, u9, ⟨fg, fk, fp, d0, d1, d2, d3, d4, d5, d6, d7⟩, u11, u12⟩ := u
  unfold hV at u1
  have hN := o.1.2.1
  refine vx_go hX [] 9 ?_
  simp only [e_nil, e_iconst, e_bipush, e_sipush, e_lconst, e_ldc_w, e_ldc2_w, e_iload, e_iload_n, e_lload, e_lload_n, e_aload, e_aload_n, e_istore, e_istore_n, e_astore, e_astore_n, e_lstore, e_iinc, e_iadd, e_isub, e_imul, e_iand, e_ior, e_ishl, e_ishr, e_iushr, e_idiv, e_irem, e_ldiv, e_lrem, e_ineg, e_lshl, e_lcmp, e_i2l, e_i2b, e_i2s, e_dup_i, e_dup_r, e_dup2, e_if_eq, e_if_ne, e_if_lt, e_if_ge, e_if_gt, e_if_le, e_icmp_eq, e_icmp_ne, e_icmp_lt, e_icmp_ge, e_icmp_gt, e_icmp_le, e_ifnull_r, e_ifnull_n, e_goto, e_tsw, e_lsw, e_getf, e_puti, e_putz, e_puta, e_new, e_newa, e_anew, e_iald, e_sald, e_iast, e_aald, e_aast, e_alen, e_slen, e_inv, e_acp, e_min, e_max, e_abs, e_ins, e_oinit, e_inx, e_iret, e_lret, e_vret, vx_run_s, List.getElem?_cons_succ, List.getElem?_cons_zero, List.set_cons_succ, List.set_cons_zero, List.mem_cons, List.not_mem_nil, or_false, false_or, if_true, if_false, ite_true, ite_false, ↓reduceIte, reduceCtorEq, List.take_succ_cons, List.take_zero, List.drop_succ_cons, List.drop_zero, List.reverse_cons, List.reverse_nil, List.nil_append, List.cons_append, List.append_nil, List.length_cons, List.length_nil, Option.toList_some, Option.toList_none, vx_nl, vx_isob, true_and, and_true, Nat.reduceAdd, Nat.reduceEqDiff, Nat.reduceLeDiff, Nat.zero_add, Nat.add_zero, not_false_eq_true, not_true_eq_false, Nat.reduceLT, Nat.reduceMul, Nat.reduceSub, Nat.zero_le, vx_up_s, false_implies, true_implies, forall_const, implies_true, imp_self, Nat.le_refl, forall_eq, forall_eq_apply_imp_iff, and_imp, exists_and_left, exists_eq_left, Nat.one_ne_zero, eq_self, true_or, or_true, Option.some.injEq, Value.int.injEq, Value.long.injEq, bk_V_visit_0, bk_V_visit_10, bk_V_visit_31, u1]
  refine vx_cl1 (vw_isPrisoner h _ uq p) ?_
  simp only [e_nil, e_iconst, e_bipush, e_sipush, e_lconst, e_ldc_w, e_ldc2_w, e_iload, e_iload_n, e_lload, e_lload_n, e_aload, e_aload_n, e_istore, e_istore_n, e_astore, e_astore_n, e_lstore, e_iinc, e_iadd, e_isub, e_imul, e_iand, e_ior, e_ishl, e_ishr, e_iushr, e_idiv, e_irem, e_ldiv, e_lrem, e_ineg, e_lshl, e_lcmp, e_i2l, e_i2b, e_i2s, e_dup_i, e_dup_r, e_dup2, e_if_eq, e_if_ne, e_if_lt, e_if_ge, e_if_gt, e_if_le, e_icmp_eq, e_icmp_ne, e_icmp_lt, e_icmp_ge, e_icmp_gt, e_icmp_le, e_ifnull_r, e_ifnull_n, e_goto, e_tsw, e_lsw, e_getf, e_puti, e_putz, e_puta, e_new, e_newa, e_anew, e_iald, e_sald, e_iast, e_aald, e_aast, e_alen, e_slen, e_inv, e_acp, e_min, e_max, e_abs, e_ins, e_oinit, e_inx, e_iret, e_lret, e_vret, vx_run_s, List.getElem?_cons_succ, List.getElem?_cons_zero, List.set_cons_succ, List.set_cons_zero, List.mem_cons, List.not_mem_nil, or_false, false_or, if_true, if_false, ite_true, ite_false, ↓reduceIte, reduceCtorEq, List.take_succ_cons, List.take_zero, List.drop_succ_cons, List.drop_zero, List.reverse_cons, List.reverse_nil, List.nil_append, List.cons_append, List.append_nil, List.length_cons, List.length_nil, Option.toList_some, Option.toList_none, vx_nl, vx_isob, true_and, and_true, Nat.reduceAdd, Nat.reduceEqDiff, Nat.reduceLeDiff, Nat.zero_add, Nat.add_zero, not_false_eq_true, not_true_eq_false, Nat.reduceLT, Nat.reduceMul, Nat.reduceSub, Nat.zero_le, vx_up_s, false_implies, true_implies, forall_const, implies_true, imp_self, Nat.le_refl, forall_eq, forall_eq_apply_imp_iff, and_imp, exists_and_left, exists_eq_left, Nat.one_ne_zero, eq_self, true_or, or_true, Option.some.injEq, Value.int.injEq, Value.long.injEq, bk_V_visit_0, bk_V_visit_10, bk_V_visit_31, vx_bI_0, u1, d1, d3, vx_sel]
  unfold a_visit s_visit
  refine ⟨fun q => ?_, fun q => ⟨by rw [if_neg q], by rw [if_neg q]; exact u0, vf.rf⟩⟩
  rw [Classical.not_not] at q
  rw [if_pos q, if_pos q]
  obtain ⟨i, hi, rfl, e1⟩ := nI_arg (by omega) q
  rw [e1, d6 i hi]
  refine ⟨vp_in_nI (by omega) (by decide), ?_⟩
  have hk2 := (o.1.2.2.2.1 i hi).2
  by_cases k2 : yK Y i = 2
  · rw [k2]
    refine ⟨fun g => absurd rfl g, fun _ => ?_⟩
    rw [if_pos rfl, if_pos rfl]
    refine ⟨_, vw_leave _ u0 _, ?_⟩
    rintro _ ha ⟨rfl, ua, va⟩
    simp only [e_nil, e_iconst, e_bipush, e_sipush, e_lconst, e_ldc_w, e_ldc2_w, e_iload, e_iload_n, e_lload, e_lload_n, e_aload, e_aload_n, e_istore, e_istore_n, e_astore, e_astore_n, e_lstore, e_iinc, e_iadd, e_isub, e_imul, e_iand, e_ior, e_ishl, e_ishr, e_iushr, e_idiv, e_irem, e_ldiv, e_lrem, e_ineg, e_lshl, e_lcmp, e_i2l, e_i2b, e_i2s, e_dup_i, e_dup_r, e_dup2, e_if_eq, e_if_ne, e_if_lt, e_if_ge, e_if_gt, e_if_le, e_icmp_eq, e_icmp_ne, e_icmp_lt, e_icmp_ge, e_icmp_gt, e_icmp_le, e_ifnull_r, e_ifnull_n, e_goto, e_tsw, e_lsw, e_getf, e_puti, e_putz, e_puta, e_new, e_newa, e_anew, e_iald, e_sald, e_iast, e_aald, e_aast, e_alen, e_slen, e_inv, e_acp, e_min, e_max, e_abs, e_ins, e_oinit, e_inx, e_iret, e_lret, e_vret, vx_run_s, List.getElem?_cons_succ, List.getElem?_cons_zero, List.set_cons_succ, List.set_cons_zero, List.mem_cons, List.not_mem_nil, or_false, false_or, if_true, if_false, ite_true, ite_false, ↓reduceIte, reduceCtorEq, List.take_succ_cons, List.take_zero, List.drop_succ_cons, List.drop_zero, List.reverse_cons, List.reverse_nil, List.nil_append, List.cons_append, List.append_nil, List.length_cons, List.length_nil, Option.toList_some, Option.toList_none, vx_nl, vx_isob, true_and, and_true, Nat.reduceAdd, Nat.reduceEqDiff, Nat.reduceLeDiff, Nat.zero_add, Nat.add_zero, not_false_eq_true, not_true_eq_false, Nat.reduceLT, Nat.reduceMul, Nat.reduceSub, Nat.zero_le, vx_up_s, false_implies, true_implies, forall_const, implies_true, imp_self, Nat.le_refl, forall_eq, forall_eq_apply_imp_iff, and_imp, exists_and_left, exists_eq_left, Nat.one_ne_zero, eq_self, true_or, or_true, Option.some.injEq, Value.int.injEq, Value.long.injEq, bk_V_visit_0, bk_V_visit_10, bk_V_visit_31]
    exact ⟨ua, va⟩
  · have k3 : ¬ nI (yK Y i) = 2 := nI_lit (b := 2) k2 (by omega) (by decide)
    refine ⟨fun _ => ?_, fun g => absurd g k3⟩
    rw [if_neg k2, if_neg k2]
    refine ⟨_, vw_leave _ u0 _, ?_⟩
    rintro _ ha ⟨rfl, ua, va⟩
    simp only [e_nil, e_iconst, e_bipush, e_sipush, e_lconst, e_ldc_w, e_ldc2_w, e_iload, e_iload_n, e_lload, e_lload_n, e_aload, e_aload_n, e_istore, e_istore_n, e_astore, e_astore_n, e_lstore, e_iinc, e_iadd, e_isub, e_imul, e_iand, e_ior, e_ishl, e_ishr, e_iushr, e_idiv, e_irem, e_ldiv, e_lrem, e_ineg, e_lshl, e_lcmp, e_i2l, e_i2b, e_i2s, e_dup_i, e_dup_r, e_dup2, e_if_eq, e_if_ne, e_if_lt, e_if_ge, e_if_gt, e_if_le, e_icmp_eq, e_icmp_ne, e_icmp_lt, e_icmp_ge, e_icmp_gt, e_icmp_le, e_ifnull_r, e_ifnull_n, e_goto, e_tsw, e_lsw, e_getf, e_puti, e_putz, e_puta, e_new, e_newa, e_anew, e_iald, e_sald, e_iast, e_aald, e_aast, e_alen, e_slen, e_inv, e_acp, e_min, e_max, e_abs, e_ins, e_oinit, e_inx, e_iret, e_lret, e_vret, vx_run_s, List.getElem?_cons_succ, List.getElem?_cons_zero, List.set_cons_succ, List.set_cons_zero, List.mem_cons, List.not_mem_nil, or_false, false_or, if_true, if_false, ite_true, ite_false, ↓reduceIte, reduceCtorEq, List.take_succ_cons, List.take_zero, List.drop_succ_cons, List.drop_zero, List.reverse_cons, List.reverse_nil, List.nil_append, List.cons_append, List.append_nil, List.length_cons, List.length_nil, Option.toList_some, Option.toList_none, vx_nl, vx_isob, true_and, and_true, Nat.reduceAdd, Nat.reduceEqDiff, Nat.reduceLeDiff, Nat.zero_add, Nat.add_zero, not_false_eq_true, not_true_eq_false, Nat.reduceLT, Nat.reduceMul, Nat.reduceSub, Nat.zero_le, vx_up_s, false_implies, true_implies, forall_const, implies_true, imp_self, Nat.le_refl, forall_eq, forall_eq_apply_imp_iff, and_imp, exists_and_left, exists_eq_left, Nat.one_ne_zero, eq_self, true_or, or_true, Option.some.injEq, Value.int.injEq, Value.long.injEq, bk_V_visit_0, bk_V_visit_10, bk_V_visit_31]
    exact ⟨ua, va⟩
/-- FAULT changes alone -/
theorem RV.fa' (u : RV h Y law L S R tr fa SH) {y y' : Nat} (w : hV h y y' law tr fa) (fa2 : Int32) : RV (vx_up h 0 (.inr (.inr (6, [.ref 1, .ref 2, .ref 3, .ref 7, .ref 11, .ref 15, .ref 18, .ref y, .ref y', .int law, .int tr, .int fa2])))) Y law L S R tr fa2 SH := by
  refine u.own (vf.up (by omega) (by omega)) (fun a b q => ?_)
  obtain ⟨rfl, rfl, -⟩ := hV.same q w
  exact vx_up_s _ _ _
theorem vw_failed (sz : Nat) (u : RV h Y law L S R tr fa SH) (n : Int32) : vx_Ok m_V_failed [.ref 0, .int n] sz h (fun r h' => r = some (.int (-10 - n)) ∧ RV h' Y law L S R tr n SH ∧ vf 0 0 h h') := by
  refine ok_V_failed [some (.ref 0), some (.int n)] (Nat.le_of_ble_eq_true rfl) rfl (fun lim z X hX => ?_)
  have u0 := u
  obtain ⟨y, y', t0, u1, -⟩ := u
  have v1 := u1
  unfold hV at u1
  refine vx_go hX [] 9 ?_
  simp only [e_nil, e_iconst, e_bipush, e_sipush, e_lconst, e_ldc_w, e_ldc2_w, e_iload, e_iload_n, e_lload, e_lload_n, e_aload, e_aload_n, e_istore, e_istore_n, e_astore, e_astore_n, e_lstore, e_iinc, e_iadd, e_isub, e_imul, e_iand, e_ior, e_ishl, e_ishr, e_iushr, e_idiv, e_irem, e_ldiv, e_lrem, e_ineg, e_lshl, e_lcmp, e_i2l, e_i2b, e_i2s, e_dup_i, e_dup_r, e_dup2, e_if_eq, e_if_ne, e_if_lt, e_if_ge, e_if_gt, e_if_le, e_icmp_eq, e_icmp_ne, e_icmp_lt, e_icmp_ge, e_icmp_gt, e_icmp_le, e_ifnull_r, e_ifnull_n, e_goto, e_tsw, e_lsw, e_getf, e_puti, e_putz, e_puta, e_new, e_newa, e_anew, e_iald, e_sald, e_iast, e_aald, e_aast, e_alen, e_slen, e_inv, e_acp, e_min, e_max, e_abs, e_ins, e_oinit, e_inx, e_iret, e_lret, e_vret, vx_run_s, List.getElem?_cons_succ, List.getElem?_cons_zero, List.set_cons_succ, List.set_cons_zero, List.mem_cons, List.not_mem_nil, or_false, false_or, if_true, if_false, ite_true, ite_false, ↓reduceIte, reduceCtorEq, List.take_succ_cons, List.take_zero, List.drop_succ_cons, List.drop_zero, List.reverse_cons, List.reverse_nil, List.nil_append, List.cons_append, List.append_nil, List.length_cons, List.length_nil, Option.toList_some, Option.toList_none, vx_nl, vx_isob, true_and, and_true, Nat.reduceAdd, Nat.reduceEqDiff, Nat.reduceLeDiff, Nat.zero_add, Nat.add_zero, not_false_eq_true, not_true_eq_false, Nat.reduceLT, Nat.reduceMul, Nat.reduceSub, Nat.zero_le, vx_up_s, false_implies, true_implies, forall_const, implies_true, imp_self, Nat.le_refl, forall_eq, forall_eq_apply_imp_iff, and_imp, exists_and_left, exists_eq_left, Nat.one_ne_zero, eq_self, true_or, or_true, Option.some.injEq, Value.int.injEq, Value.long.injEq, bk_V_failed_0, u1]
  exact ⟨u0.fa' v1 _, vf.up (by omega) (by omega)⟩
def a_as (Y : vw_Y) (p k : Int32) : Int32 := if 0 ≤ p ∧ p < nI (yN Y) then (if 0 ≤ k ∧ k ≤ 2 then (if nI (yK Y p.toNatClampNeg) < k then -12 else 1) else -2) else -1
def f_as (Y : vw_Y) (p k : Int32) : Int32 := if 0 ≤ p ∧ p < nI (yN Y) then (if 0 ≤ k ∧ k ≤ 2 then (if nI (yK Y p.toNatClampNeg) < k then 2 else 0) else 0) else 0
theorem vw_as (sz : Nat) (u : RV h Y law L S R tr fa SH) (o : SOk Y law L S R) (p k : Int32) : vx_Ok m_V_as [.ref 0, .int p, .int k] sz h (fun r h' => r = some (.int (a_as Y p k)) ∧ RV h' Y law L S R tr (f_as Y p k) SH ∧ vf 0 37 h h') := by
  refine ok_V_as [some (.ref 0), some (.int p), some (.int k)] (Nat.le_of_ble_eq_true rfl) rfl (fun lim z X hX => ?_)
  obtain ⟨y, y', t0, u1, u2⟩ := id u
  have v1 := u1
  unfold hV at u1
  have w := u.fa' v1 0
  refine vx_go hX [] 9 ?_
  simp only [e_nil, e_iconst, e_bipush, e_sipush, e_lconst, e_ldc_w, e_ldc2_w, e_iload, e_iload_n, e_lload, e_lload_n, e_aload, e_aload_n, e_istore, e_istore_n, e_astore, e_astore_n, e_lstore, e_iinc, e_iadd, e_isub, e_imul, e_iand, e_ior, e_ishl, e_ishr, e_iushr, e_idiv, e_irem, e_ldiv, e_lrem, e_ineg, e_lshl, e_lcmp, e_i2l, e_i2b, e_i2s, e_dup_i, e_dup_r, e_dup2, e_if_eq, e_if_ne, e_if_lt, e_if_ge, e_if_gt, e_if_le, e_icmp_eq, e_icmp_ne, e_icmp_lt, e_icmp_ge, e_icmp_gt, e_icmp_le, e_ifnull_r, e_ifnull_n, e_goto, e_tsw, e_lsw, e_getf, e_puti, e_putz, e_puta, e_new, e_newa, e_anew, e_iald, e_sald, e_iast, e_aald, e_aast, e_alen, e_slen, e_inv, e_acp, e_min, e_max, e_abs, e_ins, e_oinit, e_inx, e_iret, e_lret, e_vret, vx_run_s, List.getElem?_cons_succ, List.getElem?_cons_zero, List.set_cons_succ, List.set_cons_zero, List.mem_cons, List.not_mem_nil, or_false, false_or, if_true, if_false, ite_true, ite_false, ↓reduceIte, reduceCtorEq, List.take_succ_cons, List.take_zero, List.drop_succ_cons, List.drop_zero, List.reverse_cons, List.reverse_nil, List.nil_append, List.cons_append, List.append_nil, List.length_cons, List.length_nil, Option.toList_some, Option.toList_none, vx_nl, vx_isob, true_and, and_true, Nat.reduceAdd, Nat.reduceEqDiff, Nat.reduceLeDiff, Nat.zero_add, Nat.add_zero, not_false_eq_true, not_true_eq_false, Nat.reduceLT, Nat.reduceMul, Nat.reduceSub, Nat.zero_le, vx_up_s, false_implies, true_implies, forall_const, implies_true, imp_self, Nat.le_refl, forall_eq, forall_eq_apply_imp_iff, and_imp, exists_and_left, exists_eq_left, Nat.one_ne_zero, eq_self, true_or, or_true, Option.some.injEq, Value.int.injEq, Value.long.injEq, bk_V_as_0, bk_V_as_15, bk_V_as_24, bk_V_as_27, bk_V_as_48, bk_V_as_49, u1]
  have vf0 : vf 0 37 h (vx_up h 0 (.inr (.inr (6, [.ref 1, .ref 2, .ref 3, .ref 7, .ref 11, .ref 15, .ref 18, .ref y, .ref y', .int law, .int tr, .int 0])))) := vf.up (by omega) (by omega)
  have wv : hV (vx_up h 0 (.inr (.inr (6, [.ref 1, .ref 2, .ref 3, .ref 7, .ref 11, .ref 15, .ref 18, .ref y, .ref y', .int law, .int tr, .int 0])))) y y' law tr 0 := vx_up_s _ _ _
  generalize (vx_up h 0 (.inr (.inr (6, [.ref 1, .ref 2, .ref 3, .ref 7, .ref 11, .ref 15, .ref 18, .ref y, .ref y', .int law, .int tr, .int 0])))) = g at w vf0 wv ⊢
  obtain ⟨yq, uq⟩ := w.q o
  obtain ⟨z1, z2, t1, x1, x2, x3, x4, x5, x6, x7, x8, x9, ⟨fg, fk, fp, d0, d1, d2, d3, d4, d5, d6, d7⟩, x11, x12⟩ := id w
  obtain ⟨rfl, rfl, -⟩ := hV.same x1 wv
  unfold hV at x1
  have hN := o.1.2.1
  refine vx_cl1 (vw_isPrisoner g _ uq p) ?_
  simp only [e_nil, e_iconst, e_bipush, e_sipush, e_lconst, e_ldc_w, e_ldc2_w, e_iload, e_iload_n, e_lload, e_lload_n, e_aload, e_aload_n, e_istore, e_istore_n, e_astore, e_astore_n, e_lstore, e_iinc, e_iadd, e_isub, e_imul, e_iand, e_ior, e_ishl, e_ishr, e_iushr, e_idiv, e_irem, e_ldiv, e_lrem, e_ineg, e_lshl, e_lcmp, e_i2l, e_i2b, e_i2s, e_dup_i, e_dup_r, e_dup2, e_if_eq, e_if_ne, e_if_lt, e_if_ge, e_if_gt, e_if_le, e_icmp_eq, e_icmp_ne, e_icmp_lt, e_icmp_ge, e_icmp_gt, e_icmp_le, e_ifnull_r, e_ifnull_n, e_goto, e_tsw, e_lsw, e_getf, e_puti, e_putz, e_puta, e_new, e_newa, e_anew, e_iald, e_sald, e_iast, e_aald, e_aast, e_alen, e_slen, e_inv, e_acp, e_min, e_max, e_abs, e_ins, e_oinit, e_inx, e_iret, e_lret, e_vret, vx_run_s, List.getElem?_cons_succ, List.getElem?_cons_zero, List.set_cons_succ, List.set_cons_zero, List.mem_cons, List.not_mem_nil, or_false, false_or, if_true, if_false, ite_true, ite_false, ↓reduceIte, reduceCtorEq, List.take_succ_cons, List.take_zero, List.drop_succ_cons, List.drop_zero, List.reverse_cons, List.reverse_nil, List.nil_append, List.cons_append, List.append_nil, List.length_cons, List.length_nil, Option.toList_some, Option.toList_none, vx_nl, vx_isob, true_and, and_true, Nat.reduceAdd, Nat.reduceEqDiff, Nat.reduceLeDiff, Nat.zero_add, Nat.add_zero, not_false_eq_true, not_true_eq_false, Nat.reduceLT, Nat.reduceMul, Nat.reduceSub, Nat.zero_le, vx_up_s, false_implies, true_implies, forall_const, implies_true, imp_self, Nat.le_refl, forall_eq, forall_eq_apply_imp_iff, and_imp, exists_and_left, exists_eq_left, Nat.one_ne_zero, eq_self, true_or, or_true, Option.some.injEq, Value.int.injEq, Value.long.injEq, bk_V_as_0, bk_V_as_15, bk_V_as_24, bk_V_as_27, bk_V_as_48, bk_V_as_49, vx_bI_0, x1, d1, d3, vx_sel]
  unfold a_as f_as
  refine ⟨fun q => ?_, fun q => ⟨by rw [if_neg q], by rw [if_neg q]; exact w, vf0⟩⟩
  rw [Classical.not_not] at q
  rw [if_pos q, if_pos q]
  obtain ⟨i, hi, rfl, e1⟩ := nI_arg (by omega) q
  rw [e1, d6 i hi]
  refine ⟨fun q2 => ?_, fun q2 => ⟨fun q3 => ⟨vp_in_nI (by omega) (by decide), fun q4 => ?_, fun q4 => ?_⟩, fun q3 => ?_⟩⟩
  · have hc : ¬ (0 ≤ k ∧ k ≤ 2) := fun c => absurd q2 (Int32.not_lt.mpr c.1)
    rw [if_neg hc, if_neg hc]
    exact ⟨rfl, w, vf0⟩
  · have hc : 0 ≤ k ∧ k ≤ 2 := ⟨Int32.not_lt.mp q2, q3⟩
    rw [if_pos hc, if_pos hc, if_neg (Int32.not_lt.mpr q4), if_neg (Int32.not_lt.mpr q4)]
    exact ⟨rfl, w, vf0⟩
  · have hc : 0 ≤ k ∧ k ≤ 2 := ⟨Int32.not_lt.mp q2, q3⟩
    rw [if_pos hc, if_pos hc, if_pos (Int32.not_le.mp q4), if_pos (Int32.not_le.mp q4)]
    refine ⟨_, vw_failed _ w _, ?_⟩
    rintro _ ha ⟨rfl, ua, va⟩
    simp only [e_nil, e_iconst, e_bipush, e_sipush, e_lconst, e_ldc_w, e_ldc2_w, e_iload, e_iload_n, e_lload, e_lload_n, e_aload, e_aload_n, e_istore, e_istore_n, e_astore, e_astore_n, e_lstore, e_iinc, e_iadd, e_isub, e_imul, e_iand, e_ior, e_ishl, e_ishr, e_iushr, e_idiv, e_irem, e_ldiv, e_lrem, e_ineg, e_lshl, e_lcmp, e_i2l, e_i2b, e_i2s, e_dup_i, e_dup_r, e_dup2, e_if_eq, e_if_ne, e_if_lt, e_if_ge, e_if_gt, e_if_le, e_icmp_eq, e_icmp_ne, e_icmp_lt, e_icmp_ge, e_icmp_gt, e_icmp_le, e_ifnull_r, e_ifnull_n, e_goto, e_tsw, e_lsw, e_getf, e_puti, e_putz, e_puta, e_new, e_newa, e_anew, e_iald, e_sald, e_iast, e_aald, e_aast, e_alen, e_slen, e_inv, e_acp, e_min, e_max, e_abs, e_ins, e_oinit, e_inx, e_iret, e_lret, e_vret, vx_run_s, List.getElem?_cons_succ, List.getElem?_cons_zero, List.set_cons_succ, List.set_cons_zero, List.mem_cons, List.not_mem_nil, or_false, false_or, if_true, if_false, ite_true, ite_false, ↓reduceIte, reduceCtorEq, List.take_succ_cons, List.take_zero, List.drop_succ_cons, List.drop_zero, List.reverse_cons, List.reverse_nil, List.nil_append, List.cons_append, List.append_nil, List.length_cons, List.length_nil, Option.toList_some, Option.toList_none, vx_nl, vx_isob, true_and, and_true, Nat.reduceAdd, Nat.reduceEqDiff, Nat.reduceLeDiff, Nat.zero_add, Nat.add_zero, not_false_eq_true, not_true_eq_false, Nat.reduceLT, Nat.reduceMul, Nat.reduceSub, Nat.zero_le, vx_up_s, false_implies, true_implies, forall_const, implies_true, imp_self, Nat.le_refl, forall_eq, forall_eq_apply_imp_iff, and_imp, exists_and_left, exists_eq_left, Nat.one_ne_zero, eq_self, true_or, or_true, Option.some.injEq, Value.int.injEq, Value.long.injEq, bk_V_as_0, bk_V_as_15, bk_V_as_24, bk_V_as_27, bk_V_as_48, bk_V_as_49]
    exact ⟨rfl, ua, vf0.tr (va.wk (by omega) (by omega))⟩
  · have hc : ¬ (0 ≤ k ∧ k ≤ 2) := fun c => absurd c.2 q3
    rw [if_neg hc, if_neg hc]
    exact ⟨rfl, w, vf0⟩
end RVX
