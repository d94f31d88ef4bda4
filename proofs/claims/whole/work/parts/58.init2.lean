/-! constructors: a yard -/
theorem vw_Yd_init (h : vx_H) (y : Nat) (hx : h y = some (.inr (.inr (5, vx_df 5)))) : vx_Ok m_Yd_init [.ref y] (y + 1) h (fun r h' => r = none ∧ hYr h' y 0 0 0 (fun _ => 0) (fun _ => 0) (fun _ => 0) ∧ vf y (y + 3) h h') := by
  refine ok_Yd_init [some (.ref y)] (Nat.le_of_ble_eq_true rfl) rfl (fun X hX => ?_)
  have hx2 : h y = some (.inr (.inr (5, [.null, .null, .null, .int 0, .int 0, .int 0]))) := hx
  have n1 : y ≠ y + 1 := by omega
  have n2 : y ≠ y + 1 + 1 := by omega
  have n3 : y ≠ y + 1 + 1 + 1 := by omega
  refine vx_go hX [] 9 ?_
  simp only [e_nil, e_iconst, e_bipush, e_sipush, e_lconst, e_ldc_w, e_ldc2_w, e_iload, e_iload_n, e_lload, e_lload_n, e_aload, e_aload_n, e_istore, e_istore_n, e_astore, e_astore_n, e_lstore, e_iinc, e_iadd, e_isub, e_imul, e_iand, e_ior, e_ishl, e_ishr, e_iushr, e_idiv, e_irem, e_ldiv, e_lrem, e_ineg, e_lshl, e_lcmp, e_i2l, e_i2b, e_i2s, e_dup_i, e_dup_r, e_dup2, e_if_eq, e_if_ne, e_if_lt, e_if_ge, e_if_gt, e_if_le, e_icmp_eq, e_icmp_ne, e_icmp_lt, e_icmp_ge, e_icmp_gt, e_icmp_le, e_ifnull_r, e_ifnull_n, e_goto, e_tsw, e_lsw, e_getf, e_puti, e_putz, e_puta, e_new, e_newa, e_anew, e_iald, e_sald, e_iast, e_aald, e_aast, e_alen, e_slen, e_inv, e_acp, e_min, e_max, e_abs, e_ins, e_oinit, e_inx, e_iret, e_lret, e_vret, vx_run_s, List.getElem?_cons_succ, List.getElem?_cons_zero, List.set_cons_succ, List.set_cons_zero, List.mem_cons, List.not_mem_nil, or_false, false_or, if_true, if_false, ite_true, ite_false, ↓reduceIte, reduceCtorEq, List.take_succ_cons, List.take_zero, List.drop_succ_cons, List.drop_zero, List.reverse_cons, List.reverse_nil, List.nil_append, List.cons_append, List.append_nil, List.length_cons, List.length_nil, Option.toList_some, Option.toList_none, vx_nl, vx_isob, true_and, and_true, Nat.reduceAdd, Nat.reduceEqDiff, Nat.reduceLeDiff, Nat.zero_add, Nat.add_zero, not_false_eq_true, not_true_eq_false, Nat.reduceLT, Nat.reduceMul, Nat.reduceSub, Nat.zero_le, vx_up_s, false_implies, true_implies, forall_const, implies_true, imp_self, Nat.le_refl, forall_eq, forall_eq_apply_imp_iff, and_imp, exists_and_left, exists_eq_left, Nat.one_ne_zero, eq_self, true_or, or_true, Option.some.injEq, Value.int.injEq, Value.long.injEq, bk_Yd_init_0, hx2, vx_up_n _ _ n1, vx_up_n _ _ n2, vx_up_n _ _ n3]
  refine ⟨rfl, by omega, rfl, by omega, rfl, ⟨vx_up_s _ _ _, ?_, ?_, ?_⟩, ?_⟩
  · simp [vx_up_a]
  · simp [vx_up_a]
  · simp [vx_up_a]
  · intro k hk
    simp only [vx_up_a]
    repeat (rw [if_neg (by omega)])
