/-! the reference: its constructor -/
set_option maxRecDepth 100000 in
set_option maxHeartbeats 4000000 in
theorem rv_init (h : vx_H) (hx : h 38 = some (.inr (.inr (7, vx_df 7)))) : vx_Ok m_R_init [.ref 38] 39 h (fun r h' => r = none ∧ RM h' (0, 0, 0, fun _ => 0, fun _ => 0, fun _ => 0) 0 T0 T0 T0 0 0 (fun _ => (-1, 0, fun _ => 0)) ∧ vf 38 57 h h') := by
  refine ok_R_init [some (.ref 38)] (Nat.le_of_ble_eq_true rfl) rfl (fun X hX => ?_)
  have hx2 : h 38 = some (.inr (.inr (7, [.int 0, .int 0, .null, .null, .null, .int 0, .int 0, .int 0, .null, .null, .null, .int 0, .int 0, .int 0, .int 0, .int 0, .null, .null, .null, .int 0, .null, .null, .null, .int 0, .null, .null, .null, .int 0, .int 0, .null, .int 0, .int 0, .null, .null, .null]))) := hx
  have v40 : vp_in 0 4 := (vp_in_nI (n := 0) (by decide) (by decide))
  have v41 : vp_in 1 4 := (vp_in_nI (n := 1) (by decide) (by decide))
  have v42 : vp_in 2 4 := (vp_in_nI (n := 2) (by decide) (by decide))
  have v43 : vp_in 3 4 := (vp_in_nI (n := 3) (by decide) (by decide))
  refine vx_go hX [] 9 ?_
  simp only [e_nil, e_iconst, e_bipush, e_sipush, e_lconst, e_ldc_w, e_ldc2_w, e_iload, e_iload_n, e_lload, e_lload_n, e_aload, e_aload_n, e_istore, e_istore_n, e_astore, e_astore_n, e_lstore, e_iinc, e_iadd, e_isub, e_imul, e_iand, e_ior, e_ishl, e_ishr, e_iushr, e_idiv, e_irem, e_ldiv, e_lrem, e_ineg, e_lshl, e_lcmp, e_i2l, e_i2b, e_i2s, e_dup_i, e_dup_r, e_dup2, e_if_eq, e_if_ne, e_if_lt, e_if_ge, e_if_gt, e_if_le, e_icmp_eq, e_icmp_ne, e_icmp_lt, e_icmp_ge, e_icmp_gt, e_icmp_le, e_ifnull_r, e_ifnull_n, e_goto, e_tsw, e_lsw, e_getf, e_puti, e_putz, e_puta, e_new, e_newa, e_anew, e_iald, e_sald, e_iast, e_aald, e_aast, e_alen, e_slen, e_inv, e_acp, e_min, e_max, e_abs, e_ins, e_oinit, e_inx, e_iret, e_lret, e_vret, vx_run_s, List.getElem?_cons_succ, List.getElem?_cons_zero, List.set_cons_succ, List.set_cons_zero, List.mem_cons, List.not_mem_nil, or_false, false_or, if_true, if_false, ite_true, ite_false, ↓reduceIte, reduceCtorEq, List.take_succ_cons, List.take_zero, List.drop_succ_cons, List.drop_zero, List.reverse_cons, List.reverse_nil, List.nil_append, List.cons_append, List.append_nil, List.length_cons, List.length_nil, Option.toList_some, Option.toList_none, vx_nl, vx_isob, true_and, and_true, Nat.reduceAdd, Nat.reduceEqDiff, Nat.reduceLeDiff, Nat.zero_add, Nat.add_zero, not_false_eq_true, not_true_eq_false, Nat.reduceLT, Nat.reduceMul, Nat.reduceSub, Nat.zero_le, vx_up_s, false_implies, true_implies, forall_const, implies_true, imp_self, Nat.le_refl, forall_eq, forall_eq_apply_imp_iff, and_imp, exists_and_left, exists_eq_left, Nat.one_ne_zero, eq_self, true_or, or_true, Option.some.injEq, Value.int.injEq, Value.long.injEq, bk_R_init_0, hx2, vx_up_a, v40, v41, v42, v43]
  repeat (refine ⟨rfl, ?_⟩)
  refine ⟨⟨⟨0, fun _ => 0, ⟨0, 0, 0, 0, rfl⟩, ⟨fun _ => 0, fun _ => 0, fun _ => 0, rfl, rfl, rfl, fun b hb => absurd hb (Nat.not_lt_zero b), fun b hb => absurd hb (Nat.not_lt_zero b), fun b hb => absurd hb (Nat.not_lt_zero b)⟩, ⟨fun _ => 0, fun _ => 0, fun _ => 0, rfl, rfl, rfl, Nat.zero_le _, fun b hb => absurd hb (Nat.not_lt_zero b)⟩, ⟨fun _ => 0, fun _ => 0, fun _ => 0, rfl, rfl, rfl, Nat.zero_le _, fun b hb => absurd hb (Nat.not_lt_zero b)⟩, ⟨fun _ => 0, fun _ => 0, fun _ => 0, rfl, rfl, rfl, Nat.zero_le _, fun b hb => absurd hb (Nat.not_lt_zero b)⟩, rfl⟩, ⟨_, _, _, rfl, rfl, rfl, fun k hk => Or.inl ⟨rfl, ?_⟩⟩, ⟨fun _ => 0, fun _ => 0, fun _ => 0, rfl, rfl, rfl⟩⟩, ?_⟩
  · have : k = 0 ∨ k = 1 ∨ k = 2 ∨ k = 3 := by omega
    rcases this with rfl | rfl | rfl | rfl <;> rfl
  · intro k hk
    simp only [vx_up_a]
    repeat (rw [if_neg (by omega)])
