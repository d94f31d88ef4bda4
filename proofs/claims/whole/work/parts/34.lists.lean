/-! lists of threes, and the calendar -/
/-- a new three at the end -/
def vw_ad (R : vw_T) (a b c : Nat) : vw_T := (R.1 + 1, vw_u R.2.1 R.1 a, vw_u R.2.2.1 R.1 b, vw_u R.2.2.2 R.1 c)
theorem vw_add (h : vx_H) (sz : Nat) {t most : Nat} {R : vw_T} (u : hT h t most R) (a b c : Nat) :
    vx_Ok m_Tp_add [.ref t, .int (nI a), .int (nI b), .int (nI c)] sz h (fun r h' => r = some (.int (if R.1 < most then nI R.1 else -4)) ∧ vf t (t + 3) h h' ∧ hT h' t most (if R.1 < most then vw_ad R a b c else R)) := by
  refine ok_Tp_add [some (.ref t), some (.int (nI a)), some (.int (nI b)), some (.int (nI c))] (Nat.le_of_ble_eq_true rfl) rfl (fun lim z X hX => ?_)
  have u0 := u
  obtain ⟨f1, f2, f3, u1, u2, u3, u4, u5, u6, u7⟩ := u
  refine vx_go hX [] 9 ?_
  have n1 : t + 1 ≠ t := by omega
  have n2 : t + 2 ≠ t := by omega
  have n3 : t + 3 ≠ t := by omega
  have n12 : t + 2 ≠ t + 1 := by omega
  have n13 : t + 3 ≠ t + 1 := by omega
  have n23 : t + 3 ≠ t + 2 := by omega
  have m1 : t ≠ t + 1 := by omega
  have m2 : t ≠ t + 2 := by omega
  have m3 : t ≠ t + 3 := by omega
  simp only [e_nil, e_iconst, e_bipush, e_sipush, e_lconst, e_ldc_w, e_ldc2_w, e_iload, e_iload_n, e_lload, e_lload_n, e_aload, e_aload_n, e_istore, e_istore_n, e_astore, e_astore_n, e_lstore, e_iinc, e_iadd, e_isub, e_imul, e_iand, e_ior, e_ishl, e_ishr, e_iushr, e_idiv, e_irem, e_ldiv, e_lrem, e_ineg, e_lshl, e_lcmp, e_i2l, e_i2b, e_i2s, e_dup_i, e_dup_r, e_dup2, e_if_eq, e_if_ne, e_if_lt, e_if_ge, e_if_gt, e_if_le, e_icmp_eq, e_icmp_ne, e_icmp_lt, e_icmp_ge, e_icmp_gt, e_icmp_le, e_ifnull_r, e_ifnull_n, e_goto, e_tsw, e_lsw, e_getf, e_puti, e_putz, e_puta, e_new, e_newa, e_anew, e_iald, e_sald, e_iast, e_aald, e_aast, e_alen, e_slen, e_inv, e_acp, e_min, e_max, e_abs, e_ins, e_oinit, e_inx, e_iret, e_lret, e_vret, vx_run_s, List.getElem?_cons_succ, List.getElem?_cons_zero, List.set_cons_succ, List.set_cons_zero, List.mem_cons, List.not_mem_nil, or_false, false_or, if_true, if_false, ite_true, ite_false, ↓reduceIte, reduceCtorEq, List.take_succ_cons, List.take_zero, List.drop_succ_cons, List.drop_zero, List.reverse_cons, List.reverse_nil, List.nil_append, List.cons_append, List.append_nil, List.length_cons, List.length_nil, Option.toList_some, Option.toList_none, vx_nl, vx_isob, true_and, and_true, Nat.reduceAdd, Nat.reduceEqDiff, Nat.reduceLeDiff, Nat.zero_add, Nat.add_zero, not_false_eq_true, not_true_eq_false, Nat.reduceLT, Nat.reduceMul, Nat.reduceSub, Nat.zero_le, vx_up_s, false_implies, true_implies, forall_const, implies_true, imp_self, Nat.le_refl, forall_eq, forall_eq_apply_imp_iff, and_imp, exists_and_left, exists_eq_left, Nat.one_ne_zero, eq_self, true_or, or_true, Option.some.injEq, Value.int.injEq, Value.long.injEq, bk_Tp_add_0, bk_Tp_add_18, bk_Tp_add_21, u1, u2, u3, u4, vx_up_n _ _ n1, vx_up_n _ _ n2, vx_up_n _ _ n3, vx_up_n _ _ n12, vx_up_n _ _ n13, vx_up_n _ _ n23, vx_up_n _ _ m1, vx_up_n _ _ m2, vx_up_n _ _ m3]
  refine ⟨fun q => absurd q (nI_pos (by omega)), fun _ => ⟨fun q => ?_, fun q => ?_⟩⟩
  · rw [nI_ltI (by omega) (by omega)] at q
    rw [if_pos q, if_pos q, nI_clamp (by omega), nI_1, nI_s1]
    refine ⟨vp_in_nI (by omega) (by decide), vp_in_nI (by omega) (by decide), vp_in_nI (by omega) (by decide), rfl, ?_, ?_⟩
    · exact (((vf.up (by omega) (by omega)).tr (vf.up (by omega) (by omega))).tr (vf.up (by omega) (by omega))).tr (vf.up (by omega) (by omega))
    · refine ⟨upd f1 R.1 (nI a), upd f2 R.1 (nI b), upd f3 R.1 (nI c), vx_up_s _ _ _, ?_, ?_, ?_, by show R.1 + 1 ≤ most; omega, u6, fun k hk => ?_⟩
      · rw [vx_up_n _ _ n1, vx_up_n _ _ (by omega), vx_up_n _ _ (by omega), vx_up_s]
      · rw [vx_up_n _ _ n2, vx_up_n _ _ (by omega), vx_up_s]
      · rw [vx_up_n _ _ n3, vx_up_s]
      · have hk : k < R.1 + 1 := hk
        show _ = nI (vw_u R.2.1 R.1 a k) ∧ _ = nI (vw_u R.2.2.1 R.1 b k) ∧ _ = nI (vw_u R.2.2.2 R.1 c k)
        by_cases ek : k = R.1
        · subst ek; simp [upd, vw_u]
        · obtain ⟨g1, g2, g3⟩ := u7 k (by omega)
          simp [upd, vw_u, ek, g1, g2, g3]
  · rw [nI_ltI (by omega) (by omega)] at q
    rw [if_neg q, if_neg q]
    exact ⟨rfl, vf.rf, u0⟩
def vw_dr (R : vw_T) (n : Nat) : vw_T := (R.1 - n, R.2.1, R.2.2.1, R.2.2.2)
def a_drop (R : vw_T) (k : Int32) : Int32 := if 0 ≤ k ∧ k ≤ nI R.1 then nI (R.1 - k.toNatClampNeg) else -2
def s_drop (R : vw_T) (k : Int32) : vw_T := if 0 ≤ k ∧ k ≤ nI R.1 then vw_dr R k.toNatClampNeg else R
theorem vw_drop (h : vx_H) (sz : Nat) {t most : Nat} {R : vw_T} (u : hT h t most R) (k : Int32) :
    vx_Ok m_Tp_drop [.ref t, .int k] sz h (fun r h' => r = some (.int (a_drop R k)) ∧ vf t (t + 3) h h' ∧ hT h' t most (s_drop R k)) := by
  refine ok_Tp_drop [some (.ref t), some (.int k)] (Nat.le_of_ble_eq_true rfl) rfl (fun lim z X hX => ?_)
  have u0 := u
  obtain ⟨f1, f2, f3, u1, u2, u3, u4, u5, u6, u7⟩ := u
  refine vx_go hX [] 9 ?_
  simp only [e_nil, e_iconst, e_bipush, e_sipush, e_lconst, e_ldc_w, e_ldc2_w, e_iload, e_iload_n, e_lload, e_lload_n, e_aload, e_aload_n, e_istore, e_istore_n, e_astore, e_astore_n, e_lstore, e_iinc, e_iadd, e_isub, e_imul, e_iand, e_ior, e_ishl, e_ishr, e_iushr, e_idiv, e_irem, e_ldiv, e_lrem, e_ineg, e_lshl, e_lcmp, e_i2l, e_i2b, e_i2s, e_dup_i, e_dup_r, e_dup2, e_if_eq, e_if_ne, e_if_lt, e_if_ge, e_if_gt, e_if_le, e_icmp_eq, e_icmp_ne, e_icmp_lt, e_icmp_ge, e_icmp_gt, e_icmp_le, e_ifnull_r, e_ifnull_n, e_goto, e_tsw, e_lsw, e_getf, e_puti, e_putz, e_puta, e_new, e_newa, e_anew, e_iald, e_sald, e_iast, e_aald, e_aast, e_alen, e_slen, e_inv, e_acp, e_min, e_max, e_abs, e_ins, e_oinit, e_inx, e_iret, e_lret, e_vret, vx_run_s, List.getElem?_cons_succ, List.getElem?_cons_zero, List.set_cons_succ, List.set_cons_zero, List.mem_cons, List.not_mem_nil, or_false, false_or, if_true, if_false, ite_true, ite_false, ↓reduceIte, reduceCtorEq, List.take_succ_cons, List.take_zero, List.drop_succ_cons, List.drop_zero, List.reverse_cons, List.reverse_nil, List.nil_append, List.cons_append, List.append_nil, List.length_cons, List.length_nil, Option.toList_some, Option.toList_none, vx_nl, vx_isob, true_and, and_true, Nat.reduceAdd, Nat.reduceEqDiff, Nat.reduceLeDiff, Nat.zero_add, Nat.add_zero, not_false_eq_true, not_true_eq_false, Nat.reduceLT, Nat.reduceMul, Nat.reduceSub, Nat.zero_le, vx_up_s, false_implies, true_implies, forall_const, implies_true, imp_self, Nat.le_refl, forall_eq, forall_eq_apply_imp_iff, and_imp, exists_and_left, exists_eq_left, Nat.one_ne_zero, eq_self, true_or, or_true, Option.some.injEq, Value.int.injEq, Value.long.injEq, bk_Tp_drop_0, bk_Tp_drop_12, bk_Tp_drop_15, u1]
  unfold a_drop s_drop
  refine ⟨fun q => ?_, fun q => ⟨fun q2 => ?_, fun q2 => ?_⟩⟩
  · rw [if_neg (fun w => Int32.not_lt.mpr w.1 q), if_neg (fun w => Int32.not_lt.mpr w.1 q)]
    exact ⟨rfl, vf.rf, u0⟩
  · have hc : 0 ≤ k ∧ k ≤ nI R.1 := ⟨Int32.not_lt.mp q, q2⟩
    rw [if_pos hc, if_pos hc]
    obtain ⟨j, hj, rfl, e⟩ := nI_arg2 (by omega) hc
    rw [e, nI_sub hj]
    refine ⟨rfl, vf.up (by omega) (by omega), f1, f2, f3, vx_up_s _ _ _, ?_, ?_, ?_, by show R.1 - j ≤ most; omega, u6, fun k hk => u7 k (by have hk : k < R.1 - j := hk; omega)⟩
    · rw [vx_up_n _ _ (by omega)]; exact u2
    · rw [vx_up_n _ _ (by omega)]; exact u3
    · rw [vx_up_n _ _ (by omega)]; exact u4
  · rw [if_neg (fun w => q2 w.2), if_neg (fun w => q2 w.2)]
    exact ⟨rfl, vf.rf, u0⟩
