/-! VoteWalls: stepsOfWalk -/
section RVX
variable {h h' : vx_H} {Y : vw_Y} {law : Int32} {L S R : vw_T} {tr fa : Int32} {SH : Nat → vw_Sh}
theorem vw_stepsOfWalk (sz : Nat) (u : RV h Y law L S R tr fa SH) (o : SOk Y law L S R) (a i n : Nat) (ha : a < 4) (hin : i + n ≤ (SH a).2.1) (hn : n ≤ 50) (h0 : 0 < yB Y) (C : Nat → Nat) (hC : ∀ q, q < n → tx (SH a) i q = nI (C q) ∧ C q ≤ yB Y) : vx_Ok m_V_stepsOfWalk [.ref 0, .ref (30 + 2 * a), .int (nI i), .int (nI n)] sz h (fun r h' => r = some (.int (nI (vw_stp Y law (vw_ons L) (vw_ons S) C n 0 0))) ∧ vf 18 21 h h' ∧ hW0 h') := by
  generalize hR0 : vw_stp Y law (vw_ons L) (vw_ons S) C n 0 0 = R0
  refine ok_V_stepsOfWalk [some (.ref 0), some (.ref (30 + 2 * a)), some (.int (nI i)), some (.int (nI n)), none, none, none, none] (Nat.le_of_ble_eq_true rfl) rfl (fun lim z X hX => ?_)
  obtain ⟨yq, uq⟩ := u.q o
  obtain ⟨y, y', t, u1, u2, u3, u4, u5, u6, u7, u8, u9, ⟨fg, fk, fp, u10⟩, u11, u12⟩ := id u
  have v1 := u1
  unfold hV at u1
  have hB := o.1.1
  refine vx_go hX [12] 9 ?_
  simp only [e_nil, e_iconst, e_bipush, e_sipush, e_lconst, e_ldc_w, e_ldc2_w, e_iload, e_iload_n, e_lload, e_lload_n, e_aload, e_aload_n, e_istore, e_istore_n, e_astore, e_astore_n, e_lstore, e_iinc, e_iadd, e_isub, e_imul, e_iand, e_ior, e_ishl, e_ishr, e_iushr, e_idiv, e_irem, e_ldiv, e_lrem, e_ineg, e_lshl, e_lcmp, e_i2l, e_i2b, e_i2s, e_dup_i, e_dup_r, e_dup2, e_if_eq, e_if_ne, e_if_lt, e_if_ge, e_if_gt, e_if_le, e_icmp_eq, e_icmp_ne, e_icmp_lt, e_icmp_ge, e_icmp_gt, e_icmp_le, e_ifnull_r, e_ifnull_n, e_goto, e_tsw, e_lsw, e_getf, e_puti, e_putz, e_puta, e_new, e_newa, e_anew, e_iald, e_sald, e_iast, e_aald, e_aast, e_alen, e_slen, e_inv, e_acp, e_min, e_max, e_abs, e_ins, e_oinit, e_inx, e_iret, e_lret, e_vret, vx_run_s, List.getElem?_cons_succ, List.getElem?_cons_zero, List.set_cons_succ, List.set_cons_zero, List.mem_cons, List.not_mem_nil, or_false, false_or, if_true, if_false, ite_true, ite_false, ↓reduceIte, reduceCtorEq, List.take_succ_cons, List.take_zero, List.drop_succ_cons, List.drop_zero, List.reverse_cons, List.reverse_nil, List.nil_append, List.cons_append, List.append_nil, List.length_cons, List.length_nil, Option.toList_some, Option.toList_none, vx_nl, vx_isob, true_and, and_true, Nat.reduceAdd, Nat.reduceEqDiff, Nat.reduceLeDiff, Nat.zero_add, Nat.add_zero, not_false_eq_true, not_true_eq_false, Nat.reduceLT, Nat.reduceMul, Nat.reduceSub, Nat.zero_le, vx_up_s, false_implies, true_implies, forall_const, implies_true, imp_self, Nat.le_refl, forall_eq, forall_eq_apply_imp_iff, and_imp, exists_and_left, exists_eq_left, Nat.one_ne_zero, eq_self, true_or, or_true, Option.some.injEq, Value.int.injEq, Value.long.injEq, bk_V_stepsOfWalk_0, bk_V_stepsOfWalk_12, bk_V_stepsOfWalk_37, bk_V_stepsOfWalk_38, bk_V_stepsOfWalk_68, bk_V_stepsOfWalk_71, bk_V_stepsOfWalk_81, u1]
  refine ⟨_, vw_reckonAsItIs h _ uq 50 (by decide), ?_⟩
  rintro _ g ⟨rfl, hrk, vg⟩
  simp only [e_nil, e_iconst, e_bipush, e_sipush, e_lconst, e_ldc_w, e_ldc2_w, e_iload, e_iload_n, e_lload, e_lload_n, e_aload, e_aload_n, e_istore, e_istore_n, e_astore, e_astore_n, e_lstore, e_iinc, e_iadd, e_isub, e_imul, e_iand, e_ior, e_ishl, e_ishr, e_iushr, e_idiv, e_irem, e_ldiv, e_lrem, e_ineg, e_lshl, e_lcmp, e_i2l, e_i2b, e_i2s, e_dup_i, e_dup_r, e_dup2, e_if_eq, e_if_ne, e_if_lt, e_if_ge, e_if_gt, e_if_le, e_icmp_eq, e_icmp_ne, e_icmp_lt, e_icmp_ge, e_icmp_gt, e_icmp_le, e_ifnull_r, e_ifnull_n, e_goto, e_tsw, e_lsw, e_getf, e_puti, e_putz, e_puta, e_new, e_newa, e_anew, e_iald, e_sald, e_iast, e_aald, e_aast, e_alen, e_slen, e_inv, e_acp, e_min, e_max, e_abs, e_ins, e_oinit, e_inx, e_iret, e_lret, e_vret, vx_run_s, List.getElem?_cons_succ, List.getElem?_cons_zero, List.set_cons_succ, List.set_cons_zero, List.mem_cons, List.not_mem_nil, or_false, false_or, if_true, if_false, ite_true, ite_false, ↓reduceIte, reduceCtorEq, List.take_succ_cons, List.take_zero, List.drop_succ_cons, List.drop_zero, List.reverse_cons, List.reverse_nil, List.nil_append, List.cons_append, List.append_nil, List.length_cons, List.length_nil, Option.toList_some, Option.toList_none, vx_nl, vx_isob, true_and, and_true, Nat.reduceAdd, Nat.reduceEqDiff, Nat.reduceLeDiff, Nat.zero_add, Nat.add_zero, not_false_eq_true, not_true_eq_false, Nat.reduceLT, Nat.reduceMul, Nat.reduceSub, Nat.zero_le, vx_up_s, false_implies, true_implies, forall_const, implies_true, imp_self, Nat.le_refl, forall_eq, forall_eq_apply_imp_iff, and_imp, exists_and_left, exists_eq_left, Nat.one_ne_zero, eq_self, true_or, or_true, Option.some.injEq, Value.int.injEq, Value.long.injEq, bk_V_stepsOfWalk_0, bk_V_stepsOfWalk_12, bk_V_stepsOfWalk_37, bk_V_stepsOfWalk_38, bk_V_stepsOfWalk_68, bk_V_stepsOfWalk_71, bk_V_stepsOfWalk_81]
  have g0 : g 0 = _ := (vg 0 (by omega)).trans u1
  have gs : hSh g (30 + 2 * a) (SH a) := (u12 a ha).eq (vg.ve (by omega))
  obtain ⟨f, s1, s2, s3, s4⟩ := id gs
  have loop : ∀ (m j l : Nat) (w6 w7 : Option Value), j + m = n → l ≤ yB Y → vw_stp Y law (vw_ons L) (vw_ons S) C m j l = R0 → X 12 [some (.ref 0), some (.ref (30 + 2 * a)), some (.int (nI i)), some (.int (nI n)), some (.int (nI l)), some (.int (nI j)), w6, w7] [] z g := by
    intro m
    induction m with
    | zero =>
      intro j l w6 w7 hj hl he
      have e : j = n := by omega
      subst e
      refine vx_go hX [12] 9 ?_
      simp only [e_nil, e_iconst, e_bipush, e_sipush, e_lconst, e_ldc_w, e_ldc2_w, e_iload, e_iload_n, e_lload, e_lload_n, e_aload, e_aload_n, e_istore, e_istore_n, e_astore, e_astore_n, e_lstore, e_iinc, e_iadd, e_isub, e_imul, e_iand, e_ior, e_ishl, e_ishr, e_iushr, e_idiv, e_irem, e_ldiv, e_lrem, e_ineg, e_lshl, e_lcmp, e_i2l, e_i2b, e_i2s, e_dup_i, e_dup_r, e_dup2, e_if_eq, e_if_ne, e_if_lt, e_if_ge, e_if_gt, e_if_le, e_icmp_eq, e_icmp_ne, e_icmp_lt, e_icmp_ge, e_icmp_gt, e_icmp_le, e_ifnull_r, e_ifnull_n, e_goto, e_tsw, e_lsw, e_getf, e_puti, e_putz, e_puta, e_new, e_newa, e_anew, e_iald, e_sald, e_iast, e_aald, e_aast, e_alen, e_slen, e_inv, e_acp, e_min, e_max, e_abs, e_ins, e_oinit, e_inx, e_iret, e_lret, e_vret, vx_run_s, List.getElem?_cons_succ, List.getElem?_cons_zero, List.set_cons_succ, List.set_cons_zero, List.mem_cons, List.not_mem_nil, or_false, false_or, if_true, if_false, ite_true, ite_false, ↓reduceIte, reduceCtorEq, List.take_succ_cons, List.take_zero, List.drop_succ_cons, List.drop_zero, List.reverse_cons, List.reverse_nil, List.nil_append, List.cons_append, List.append_nil, List.length_cons, List.length_nil, Option.toList_some, Option.toList_none, vx_nl, vx_isob, true_and, and_true, Nat.reduceAdd, Nat.reduceEqDiff, Nat.reduceLeDiff, Nat.zero_add, Nat.add_zero, not_false_eq_true, not_true_eq_false, Nat.reduceLT, Nat.reduceMul, Nat.reduceSub, Nat.zero_le, vx_up_s, false_implies, true_implies, forall_const, implies_true, imp_self, Nat.le_refl, forall_eq, forall_eq_apply_imp_iff, and_imp, exists_and_left, exists_eq_left, Nat.one_ne_zero, eq_self, true_or, or_true, Option.some.injEq, Value.int.injEq, Value.long.injEq, bk_V_stepsOfWalk_0, bk_V_stepsOfWalk_12, bk_V_stepsOfWalk_37, bk_V_stepsOfWalk_38, bk_V_stepsOfWalk_68, bk_V_stepsOfWalk_71, bk_V_stepsOfWalk_81]
      subst he
      exact ⟨fun _ => ⟨rfl, vg, hrk.w0⟩, fun q => absurd (Int32.le_refl _) q⟩
    | succ m ih =>
      intro j l w6 w7 hj hl he
      refine vx_go hX [12] 9 ?_
      simp only [e_nil, e_iconst, e_bipush, e_sipush, e_lconst, e_ldc_w, e_ldc2_w, e_iload, e_iload_n, e_lload, e_lload_n, e_aload, e_aload_n, e_istore, e_istore_n, e_astore, e_astore_n, e_lstore, e_iinc, e_iadd, e_isub, e_imul, e_iand, e_ior, e_ishl, e_ishr, e_iushr, e_idiv, e_irem, e_ldiv, e_lrem, e_ineg, e_lshl, e_lcmp, e_i2l, e_i2b, e_i2s, e_dup_i, e_dup_r, e_dup2, e_if_eq, e_if_ne, e_if_lt, e_if_ge, e_if_gt, e_if_le, e_icmp_eq, e_icmp_ne, e_icmp_lt, e_icmp_ge, e_icmp_gt, e_icmp_le, e_ifnull_r, e_ifnull_n, e_goto, e_tsw, e_lsw, e_getf, e_puti, e_putz, e_puta, e_new, e_newa, e_anew, e_iald, e_sald, e_iast, e_aald, e_aast, e_alen, e_slen, e_inv, e_acp, e_min, e_max, e_abs, e_ins, e_oinit, e_inx, e_iret, e_lret, e_vret, vx_run_s, List.getElem?_cons_succ, List.getElem?_cons_zero, List.set_cons_succ, List.set_cons_zero, List.mem_cons, List.not_mem_nil, or_false, false_or, if_true, if_false, ite_true, ite_false, ↓reduceIte, reduceCtorEq, List.take_succ_cons, List.take_zero, List.drop_succ_cons, List.drop_zero, List.reverse_cons, List.reverse_nil, List.nil_append, List.cons_append, List.append_nil, List.length_cons, List.length_nil, Option.toList_some, Option.toList_none, vx_nl, vx_isob, true_and, and_true, Nat.reduceAdd, Nat.reduceEqDiff, Nat.reduceLeDiff, Nat.zero_add, Nat.add_zero, not_false_eq_true, not_true_eq_false, Nat.reduceLT, Nat.reduceMul, Nat.reduceSub, Nat.zero_le, vx_up_s, false_implies, true_implies, forall_const, implies_true, imp_self, Nat.le_refl, forall_eq, forall_eq_apply_imp_iff, and_imp, exists_and_left, exists_eq_left, Nat.one_ne_zero, eq_self, true_or, or_true, Option.some.injEq, Value.int.injEq, Value.long.injEq, bk_V_stepsOfWalk_0, bk_V_stepsOfWalk_12, bk_V_stepsOfWalk_37, bk_V_stepsOfWalk_38, bk_V_stepsOfWalk_68, bk_V_stepsOfWalk_71, bk_V_stepsOfWalk_81, g0, s1, nI_add]
      refine ⟨fun q => absurd q (nI_ge (by omega) (by omega)), fun _ => ?_⟩
      refine vx_cl1 (vw_numberAt g _ _ _ gs (nI (i + j))) ?_
      have en : sh_at (SH a) (nI (i + j)) = nI (C j) := by
        unfold sh_at
        rw [if_pos ⟨nI_pos' (by omega), nI_lt (by omega) (by omega)⟩, nI_clamp (by omega)]
        exact (hC j (by omega)).1
      rw [en]
      have hcj := (hC j (by omega)).2
      obtain ⟨bo, inn, lr, lm, rows, gf, vb, w1, w2, w3, w4⟩ := hrk.w0
      have ea := nI_abs (a := C j) (b := l) (by omega) (by omega)
      simp only [e_nil, e_iconst, e_bipush, e_sipush, e_lconst, e_ldc_w, e_ldc2_w, e_iload, e_iload_n, e_lload, e_lload_n, e_aload, e_aload_n, e_istore, e_istore_n, e_astore, e_astore_n, e_lstore, e_iinc, e_iadd, e_isub, e_imul, e_iand, e_ior, e_ishl, e_ishr, e_iushr, e_idiv, e_irem, e_ldiv, e_lrem, e_ineg, e_lshl, e_lcmp, e_i2l, e_i2b, e_i2s, e_dup_i, e_dup_r, e_dup2, e_if_eq, e_if_ne, e_if_lt, e_if_ge, e_if_gt, e_if_le, e_icmp_eq, e_icmp_ne, e_icmp_lt, e_icmp_ge, e_icmp_gt, e_icmp_le, e_ifnull_r, e_ifnull_n, e_goto, e_tsw, e_lsw, e_getf, e_puti, e_putz, e_puta, e_new, e_newa, e_anew, e_iald, e_sald, e_iast, e_aald, e_aast, e_alen, e_slen, e_inv, e_acp, e_min, e_max, e_abs, e_ins, e_oinit, e_inx, e_iret, e_lret, e_vret, vx_run_s, List.getElem?_cons_succ, List.getElem?_cons_zero, List.set_cons_succ, List.set_cons_zero, List.mem_cons, List.not_mem_nil, or_false, false_or, if_true, if_false, ite_true, ite_false, ↓reduceIte, reduceCtorEq, List.take_succ_cons, List.take_zero, List.drop_succ_cons, List.drop_zero, List.reverse_cons, List.reverse_nil, List.nil_append, List.cons_append, List.append_nil, List.length_cons, List.length_nil, Option.toList_some, Option.toList_none, vx_nl, vx_isob, true_and, and_true, Nat.reduceAdd, Nat.reduceEqDiff, Nat.reduceLeDiff, Nat.zero_add, Nat.add_zero, not_false_eq_true, not_true_eq_false, Nat.reduceLT, Nat.reduceMul, Nat.reduceSub, Nat.zero_le, vx_up_s, false_implies, true_implies, forall_const, implies_true, imp_self, Nat.le_refl, forall_eq, forall_eq_apply_imp_iff, and_imp, exists_and_left, exists_eq_left, Nat.one_ne_zero, eq_self, true_or, or_true, Option.some.injEq, Value.int.injEq, Value.long.injEq, bk_V_stepsOfWalk_0, bk_V_stepsOfWalk_12, bk_V_stepsOfWalk_37, bk_V_stepsOfWalk_38, bk_V_stepsOfWalk_68, bk_V_stepsOfWalk_71, bk_V_stepsOfWalk_81, g0, w1, ea]
      unfold vw_stp at he
      have ew := vw_widthAt g z.1 Y law (vw_ons L) (vw_ons S) 50 hrk (by decide) o.1 (C j) (j + 1) hcj h0 (by omega)
      rw [nI_s1] at ew
      have hw30 := vw_wd_le o.1 h0 law (vw_ons L) (vw_ons S) (j + 1) (C j) hcj
      have hd : (if l ≤ C j then C j - l else l - C j) ≤ 99 := by split <;> omega
      refine ⟨fun qj => ⟨fun q => ?_, fun q => ?_⟩, fun qj => ⟨fun q => ?_, fun q => ?_⟩⟩
      · have q := (nI_ltI (a := 1) (by decide) (by omega)).mp q
        rw [if_neg (by intro c; split at q <;> omega)] at he
        subst he
        exact ⟨rfl, vg, hrk.w0⟩
      · have q : ¬ 1 < (if l ≤ C j then C j - l else l - C j) := fun c => q (nI_lt (a := 1) c (by omega))
        have hj0 : ¬ j = 0 := fun c => qj (by subst c; rfl)
        have hnear : C j = l ∨ (¬ j = 0 ∧ (C j = l + 1 ∨ C j + 1 = l)) := by split at q <;> omega
        refine vx_cl1 ew ?_
        simp only [e_nil, e_iconst, e_bipush, e_sipush, e_lconst, e_ldc_w, e_ldc2_w, e_iload, e_iload_n, e_lload, e_lload_n, e_aload, e_aload_n, e_istore, e_istore_n, e_astore, e_astore_n, e_lstore, e_iinc, e_iadd, e_isub, e_imul, e_iand, e_ior, e_ishl, e_ishr, e_iushr, e_idiv, e_irem, e_ldiv, e_lrem, e_ineg, e_lshl, e_lcmp, e_i2l, e_i2b, e_i2s, e_dup_i, e_dup_r, e_dup2, e_if_eq, e_if_ne, e_if_lt, e_if_ge, e_if_gt, e_if_le, e_icmp_eq, e_icmp_ne, e_icmp_lt, e_icmp_ge, e_icmp_gt, e_icmp_le, e_ifnull_r, e_ifnull_n, e_goto, e_tsw, e_lsw, e_getf, e_puti, e_putz, e_puta, e_new, e_newa, e_anew, e_iald, e_sald, e_iast, e_aald, e_aast, e_alen, e_slen, e_inv, e_acp, e_min, e_max, e_abs, e_ins, e_oinit, e_inx, e_iret, e_lret, e_vret, vx_run_s, List.getElem?_cons_succ, List.getElem?_cons_zero, List.set_cons_succ, List.set_cons_zero, List.mem_cons, List.not_mem_nil, or_false, false_or, if_true, if_false, ite_true, ite_false, ↓reduceIte, reduceCtorEq, List.take_succ_cons, List.take_zero, List.drop_succ_cons, List.drop_zero, List.reverse_cons, List.reverse_nil, List.nil_append, List.cons_append, List.append_nil, List.length_cons, List.length_nil, Option.toList_some, Option.toList_none, vx_nl, vx_isob, true_and, and_true, Nat.reduceAdd, Nat.reduceEqDiff, Nat.reduceLeDiff, Nat.zero_add, Nat.add_zero, not_false_eq_true, not_true_eq_false, Nat.reduceLT, Nat.reduceMul, Nat.reduceSub, Nat.zero_le, vx_up_s, false_implies, true_implies, forall_const, implies_true, imp_self, Nat.le_refl, forall_eq, forall_eq_apply_imp_iff, and_imp, exists_and_left, exists_eq_left, Nat.one_ne_zero, eq_self, true_or, or_true, Option.some.injEq, Value.int.injEq, Value.long.injEq, bk_V_stepsOfWalk_0, bk_V_stepsOfWalk_12, bk_V_stepsOfWalk_37, bk_V_stepsOfWalk_38, bk_V_stepsOfWalk_68, bk_V_stepsOfWalk_71, bk_V_stepsOfWalk_81]
        refine ⟨fun q2 => ?_, fun q2 => ?_⟩
        · have q2 := (nI_leI (a := 2) (by decide) (by omega)).mp q2
          rw [if_pos ⟨hnear, q2⟩] at he
          rw [nI_1]
          exact ih (j + 1) (C j) _ _ (by omega) hcj he
        · rw [if_neg (fun c => q2 (nI_le (a := 2) c.2 (by omega)))] at he
          subst he
          exact ⟨rfl, vg, hrk.w0⟩
      · have q := (nI_ltI (a := 0) (by decide) (by omega)).mp q
        have hj0 : j = 0 := (nI_eq (b := 0) (by omega) (by decide)).mp qj
        rw [if_neg (by intro c; split at q <;> omega)] at he
        subst he
        exact ⟨rfl, vg, hrk.w0⟩
      · have q : ¬ 0 < (if l ≤ C j then C j - l else l - C j) := fun c => q (nI_lt (a := 0) c (by omega))
        have hnear : C j = l ∨ (¬ j = 0 ∧ (C j = l + 1 ∨ C j + 1 = l)) := by split at q <;> omega
        refine vx_cl1 ew ?_
        simp only [e_nil, e_iconst, e_bipush, e_sipush, e_lconst, e_ldc_w, e_ldc2_w, e_iload, e_iload_n, e_lload, e_lload_n, e_aload, e_aload_n, e_istore, e_istore_n, e_astore, e_astore_n, e_lstore, e_iinc, e_iadd, e_isub, e_imul, e_iand, e_ior, e_ishl, e_ishr, e_iushr, e_idiv, e_irem, e_ldiv, e_lrem, e_ineg, e_lshl, e_lcmp, e_i2l, e_i2b, e_i2s, e_dup_i, e_dup_r, e_dup2, e_if_eq, e_if_ne, e_if_lt, e_if_ge, e_if_gt, e_if_le, e_icmp_eq, e_icmp_ne, e_icmp_lt, e_icmp_ge, e_icmp_gt, e_icmp_le, e_ifnull_r, e_ifnull_n, e_goto, e_tsw, e_lsw, e_getf, e_puti, e_putz, e_puta, e_new, e_newa, e_anew, e_iald, e_sald, e_iast, e_aald, e_aast, e_alen, e_slen, e_inv, e_acp, e_min, e_max, e_abs, e_ins, e_oinit, e_inx, e_iret, e_lret, e_vret, vx_run_s, List.getElem?_cons_succ, List.getElem?_cons_zero, List.set_cons_succ, List.set_cons_zero, List.mem_cons, List.not_mem_nil, or_false, false_or, if_true, if_false, ite_true, ite_false, ↓reduceIte, reduceCtorEq, List.take_succ_cons, List.take_zero, List.drop_succ_cons, List.drop_zero, List.reverse_cons, List.reverse_nil, List.nil_append, List.cons_append, List.append_nil, List.length_cons, List.length_nil, Option.toList_some, Option.toList_none, vx_nl, vx_isob, true_and, and_true, Nat.reduceAdd, Nat.reduceEqDiff, Nat.reduceLeDiff, Nat.zero_add, Nat.add_zero, not_false_eq_true, not_true_eq_false, Nat.reduceLT, Nat.reduceMul, Nat.reduceSub, Nat.zero_le, vx_up_s, false_implies, true_implies, forall_const, implies_true, imp_self, Nat.le_refl, forall_eq, forall_eq_apply_imp_iff, and_imp, exists_and_left, exists_eq_left, Nat.one_ne_zero, eq_self, true_or, or_true, Option.some.injEq, Value.int.injEq, Value.long.injEq, bk_V_stepsOfWalk_0, bk_V_stepsOfWalk_12, bk_V_stepsOfWalk_37, bk_V_stepsOfWalk_38, bk_V_stepsOfWalk_68, bk_V_stepsOfWalk_71, bk_V_stepsOfWalk_81]
        refine ⟨fun q2 => ?_, fun q2 => ?_⟩
        · have q2 := (nI_leI (a := 2) (by decide) (by omega)).mp q2
          rw [if_pos ⟨hnear, q2⟩] at he
          rw [nI_1]
          exact ih (j + 1) (C j) _ _ (by omega) hcj he
        · rw [if_neg (fun c => q2 (nI_le (a := 2) c.2 (by omega)))] at he
          subst he
          exact ⟨rfl, vg, hrk.w0⟩
  exact loop n 0 0 none none (by omega) (by omega) hR0
end RVX
