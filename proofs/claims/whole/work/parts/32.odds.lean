/-! VoteWalls: stood, odds -/
def yW (Y : vw_Y) (p x : Nat) : vw_Y := (Y.1, Y.2.1, Y.2.2.1, Y.2.2.2.1, Y.2.2.2.2.1, vw_u Y.2.2.2.2.2 p x)
theorem yW_ok {Y : vw_Y} (ho : yOk Y) {p x : Nat} (hx : x < yI Y) : yOk (yW Y p x) := by
  obtain ⟨o1, o2, o3, o4, o5, o6⟩ := ho
  refine ⟨o1, o2, o3, fun k hk => ⟨?_, (o4 k hk).2⟩, o5, o6⟩
  show vw_u (yP Y) p x k < yI Y
  unfold vw_u
  split
  · exact hx
  · exact (o4 k hk).1
def a_stood (Y : vw_Y) (law : Int32) (lf sf : Nat → Int32) (R : vw_T) (p : Int32) : Int32 := if 0 ≤ p ∧ p < nI (yN Y) then vw_fset (fun x => vw_so (yW Y p.toNatClampNeg x) law lf sf R) (yI Y) else -1
theorem vw_stood (h : vx_H) (sz : Nat) {y : Nat} {Y : vw_Y} {law : Int32} {lf sf : Nat → Int32} {R : vw_T} (u : hQ h y Y law lf sf) (hR : hT h 11 8 R) (ro : rOk Y R) (p : Int32) : vx_Ok m_V_stood [.ref 0, .int p] sz h (fun r h' => r = some (.int (a_stood Y law lf sf R p)) ∧ vf 18 21 h h' ∧ hW0 h') := by
  refine ok_V_stood [some (.ref 0), some (.int p), none, none, none] (Nat.le_of_ble_eq_true rfl) rfl (fun lim z X hX => ?_)
  have u0 := u
  obtain ⟨y', tr, fa, fg, fk, fp, t, u1, u2, u3, u4, u5, u6⟩ := u
  unfold hV at u1
  have hN := u4.2.1
  have hI := u4.2.2.1
  obtain ⟨u20, u21, u22, u23, u24, u25, u26, u27⟩ := id u2
  refine vx_go hX [25] 9 ?_
  simp only [e_nil, e_iconst, e_bipush, e_sipush, e_lconst, e_ldc_w, e_ldc2_w, e_iload, e_iload_n, e_lload, e_lload_n, e_aload, e_aload_n, e_istore, e_istore_n, e_astore, e_astore_n, e_lstore, e_iinc, e_iadd, e_isub, e_imul, e_iand, e_ior, e_ishl, e_ishr, e_iushr, e_idiv, e_irem, e_ldiv, e_lrem, e_ineg, e_lshl, e_lcmp, e_i2l, e_i2b, e_i2s, e_dup_i, e_dup_r, e_dup2, e_if_eq, e_if_ne, e_if_lt, e_if_ge, e_if_gt, e_if_le, e_icmp_eq, e_icmp_ne, e_icmp_lt, e_icmp_ge, e_icmp_gt, e_icmp_le, e_ifnull_r, e_ifnull_n, e_goto, e_tsw, e_lsw, e_getf, e_puti, e_putz, e_puta, e_new, e_newa, e_anew, e_iald, e_sald, e_iast, e_aald, e_aast, e_alen, e_slen, e_inv, e_acp, e_min, e_max, e_abs, e_ins, e_oinit, e_inx, e_iret, e_lret, e_vret, vx_run_s, List.getElem?_cons_succ, List.getElem?_cons_zero, List.set_cons_succ, List.set_cons_zero, List.mem_cons, List.not_mem_nil, or_false, false_or, if_true, if_false, ite_true, ite_false, ↓reduceIte, reduceCtorEq, List.take_succ_cons, List.take_zero, List.drop_succ_cons, List.drop_zero, List.reverse_cons, List.reverse_nil, List.nil_append, List.cons_append, List.append_nil, List.length_cons, List.length_nil, Option.toList_some, Option.toList_none, vx_nl, vx_isob, true_and, and_true, Nat.reduceAdd, Nat.reduceEqDiff, Nat.reduceLeDiff, Nat.zero_add, Nat.add_zero, not_false_eq_true, not_true_eq_false, Nat.reduceLT, Nat.reduceMul, Nat.reduceSub, Nat.zero_le, vx_up_s, false_implies, true_implies, forall_const, implies_true, imp_self, Nat.le_refl, forall_eq, forall_eq_apply_imp_iff, and_imp, exists_and_left, exists_eq_left, Nat.one_ne_zero, eq_self, true_or, or_true, Option.some.injEq, Value.int.injEq, Value.long.injEq, bk_V_stood_0, bk_V_stood_10, bk_V_stood_25, bk_V_stood_68, bk_V_stood_74, u1]
  refine vx_cl1 (vw_isPrisoner h _ u0 p) ?_
  simp only [e_nil, e_iconst, e_bipush, e_sipush, e_lconst, e_ldc_w, e_ldc2_w, e_iload, e_iload_n, e_lload, e_lload_n, e_aload, e_aload_n, e_istore, e_istore_n, e_astore, e_astore_n, e_lstore, e_iinc, e_iadd, e_isub, e_imul, e_iand, e_ior, e_ishl, e_ishr, e_iushr, e_idiv, e_irem, e_ldiv, e_lrem, e_ineg, e_lshl, e_lcmp, e_i2l, e_i2b, e_i2s, e_dup_i, e_dup_r, e_dup2, e_if_eq, e_if_ne, e_if_lt, e_if_ge, e_if_gt, e_if_le, e_icmp_eq, e_icmp_ne, e_icmp_lt, e_icmp_ge, e_icmp_gt, e_icmp_le, e_ifnull_r, e_ifnull_n, e_goto, e_tsw, e_lsw, e_getf, e_puti, e_putz, e_puta, e_new, e_newa, e_anew, e_iald, e_sald, e_iast, e_aald, e_aast, e_alen, e_slen, e_inv, e_acp, e_min, e_max, e_abs, e_ins, e_oinit, e_inx, e_iret, e_lret, e_vret, vx_run_s, List.getElem?_cons_succ, List.getElem?_cons_zero, List.set_cons_succ, List.set_cons_zero, List.mem_cons, List.not_mem_nil, or_false, false_or, if_true, if_false, ite_true, ite_false, ↓reduceIte, reduceCtorEq, List.take_succ_cons, List.take_zero, List.drop_succ_cons, List.drop_zero, List.reverse_cons, List.reverse_nil, List.nil_append, List.cons_append, List.append_nil, List.length_cons, List.length_nil, Option.toList_some, Option.toList_none, vx_nl, vx_isob, true_and, and_true, Nat.reduceAdd, Nat.reduceEqDiff, Nat.reduceLeDiff, Nat.zero_add, Nat.add_zero, not_false_eq_true, not_true_eq_false, Nat.reduceLT, Nat.reduceMul, Nat.reduceSub, Nat.zero_le, vx_up_s, false_implies, true_implies, forall_const, implies_true, imp_self, Nat.le_refl, forall_eq, forall_eq_apply_imp_iff, and_imp, exists_and_left, exists_eq_left, Nat.one_ne_zero, eq_self, true_or, or_true, Option.some.injEq, Value.int.injEq, Value.long.injEq, bk_V_stood_0, bk_V_stood_10, bk_V_stood_25, bk_V_stood_68, bk_V_stood_74, vx_bI_0, u1, u21, u24]
  unfold a_stood at hX ⊢
  refine ⟨fun q => ?_, fun q => ⟨by rw [if_neg q], vf.rf, u5⟩⟩
  rw [Classical.not_not] at q
  rw [if_pos q] at hX
  obtain ⟨i, hi, rfl, e1⟩ := nI_arg (by omega) q
  rw [e1] at hX
  rw [nI_clamp (by omega)]
  refine ⟨vp_in_nI (by omega) (by decide), ?_⟩
  generalize hP : (fun x => vw_so (yW Y i x) law lf sf R) = P at hX
  have loop : ∀ (k x : Nat) (hs : vx_H) (fq : Nat → Int32), x + k = yI Y → (∀ j, j < 18 ∨ 21 < j → j ≠ y + 3 → hs j = h j) → hs (y + 3) = some (.inl (8, fq)) → (∀ j, j ≠ i → fq j = fp j) → hW0 hs →
      X 25 [some (.ref 0), some (.int (nI i)), some (.int (fp i)), some (.int (vw_fset P x)), some (.int (nI x))] [] z hs := by
    intro k
    induction k with
    | zero =>
      intro x hs fq hx hv hq hf h0
      have e : x = yI Y := by omega
      subst e
      have u1' : hs 0 = _ := (hv 0 (by omega) (by omega)).trans u1
      have u2' : hs y = _ := (hv y (by omega) (by omega)).trans u21
      refine vx_go hX [] 9 ?_
      simp only [e_nil, e_iconst, e_bipush, e_sipush, e_lconst, e_ldc_w, e_ldc2_w, e_iload, e_iload_n, e_lload, e_lload_n, e_aload, e_aload_n, e_istore, e_istore_n, e_astore, e_astore_n, e_lstore, e_iinc, e_iadd, e_isub, e_imul, e_iand, e_ior, e_ishl, e_ishr, e_iushr, e_idiv, e_irem, e_ldiv, e_lrem, e_ineg, e_lshl, e_lcmp, e_i2l, e_i2b, e_i2s, e_dup_i, e_dup_r, e_dup2, e_if_eq, e_if_ne, e_if_lt, e_if_ge, e_if_gt, e_if_le, e_icmp_eq, e_icmp_ne, e_icmp_lt, e_icmp_ge, e_icmp_gt, e_icmp_le, e_ifnull_r, e_ifnull_n, e_goto, e_tsw, e_lsw, e_getf, e_puti, e_putz, e_puta, e_new, e_newa, e_anew, e_iald, e_sald, e_iast, e_aald, e_aast, e_alen, e_slen, e_inv, e_acp, e_min, e_max, e_abs, e_ins, e_oinit, e_inx, e_iret, e_lret, e_vret, vx_run_s, List.getElem?_cons_succ, List.getElem?_cons_zero, List.set_cons_succ, List.set_cons_zero, List.mem_cons, List.not_mem_nil, or_false, false_or, if_true, if_false, ite_true, ite_false, ↓reduceIte, reduceCtorEq, List.take_succ_cons, List.take_zero, List.drop_succ_cons, List.drop_zero, List.reverse_cons, List.reverse_nil, List.nil_append, List.cons_append, List.append_nil, List.length_cons, List.length_nil, Option.toList_some, Option.toList_none, vx_nl, vx_isob, true_and, and_true, Nat.reduceAdd, Nat.reduceEqDiff, Nat.reduceLeDiff, Nat.zero_add, Nat.add_zero, not_false_eq_true, not_true_eq_false, Nat.reduceLT, Nat.reduceMul, Nat.reduceSub, Nat.zero_le, vx_up_s, false_implies, true_implies, forall_const, implies_true, imp_self, Nat.le_refl, forall_eq, forall_eq_apply_imp_iff, and_imp, exists_and_left, exists_eq_left, Nat.one_ne_zero, eq_self, true_or, or_true, Option.some.injEq, Value.int.injEq, Value.long.injEq, bk_V_stood_0, bk_V_stood_10, bk_V_stood_25, bk_V_stood_68, bk_V_stood_74, u1', u2', hq]
      refine ⟨fun _ => ⟨vp_in_nI (by omega) (by decide), fun j hj => ?_, ?_⟩, fun q => absurd (Int32.le_refl _) q⟩
      · rw [nI_clamp (by omega)]
        by_cases ej : j = y + 3
        · subst ej
          rw [vx_up_s, u24]
          congr 3
          funext k
          by_cases ek : k = i
          · subst ek; simp [upd]
          · simp [upd, ek, hf k ek]
        · rw [vx_up_n _ _ ej]
          exact hv j hj ej
      · obtain ⟨bo, inn, lr, lm, rows, gf, vb, w1, w2, w3, w4⟩ := h0
        refine ⟨bo, inn, lr, lm, rows, gf, vb, ?_, ?_, ?_, ?_⟩ <;> rw [vx_up_n _ _ (by omega)] <;> assumption
    | succ k ih =>
      intro x hs fq hx hv hq hf h0
      have u1' : hs 0 = _ := (hv 0 (by omega) (by omega)).trans u1
      have u2' : hs y = _ := (hv y (by omega) (by omega)).trans u21
      have hfq : ∀ j, j ≠ i → upd fq i (nI x) j = fp j := fun j hj => by simp [upd, hj, hf j hj]
      have uQ : hQ (vx_up hs (y + 3) (.inl (8, upd fq i (nI x)))) y (yW Y i x) law lf sf := by
        refine ⟨y', tr, fa, fg, fk, upd fq i (nI x), t, ?_, ⟨u20, ?_, ?_, ?_, vx_up_s _ _ _, u25, u26, ?_⟩, ?_, yW_ok u4 (by omega), ?_, u6⟩
        · unfold hV; rw [vx_up_n _ _ (by omega)]; exact u1'
        · rw [vx_up_n _ _ (by omega)]; exact u2'
        · rw [vx_up_n _ _ (by omega), hv _ (by omega) (by omega)]; exact u22
        · rw [vx_up_n _ _ (by omega), hv _ (by omega) (by omega)]; exact u23
        · intro k hk
          show _ = nI (vw_u (yP Y) i x k)
          by_cases ek : k = i
          · subst ek; simp [upd, vw_u]
          · simp [upd, vw_u, ek, hf k ek, u27 k hk]
        · obtain ⟨lf0, sf0, c1, c2, c3, c4⟩ := u3
          refine ⟨lf0, sf0, ?_, ?_, ?_, c4⟩
          · rw [vx_up_n _ _ (by omega), hv _ (by omega) (by omega)]; exact c1
          · rw [vx_up_n _ _ (by omega), hv _ (by omega) (by omega)]; exact c2
          · rw [vx_up_n _ _ (by omega), hv _ (by omega) (by omega)]; exact c3
        · obtain ⟨bo, inn, lr, lm, rows, gf, vb, w1, w2, w3, w4⟩ := h0
          refine ⟨bo, inn, lr, lm, rows, gf, vb, ?_, ?_, ?_, ?_⟩ <;> rw [vx_up_n _ _ (by omega)] <;> assumption
      have hR1 : hT (vx_up hs (y + 3) (.inl (8, upd fq i (nI x)))) 11 8 R := by
        obtain ⟨f1, f2, f3, r1, r2, r3, r4, r5⟩ := hR
        refine ⟨f1, f2, f3, ?_, ?_, ?_, ?_, r5⟩
        · rw [vx_up_n _ _ (by omega), hv _ (by omega) (by omega)]; exact r1
        · rw [vx_up_n _ _ (by omega), hv _ (by omega) (by omega)]; exact r2
        · rw [vx_up_n _ _ (by omega), hv _ (by omega) (by omega)]; exact r3
        · rw [vx_up_n _ _ (by omega), hv _ (by omega) (by omega)]; exact r4
      have u1x : vx_up hs (y + 3) (.inl (8, upd fq i (nI x))) 0 = _ := (vx_up_n _ _ (by omega)).trans u1'
      refine vx_go hX [25] 9 ?_
      simp only [e_nil, e_iconst, e_bipush, e_sipush, e_lconst, e_ldc_w, e_ldc2_w, e_iload, e_iload_n, e_lload, e_lload_n, e_aload, e_aload_n, e_istore, e_istore_n, e_astore, e_astore_n, e_lstore, e_iinc, e_iadd, e_isub, e_imul, e_iand, e_ior, e_ishl, e_ishr, e_iushr, e_idiv, e_irem, e_ldiv, e_lrem, e_ineg, e_lshl, e_lcmp, e_i2l, e_i2b, e_i2s, e_dup_i, e_dup_r, e_dup2, e_if_eq, e_if_ne, e_if_lt, e_if_ge, e_if_gt, e_if_le, e_icmp_eq, e_icmp_ne, e_icmp_lt, e_icmp_ge, e_icmp_gt, e_icmp_le, e_ifnull_r, e_ifnull_n, e_goto, e_tsw, e_lsw, e_getf, e_puti, e_putz, e_puta, e_new, e_newa, e_anew, e_iald, e_sald, e_iast, e_aald, e_aast, e_alen, e_slen, e_inv, e_acp, e_min, e_max, e_abs, e_ins, e_oinit, e_inx, e_iret, e_lret, e_vret, vx_run_s, List.getElem?_cons_succ, List.getElem?_cons_zero, List.set_cons_succ, List.set_cons_zero, List.mem_cons, List.not_mem_nil, or_false, false_or, if_true, if_false, ite_true, ite_false, ↓reduceIte, reduceCtorEq, List.take_succ_cons, List.take_zero, List.drop_succ_cons, List.drop_zero, List.reverse_cons, List.reverse_nil, List.nil_append, List.cons_append, List.append_nil, List.length_cons, List.length_nil, Option.toList_some, Option.toList_none, vx_nl, vx_isob, true_and, and_true, Nat.reduceAdd, Nat.reduceEqDiff, Nat.reduceLeDiff, Nat.zero_add, Nat.add_zero, not_false_eq_true, not_true_eq_false, Nat.reduceLT, Nat.reduceMul, Nat.reduceSub, Nat.zero_le, vx_up_s, false_implies, true_implies, forall_const, implies_true, imp_self, Nat.le_refl, forall_eq, forall_eq_apply_imp_iff, and_imp, exists_and_left, exists_eq_left, Nat.one_ne_zero, eq_self, true_or, or_true, Option.some.injEq, Value.int.injEq, Value.long.injEq, bk_V_stood_0, bk_V_stood_10, bk_V_stood_25, bk_V_stood_68, bk_V_stood_74, u1', u2', hq]
      refine ⟨fun q => absurd q (nI_ge (by omega) (by omega)), fun _ => ⟨vp_in_nI (by omega) (by decide), ?_⟩⟩
      rw [nI_clamp (by omega), u1x]
      simp only [e_nil, e_iconst, e_bipush, e_sipush, e_lconst, e_ldc_w, e_ldc2_w, e_iload, e_iload_n, e_lload, e_lload_n, e_aload, e_aload_n, e_istore, e_istore_n, e_astore, e_astore_n, e_lstore, e_iinc, e_iadd, e_isub, e_imul, e_iand, e_ior, e_ishl, e_ishr, e_iushr, e_idiv, e_irem, e_ldiv, e_lrem, e_ineg, e_lshl, e_lcmp, e_i2l, e_i2b, e_i2s, e_dup_i, e_dup_r, e_dup2, e_if_eq, e_if_ne, e_if_lt, e_if_ge, e_if_gt, e_if_le, e_icmp_eq, e_icmp_ne, e_icmp_lt, e_icmp_ge, e_icmp_gt, e_icmp_le, e_ifnull_r, e_ifnull_n, e_goto, e_tsw, e_lsw, e_getf, e_puti, e_putz, e_puta, e_new, e_newa, e_anew, e_iald, e_sald, e_iast, e_aald, e_aast, e_alen, e_slen, e_inv, e_acp, e_min, e_max, e_abs, e_ins, e_oinit, e_inx, e_iret, e_lret, e_vret, vx_run_s, List.getElem?_cons_succ, List.getElem?_cons_zero, List.set_cons_succ, List.set_cons_zero, List.mem_cons, List.not_mem_nil, or_false, false_or, if_true, if_false, ite_true, ite_false, ↓reduceIte, reduceCtorEq, List.take_succ_cons, List.take_zero, List.drop_succ_cons, List.drop_zero, List.reverse_cons, List.reverse_nil, List.nil_append, List.cons_append, List.append_nil, List.length_cons, List.length_nil, Option.toList_some, Option.toList_none, vx_nl, vx_isob, true_and, and_true, Nat.reduceAdd, Nat.reduceEqDiff, Nat.reduceLeDiff, Nat.zero_add, Nat.add_zero, not_false_eq_true, not_true_eq_false, Nat.reduceLT, Nat.reduceMul, Nat.reduceSub, Nat.zero_le, vx_up_s, false_implies, true_implies, forall_const, implies_true, imp_self, Nat.le_refl, forall_eq, forall_eq_apply_imp_iff, and_imp, exists_and_left, exists_eq_left, Nat.one_ne_zero, eq_self, true_or, or_true, Option.some.injEq, Value.int.injEq, Value.long.injEq, bk_V_stood_0, bk_V_stood_10, bk_V_stood_25, bk_V_stood_68, bk_V_stood_74]
      refine ⟨_, vw_reckonAsItIs _ _ uQ 50 (Nat.le_refl _), ?_⟩
      rintro _ h' ⟨rfl, hr, hv'⟩
      have u1'' : h' 0 = _ := (hv' 0 (by omega)).trans u1x
      simp only [e_nil, e_iconst, e_bipush, e_sipush, e_lconst, e_ldc_w, e_ldc2_w, e_iload, e_iload_n, e_lload, e_lload_n, e_aload, e_aload_n, e_istore, e_istore_n, e_astore, e_astore_n, e_lstore, e_iinc, e_iadd, e_isub, e_imul, e_iand, e_ior, e_ishl, e_ishr, e_iushr, e_idiv, e_irem, e_ldiv, e_lrem, e_ineg, e_lshl, e_lcmp, e_i2l, e_i2b, e_i2s, e_dup_i, e_dup_r, e_dup2, e_if_eq, e_if_ne, e_if_lt, e_if_ge, e_if_gt, e_if_le, e_icmp_eq, e_icmp_ne, e_icmp_lt, e_icmp_ge, e_icmp_gt, e_icmp_le, e_ifnull_r, e_ifnull_n, e_goto, e_tsw, e_lsw, e_getf, e_puti, e_putz, e_puta, e_new, e_newa, e_anew, e_iald, e_sald, e_iast, e_aald, e_aast, e_alen, e_slen, e_inv, e_acp, e_min, e_max, e_abs, e_ins, e_oinit, e_inx, e_iret, e_lret, e_vret, vx_run_s, List.getElem?_cons_succ, List.getElem?_cons_zero, List.set_cons_succ, List.set_cons_zero, List.mem_cons, List.not_mem_nil, or_false, false_or, if_true, if_false, ite_true, ite_false, ↓reduceIte, reduceCtorEq, List.take_succ_cons, List.take_zero, List.drop_succ_cons, List.drop_zero, List.reverse_cons, List.reverse_nil, List.nil_append, List.cons_append, List.append_nil, List.length_cons, List.length_nil, Option.toList_some, Option.toList_none, vx_nl, vx_isob, true_and, and_true, Nat.reduceAdd, Nat.reduceEqDiff, Nat.reduceLeDiff, Nat.zero_add, Nat.add_zero, not_false_eq_true, not_true_eq_false, Nat.reduceLT, Nat.reduceMul, Nat.reduceSub, Nat.zero_le, vx_up_s, false_implies, true_implies, forall_const, implies_true, imp_self, Nat.le_refl, forall_eq, forall_eq_apply_imp_iff, and_imp, exists_and_left, exists_eq_left, Nat.one_ne_zero, eq_self, true_or, or_true, Option.some.injEq, Value.int.injEq, Value.long.injEq, bk_V_stood_0, bk_V_stood_10, bk_V_stood_25, bk_V_stood_68, bk_V_stood_74, u1'']
      refine vx_cl1 (vw_readingsAreSo h' _ (show hV h' y y' law tr fa from u1'') (hR1.mv hv' (by omega)) (show rOk (yW Y i x) R from ro) (yW_ok u4 (by omega)) hr) ?_
      simp only [e_nil, e_iconst, e_bipush, e_sipush, e_lconst, e_ldc_w, e_ldc2_w, e_iload, e_iload_n, e_lload, e_lload_n, e_aload, e_aload_n, e_istore, e_istore_n, e_astore, e_astore_n, e_lstore, e_iinc, e_iadd, e_isub, e_imul, e_iand, e_ior, e_ishl, e_ishr, e_iushr, e_idiv, e_irem, e_ldiv, e_lrem, e_ineg, e_lshl, e_lcmp, e_i2l, e_i2b, e_i2s, e_dup_i, e_dup_r, e_dup2, e_if_eq, e_if_ne, e_if_lt, e_if_ge, e_if_gt, e_if_le, e_icmp_eq, e_icmp_ne, e_icmp_lt, e_icmp_ge, e_icmp_gt, e_icmp_le, e_ifnull_r, e_ifnull_n, e_goto, e_tsw, e_lsw, e_getf, e_puti, e_putz, e_puta, e_new, e_newa, e_anew, e_iald, e_sald, e_iast, e_aald, e_aast, e_alen, e_slen, e_inv, e_acp, e_min, e_max, e_abs, e_ins, e_oinit, e_inx, e_iret, e_lret, e_vret, vx_run_s, List.getElem?_cons_succ, List.getElem?_cons_zero, List.set_cons_succ, List.set_cons_zero, List.mem_cons, List.not_mem_nil, or_false, false_or, if_true, if_false, ite_true, ite_false, ↓reduceIte, reduceCtorEq, List.take_succ_cons, List.take_zero, List.drop_succ_cons, List.drop_zero, List.reverse_cons, List.reverse_nil, List.nil_append, List.cons_append, List.append_nil, List.length_cons, List.length_nil, Option.toList_some, Option.toList_none, vx_nl, vx_isob, true_and, and_true, Nat.reduceAdd, Nat.reduceEqDiff, Nat.reduceLeDiff, Nat.zero_add, Nat.add_zero, not_false_eq_true, not_true_eq_false, Nat.reduceLT, Nat.reduceMul, Nat.reduceSub, Nat.zero_le, vx_up_s, false_implies, true_implies, forall_const, implies_true, imp_self, Nat.le_refl, forall_eq, forall_eq_apply_imp_iff, and_imp, exists_and_left, exists_eq_left, Nat.one_ne_zero, eq_self, true_or, or_true, Option.some.injEq, Value.int.injEq, Value.long.injEq, bk_V_stood_0, bk_V_stood_10, bk_V_stood_25, bk_V_stood_68, bk_V_stood_74, vx_bI_0, nI_1]
      have := ih (x + 1) h' (upd fq i (nI x)) (by omega) (fun j hj hne => by rw [hv' j hj, vx_up_n _ _ hne]; exact hv j hj hne) (by rw [hv' _ (by omega), vx_up_s]) hfq hr.w0
      have eP : P x = vw_so (yW Y i x) law lf sf R := by rw [← hP]
      rw [vw_fset, eP] at this
      refine ⟨fun q => ?_, fun q => ?_⟩
      · rw [if_neg q] at this
        exact this
      · rw [if_pos (Classical.not_not.mp q)] at this
        exact this
  exact loop (yI Y) 0 h fp (by omega) (fun _ _ _ => rfl) u24 (fun _ _ => rfl) u5
