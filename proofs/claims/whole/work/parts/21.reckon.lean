/-! Weeks: reckon -/
def hW0 (h : vx_H) : Prop := ∃ (bo inn lr lm : Int32) (rows gf vb : Nat → Int32), h 18 = some (.inr (.inr (4, [.ref 19, .ref 20, .ref 21, .int bo, .int inn, .int lr, .int lm]))) ∧ h 19 = some (.inl (255, rows)) ∧ h 20 = some (.inl (5, gf)) ∧ h 21 = some (.inl (31, vb))
theorem hW.w0 {h : vx_H} {Y : vw_Y} {rows gf vb : Nat → Int32} {lr lm : Int32} (hw : hW h Y rows gf vb lr lm) : hW0 h := ⟨_, _, _, _, _, _, _, hw⟩
def hC (h : vx_H) (lf sf : Nat → Int32) (t : Nat) : Prop := ∃ lf0 sf0 : Nat → Int32, h 15 = some (.inr (.inr (0, [.ref 16, .ref 17, .int (nI t)]))) ∧ h 16 = some (.inl (50, lf0)) ∧ h 17 = some (.inl (50, sf0)) ∧ (∀ j, j < 50 → lf0 j = lf j ∧ sf0 j = sf j) ∧ t < 50 ∧ ∀ j, t ≤ j → j < 50 → lf j = lf t ∧ sf j = sf t
theorem hC.mv {h h' : vx_H} {lf sf : Nat → Int32} {t : Nat} (u : hC h lf sf t) (w : vf 18 21 h h') : hC h' lf sf t := by
  obtain ⟨lf0, sf0, u1, u2, u3, u4⟩ := u
  exact ⟨lf0, sf0, by rw [w 15 (by omega)]; exact u1, by rw [w 16 (by omega)]; exact u2, by rw [w 17 (by omega)]; exact u3, u4⟩
theorem va_cpy_in {f g : Nat → Int32} {sp dp n j : Nat} (h : j < n) : va_cpy f g sp dp n (dp + j) = f (sp + j) := by
  unfold va_cpy
  rw [if_pos ⟨by omega, by omega⟩]
  congr 1; omega
theorem va_cpy_out {f g : Nat → Int32} {sp dp n j : Nat} (h : j < dp ∨ dp + n ≤ j) : va_cpy f g sp dp n j = g j := by
  unfold va_cpy
  rw [if_neg (by omega)]
theorem vw_begin (h : vx_H) (sz : Nat) (y : Nat) (Y : vw_Y) (fg fk fp rows gf vb : Nat → Int32) (bo inn lr lm : Int32) (w1 : h 18 = some (.inr (.inr (4, [.ref 19, .ref 20, .ref 21, .int bo, .int inn, .int lr, .int lm])))) (w2 : h 19 = some (.inl (255, rows))) (w3 : h 20 = some (.inl (5, gf))) (w4 : h 21 = some (.inl (31, vb))) (hd : hYd h y Y fg fk fp) :
    vx_Ok m_Wk_begin [.ref 18, .ref y] sz h (fun r h' => r = none ∧ ∃ rows' gf', (∀ b, b < 5 → gf' b = fg b ∧ rows' b = fg b) ∧ hW h' Y rows' gf' vb (-1) (-1) ∧ vf 18 21 h h') := by
  refine ok_Wk_begin [some (.ref 18), some (.ref y)] (Nat.le_of_ble_eq_true rfl) rfl (fun lim z X hX => ?_)
  obtain ⟨u0, u1, u2, u3, u4, u5, u6, u7⟩ := hd
  refine vx_go hX [] 9 ?_
  have key : ∀ h' : vx_H, h' = vx_up (vx_up (vx_up h 18 (.inr (.inr (4, [.ref 19, .ref 20, .ref 21, .int (nI (yB Y)), .int (nI (yI Y)), .int (-1), .int (-1)])))) 20 (.inl (5, va_cpy fg gf (0 : Int32).toNatClampNeg (0 : Int32).toNatClampNeg (5 : Int32).toNatClampNeg))) 19 (.inl (255, va_cpy (va_cpy fg gf (0 : Int32).toNatClampNeg (0 : Int32).toNatClampNeg (5 : Int32).toNatClampNeg) rows (0 : Int32).toNatClampNeg (0 : Int32).toNatClampNeg (5 : Int32).toNatClampNeg)) →
      ∃ rows' gf', (∀ b, b < 5 → gf' b = fg b ∧ rows' b = fg b) ∧ hW h' Y rows' gf' vb (-1) (-1) ∧ vf 18 21 h h' := by
    rintro h' rfl
    have e0 : (0 : Int32).toNatClampNeg = 0 := rfl
    have e5 : (5 : Int32).toNatClampNeg = 5 := rfl
    rw [e0, e5]
    refine ⟨va_cpy (va_cpy fg gf 0 0 5) rows 0 0 5, va_cpy fg gf 0 0 5, fun b hb => ?_, ⟨?_, ?_, ?_, ?_⟩, ?_⟩
    rotate_left
    · simp [vx_up_a]
    · simp [vx_up_a]
    · simp [vx_up_a]
    · simp [vx_up_a, w4]
    · exact ((vf.up (by omega) (by omega)).tr (vf.up (by omega) (by omega))).tr (vf.up (by omega) (by omega))
    · have i1 : va_cpy fg gf 0 0 5 b = fg b := by
        have := va_cpy_in (f := fg) (g := gf) (sp := 0) (dp := 0) hb
        simpa using this
      have i2 : va_cpy (va_cpy fg gf 0 0 5) rows 0 0 5 b = fg b := by
        have := va_cpy_in (f := va_cpy fg gf 0 0 5) (g := rows) (sp := 0) (dp := 0) hb
        simp only [Nat.zero_add] at this
        rw [this, i1]
      exact ⟨i1, i2⟩
  rcases u0 with rfl | rfl
  · simp only [e_nil, e_iconst, e_bipush, e_sipush, e_lconst, e_ldc_w, e_ldc2_w, e_iload, e_iload_n, e_lload, e_lload_n, e_aload, e_aload_n, e_istore, e_istore_n, e_astore, e_astore_n, e_lstore, e_iinc, e_iadd, e_isub, e_imul, e_iand, e_ior, e_ishl, e_ishr, e_iushr, e_idiv, e_irem, e_ldiv, e_lrem, e_ineg, e_lshl, e_lcmp, e_i2l, e_i2b, e_i2s, e_dup_i, e_dup_r, e_dup2, e_if_eq, e_if_ne, e_if_lt, e_if_ge, e_if_gt, e_if_le, e_icmp_eq, e_icmp_ne, e_icmp_lt, e_icmp_ge, e_icmp_gt, e_icmp_le, e_ifnull_r, e_ifnull_n, e_goto, e_tsw, e_lsw, e_getf, e_puti, e_putz, e_puta, e_new, e_newa, e_anew, e_iald, e_sald, e_iast, e_aald, e_aast, e_alen, e_slen, e_inv, e_acp, e_min, e_max, e_abs, e_ins, e_oinit, e_inx, e_iret, e_lret, e_vret, vx_run_s, List.getElem?_cons_succ, List.getElem?_cons_zero, List.set_cons_succ, List.set_cons_zero, List.mem_cons, List.not_mem_nil, or_false, false_or, if_true, if_false, ite_true, ite_false, ↓reduceIte, reduceCtorEq, List.take_succ_cons, List.take_zero, List.drop_succ_cons, List.drop_zero, List.reverse_cons, List.reverse_nil, List.nil_append, List.cons_append, List.append_nil, List.length_cons, List.length_nil, Option.toList_some, Option.toList_none, vx_nl, vx_isob, true_and, and_true, Nat.reduceAdd, Nat.reduceEqDiff, Nat.reduceLeDiff, Nat.zero_add, Nat.add_zero, not_false_eq_true, not_true_eq_false, Nat.reduceLT, Nat.reduceMul, Nat.reduceSub, Nat.zero_le, vx_up_s, false_implies, true_implies, forall_const, implies_true, imp_self, Nat.le_refl, forall_eq, forall_eq_apply_imp_iff, and_imp, exists_and_left, exists_eq_left, Nat.one_ne_zero, eq_self, true_or, or_true, Option.some.injEq, Value.int.injEq, Value.long.injEq, bk_Wk_begin_0, w1, w2, w3, u1, u2, vx_up_a, vx_up_up]
    refine ⟨by decide, by decide, by decide, by decide, by decide, by decide, by decide, by decide, by decide, by decide, key _ ?_⟩
    rfl
  · simp only [e_nil, e_iconst, e_bipush, e_sipush, e_lconst, e_ldc_w, e_ldc2_w, e_iload, e_iload_n, e_lload, e_lload_n, e_aload, e_aload_n, e_istore, e_istore_n, e_astore, e_astore_n, e_lstore, e_iinc, e_iadd, e_isub, e_imul, e_iand, e_ior, e_ishl, e_ishr, e_iushr, e_idiv, e_irem, e_ldiv, e_lrem, e_ineg, e_lshl, e_lcmp, e_i2l, e_i2b, e_i2s, e_dup_i, e_dup_r, e_dup2, e_if_eq, e_if_ne, e_if_lt, e_if_ge, e_if_gt, e_if_le, e_icmp_eq, e_icmp_ne, e_icmp_lt, e_icmp_ge, e_icmp_gt, e_icmp_le, e_ifnull_r, e_ifnull_n, e_goto, e_tsw, e_lsw, e_getf, e_puti, e_putz, e_puta, e_new, e_newa, e_anew, e_iald, e_sald, e_iast, e_aald, e_aast, e_alen, e_slen, e_inv, e_acp, e_min, e_max, e_abs, e_ins, e_oinit, e_inx, e_iret, e_lret, e_vret, vx_run_s, List.getElem?_cons_succ, List.getElem?_cons_zero, List.set_cons_succ, List.set_cons_zero, List.mem_cons, List.not_mem_nil, or_false, false_or, if_true, if_false, ite_true, ite_false, ↓reduceIte, reduceCtorEq, List.take_succ_cons, List.take_zero, List.drop_succ_cons, List.drop_zero, List.reverse_cons, List.reverse_nil, List.nil_append, List.cons_append, List.append_nil, List.length_cons, List.length_nil, Option.toList_some, Option.toList_none, vx_nl, vx_isob, true_and, and_true, Nat.reduceAdd, Nat.reduceEqDiff, Nat.reduceLeDiff, Nat.zero_add, Nat.add_zero, not_false_eq_true, not_true_eq_false, Nat.reduceLT, Nat.reduceMul, Nat.reduceSub, Nat.zero_le, vx_up_s, false_implies, true_implies, forall_const, implies_true, imp_self, Nat.le_refl, forall_eq, forall_eq_apply_imp_iff, and_imp, exists_and_left, exists_eq_left, Nat.one_ne_zero, eq_self, true_or, or_true, Option.some.injEq, Value.int.injEq, Value.long.injEq, bk_Wk_begin_0, w1, w2, w3, u1, u2, vx_up_a, vx_up_up]
    refine ⟨by decide, by decide, by decide, by decide, by decide, by decide, by decide, by decide, by decide, by decide, key _ ?_⟩
    rfl
