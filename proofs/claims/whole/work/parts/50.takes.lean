/-! the reader: takes -/
def p_yd (c : Nat → Int32) (n : Nat) : Option vw_Y × Nat := match p_in c n 0 with
  | (none, p) => (none, p)
  | (some I, p) => match p_bds c n I 5 0 0 (fun _ => 0) p with
    | (false, _, _, p) => (none, p)
    | (true, B, g, p) => match p_prs c n I 8 0 (fun _ => 0) (fun _ => 0) p with
      | (false, _, _, _, p) => (none, p)
      | (true, N, K, P, p) => if p = n then (some (I, B, N, g, K, P), p) else (none, p)
def TkP (h : vx_H) (x i n y : Nat) (R : Option vw_Y × Nat) (v : Int32) (h' : vx_H) : Prop := v = vx_bI (R.1.isSome = true) ∧ hR h' x i n R.2 ∧ vr y h h' ∧ hSp h' y ∧ ∀ Y, R.1 = some Y → ∃ fg fk fp, hYd h' y Y fg fk fp
theorem hYr.sp {h : vx_H} {y : Nat} {a b c : Int32} {f1 f2 f3 : Nat → Int32} (u : hYr h y a b c f1 f2 f3) : hSp h y := ⟨a, b, c, f1, f2, f3, u.1, u.2.1, u.2.2.1, u.2.2.2⟩
theorem p_in_le (c : Nat → Int32) {n p : Nat} (hp : p ≤ n) : (p_in c n p).2 ≤ n := by
  unfold p_in
  split
  · rename_i q; exact p_num_le c q.1
  · exact hp
theorem p_in_in {c : Nat → Int32} {n p v : Nat} (h : (p_in c n p).1 = some v) : 4 ≤ v ∧ v ≤ 30 := by
  unfold p_in at h
  split at h
  · have := p_num_in h; omega
  · cases h
theorem vw_takes (h : vx_H) (sz x y : Nat) (s : vw_Sh) (hx : 30 ≤ x) (hy : y = 22 ∨ y = 26) (u : hSh h x s) {i n : Nat} (hrd : hRd h) (hin : i + n ≤ s.2.1) (hsp : hSp h y) : vx_Ok m_Tr_takes [.ref 2, .ref x, .int (nI i), .int (nI n), .ref y] sz h (fun r h' => ∃ v, r = some (.int v) ∧ TkP h x i n y (p_yd (tx s i) n) v h') := by
  generalize hR0 : p_yd (tx s i) n = R0
  refine ok_Tr_takes [some (.ref 2), some (.ref x), some (.int (nI i)), some (.int (nI n)), some (.ref y)] (Nat.le_of_ble_eq_true rfl) rfl (fun lim z X hX => ?_)
  obtain ⟨v0, a0, b0, c0, r⟩ := hrd
  obtain ⟨a, b, c, f1, f2, f3, s1, s2, s3, s4⟩ := hsp
  have hn60 : n ≤ 60 := by obtain ⟨f, a1, a2, a3, a4⟩ := u; omega
  have hyr : hYr h y a b c f1 f2 f3 := ⟨s1, s2, s3, s4⟩
  refine vx_go hX [] 9 ?_
  simp only [e_nil, e_iconst, e_bipush, e_sipush, e_lconst, e_ldc_w, e_ldc2_w, e_iload, e_iload_n, e_lload, e_lload_n, e_aload, e_aload_n, e_istore, e_istore_n, e_astore, e_astore_n, e_lstore, e_iinc, e_iadd, e_isub, e_imul, e_iand, e_ior, e_ishl, e_ishr, e_iushr, e_idiv, e_irem, e_ldiv, e_lrem, e_ineg, e_lshl, e_lcmp, e_i2l, e_i2b, e_i2s, e_dup_i, e_dup_r, e_dup2, e_if_eq, e_if_ne, e_if_lt, e_if_ge, e_if_gt, e_if_le, e_icmp_eq, e_icmp_ne, e_icmp_lt, e_icmp_ge, e_icmp_gt, e_icmp_le, e_ifnull_r, e_ifnull_n, e_goto, e_tsw, e_lsw, e_getf, e_puti, e_putz, e_puta, e_new, e_newa, e_anew, e_iald, e_sald, e_iast, e_aald, e_aast, e_alen, e_slen, e_inv, e_acp, e_min, e_max, e_abs, e_ins, e_oinit, e_inx, e_iret, e_lret, e_vret, vx_run_s, List.getElem?_cons_succ, List.getElem?_cons_zero, List.set_cons_succ, List.set_cons_zero, List.mem_cons, List.not_mem_nil, or_false, false_or, if_true, if_false, ite_true, ite_false, ↓reduceIte, reduceCtorEq, List.take_succ_cons, List.take_zero, List.drop_succ_cons, List.drop_zero, List.reverse_cons, List.reverse_nil, List.nil_append, List.cons_append, List.append_nil, List.length_cons, List.length_nil, Option.toList_some, Option.toList_none, vx_nl, vx_isob, true_and, and_true, Nat.reduceAdd, Nat.reduceEqDiff, Nat.reduceLeDiff, Nat.zero_add, Nat.add_zero, not_false_eq_true, not_true_eq_false, Nat.reduceLT, Nat.reduceMul, Nat.reduceSub, Nat.zero_le, vx_up_s, false_implies, true_implies, forall_const, implies_true, imp_self, Nat.le_refl, forall_eq, forall_eq_apply_imp_iff, and_imp, exists_and_left, exists_eq_left, Nat.one_ne_zero, eq_self, true_or, or_true, Option.some.injEq, Value.int.injEq, Value.long.injEq, bk_Tr_takes_0, bk_Tr_takes_62, bk_Tr_takes_63, r]
  have q1 : hR (atR h x i n 0) x i n 0 := hR.at h x i n 0
  have q2 := hyr.at (by omega) x i n 0
  have q3 : vr y h (atR h x i n 0) := vr.at
  unfold p_yd at hR0
  rw [vx_up_up, vx_up_up, vx_up_up, show vx_up h 2 (.inr (.inr (2, [.ref x, .int (nI i), .int (nI n), .int 0]))) = atR h x i n 0 from rfl]
  generalize atR h x i n 0 = g0 at q1 q2 q3 ⊢
  refine ⟨_, vw_takeInches g0 _ x y s hx (by omega) (u.vr q3 hx (by omega)) q1 hin (by omega) q2, ?_⟩
  rintro _ g1 ⟨rfl, t1, ⟨a', t2, t3⟩, t4⟩
  have hle := p_in_le (tx s i) (n := n) (p := 0) (by omega)
  cases e : p_in (tx s i) n 0 with
  | mk o p1 =>
    rw [e] at t1 t3 hle
    simp only [e] at hR0
    cases o with
    | none =>
      rw [show vx_bI (((none : Option Nat), p1).1.isSome = true) = 0 from vx_bI_f Bool.false_ne_true]
      simp only [e_nil, e_iconst, e_bipush, e_sipush, e_lconst, e_ldc_w, e_ldc2_w, e_iload, e_iload_n, e_lload, e_lload_n, e_aload, e_aload_n, e_istore, e_istore_n, e_astore, e_astore_n, e_lstore, e_iinc, e_iadd, e_isub, e_imul, e_iand, e_ior, e_ishl, e_ishr, e_iushr, e_idiv, e_irem, e_ldiv, e_lrem, e_ineg, e_lshl, e_lcmp, e_i2l, e_i2b, e_i2s, e_dup_i, e_dup_r, e_dup2, e_if_eq, e_if_ne, e_if_lt, e_if_ge, e_if_gt, e_if_le, e_icmp_eq, e_icmp_ne, e_icmp_lt, e_icmp_ge, e_icmp_gt, e_icmp_le, e_ifnull_r, e_ifnull_n, e_goto, e_tsw, e_lsw, e_getf, e_puti, e_putz, e_puta, e_new, e_newa, e_anew, e_iald, e_sald, e_iast, e_aald, e_aast, e_alen, e_slen, e_inv, e_acp, e_min, e_max, e_abs, e_ins, e_oinit, e_inx, e_iret, e_lret, e_vret, vx_run_s, List.getElem?_cons_succ, List.getElem?_cons_zero, List.set_cons_succ, List.set_cons_zero, List.mem_cons, List.not_mem_nil, or_false, false_or, if_true, if_false, ite_true, ite_false, ↓reduceIte, reduceCtorEq, List.take_succ_cons, List.take_zero, List.drop_succ_cons, List.drop_zero, List.reverse_cons, List.reverse_nil, List.nil_append, List.cons_append, List.append_nil, List.length_cons, List.length_nil, Option.toList_some, Option.toList_none, vx_nl, vx_isob, true_and, and_true, Nat.reduceAdd, Nat.reduceEqDiff, Nat.reduceLeDiff, Nat.zero_add, Nat.add_zero, not_false_eq_true, not_true_eq_false, Nat.reduceLT, Nat.reduceMul, Nat.reduceSub, Nat.zero_le, vx_up_s, false_implies, true_implies, forall_const, implies_true, imp_self, Nat.le_refl, forall_eq, forall_eq_apply_imp_iff, and_imp, exists_and_left, exists_eq_left, Nat.one_ne_zero, eq_self, true_or, or_true, Option.some.injEq, Value.int.injEq, Value.long.injEq, bk_Tr_takes_0, bk_Tr_takes_62, bk_Tr_takes_63]
      subst hR0
      exact ⟨0, rfl, (vx_bI_f Bool.false_ne_true).symm, t1, q3.tr t4, t2.sp, fun Y hY => by cases hY⟩
    | some I =>
      have hI : 4 ≤ I ∧ I ≤ 30 := p_in_in (by rw [e])
      have e2 := t3 I rfl
      subst e2
      rw [show vx_bI ((some I, p1).1.isSome = true) = 1 from vx_bI_t rfl]
      have t1' := t1
      unfold hR at t1'
      simp only [e_nil, e_iconst, e_bipush, e_sipush, e_lconst, e_ldc_w, e_ldc2_w, e_iload, e_iload_n, e_lload, e_lload_n, e_aload, e_aload_n, e_istore, e_istore_n, e_astore, e_astore_n, e_lstore, e_iinc, e_iadd, e_isub, e_imul, e_iand, e_ior, e_ishl, e_ishr, e_iushr, e_idiv, e_irem, e_ldiv, e_lrem, e_ineg, e_lshl, e_lcmp, e_i2l, e_i2b, e_i2s, e_dup_i, e_dup_r, e_dup2, e_if_eq, e_if_ne, e_if_lt, e_if_ge, e_if_gt, e_if_le, e_icmp_eq, e_icmp_ne, e_icmp_lt, e_icmp_ge, e_icmp_gt, e_icmp_le, e_ifnull_r, e_ifnull_n, e_goto, e_tsw, e_lsw, e_getf, e_puti, e_putz, e_puta, e_new, e_newa, e_anew, e_iald, e_sald, e_iast, e_aald, e_aast, e_alen, e_slen, e_inv, e_acp, e_min, e_max, e_abs, e_ins, e_oinit, e_inx, e_iret, e_lret, e_vret, vx_run_s, List.getElem?_cons_succ, List.getElem?_cons_zero, List.set_cons_succ, List.set_cons_zero, List.mem_cons, List.not_mem_nil, or_false, false_or, if_true, if_false, ite_true, ite_false, ↓reduceIte, reduceCtorEq, List.take_succ_cons, List.take_zero, List.drop_succ_cons, List.drop_zero, List.reverse_cons, List.reverse_nil, List.nil_append, List.cons_append, List.append_nil, List.length_cons, List.length_nil, Option.toList_some, Option.toList_none, vx_nl, vx_isob, true_and, and_true, Nat.reduceAdd, Nat.reduceEqDiff, Nat.reduceLeDiff, Nat.zero_add, Nat.add_zero, not_false_eq_true, not_true_eq_false, Nat.reduceLT, Nat.reduceMul, Nat.reduceSub, Nat.zero_le, vx_up_s, false_implies, true_implies, forall_const, implies_true, imp_self, Nat.le_refl, forall_eq, forall_eq_apply_imp_iff, and_imp, exists_and_left, exists_eq_left, Nat.one_ne_zero, eq_self, true_or, or_true, Option.some.injEq, Value.int.injEq, Value.long.injEq, bk_Tr_takes_0, bk_Tr_takes_62, bk_Tr_takes_63, t1']
      refine ⟨fun q => absurd q (by decide), fun _ => ?_⟩
      refine ⟨_, vw_takeBoards g1 _ x y s hx (by omega) (u.vr (q3.tr t4) hx (by omega)) hI t1 hin hle t2 (fun _ => 0), ?_⟩
      rintro _ g2 ⟨w, rfl, b1, b2, b3, b4, f1', b', b5, b6⟩
      cases e3 : p_bds (tx s i) n I 5 0 0 (fun _ => 0) p1 with
      | mk ok rest =>
        obtain ⟨B, g, p2⟩ := rest
        rw [e3] at b1 b2 b3 b6
        simp only [e3] at hR0
        cases ok with
        | false =>
          rw [b1, vx_bI_f Bool.false_ne_true]
          simp only [e_nil, e_iconst, e_bipush, e_sipush, e_lconst, e_ldc_w, e_ldc2_w, e_iload, e_iload_n, e_lload, e_lload_n, e_aload, e_aload_n, e_istore, e_istore_n, e_astore, e_astore_n, e_lstore, e_iinc, e_iadd, e_isub, e_imul, e_iand, e_ior, e_ishl, e_ishr, e_iushr, e_idiv, e_irem, e_ldiv, e_lrem, e_ineg, e_lshl, e_lcmp, e_i2l, e_i2b, e_i2s, e_dup_i, e_dup_r, e_dup2, e_if_eq, e_if_ne, e_if_lt, e_if_ge, e_if_gt, e_if_le, e_icmp_eq, e_icmp_ne, e_icmp_lt, e_icmp_ge, e_icmp_gt, e_icmp_le, e_ifnull_r, e_ifnull_n, e_goto, e_tsw, e_lsw, e_getf, e_puti, e_putz, e_puta, e_new, e_newa, e_anew, e_iald, e_sald, e_iast, e_aald, e_aast, e_alen, e_slen, e_inv, e_acp, e_min, e_max, e_abs, e_ins, e_oinit, e_inx, e_iret, e_lret, e_vret, vx_run_s, List.getElem?_cons_succ, List.getElem?_cons_zero, List.set_cons_succ, List.set_cons_zero, List.mem_cons, List.not_mem_nil, or_false, false_or, if_true, if_false, ite_true, ite_false, ↓reduceIte, reduceCtorEq, List.take_succ_cons, List.take_zero, List.drop_succ_cons, List.drop_zero, List.reverse_cons, List.reverse_nil, List.nil_append, List.cons_append, List.append_nil, List.length_cons, List.length_nil, Option.toList_some, Option.toList_none, vx_nl, vx_isob, true_and, and_true, Nat.reduceAdd, Nat.reduceEqDiff, Nat.reduceLeDiff, Nat.zero_add, Nat.add_zero, not_false_eq_true, not_true_eq_false, Nat.reduceLT, Nat.reduceMul, Nat.reduceSub, Nat.zero_le, vx_up_s, false_implies, true_implies, forall_const, implies_true, imp_self, Nat.le_refl, forall_eq, forall_eq_apply_imp_iff, and_imp, exists_and_left, exists_eq_left, Nat.one_ne_zero, eq_self, true_or, or_true, Option.some.injEq, Value.int.injEq, Value.long.injEq, bk_Tr_takes_0, bk_Tr_takes_62, bk_Tr_takes_63]
          subst hR0
          exact ⟨0, rfl, (vx_bI_f Bool.false_ne_true).symm, b2, (q3.tr t4).tr b4, b5.sp, fun Y hY => by cases hY⟩
        | true =>
          obtain ⟨rfl, b7⟩ := b6 rfl
          rw [b1, vx_bI_t rfl]
          have b2' := b2
          unfold hR at b2'
          simp only [e_nil, e_iconst, e_bipush, e_sipush, e_lconst, e_ldc_w, e_ldc2_w, e_iload, e_iload_n, e_lload, e_lload_n, e_aload, e_aload_n, e_istore, e_istore_n, e_astore, e_astore_n, e_lstore, e_iinc, e_iadd, e_isub, e_imul, e_iand, e_ior, e_ishl, e_ishr, e_iushr, e_idiv, e_irem, e_ldiv, e_lrem, e_ineg, e_lshl, e_lcmp, e_i2l, e_i2b, e_i2s, e_dup_i, e_dup_r, e_dup2, e_if_eq, e_if_ne, e_if_lt, e_if_ge, e_if_gt, e_if_le, e_icmp_eq, e_icmp_ne, e_icmp_lt, e_icmp_ge, e_icmp_gt, e_icmp_le, e_ifnull_r, e_ifnull_n, e_goto, e_tsw, e_lsw, e_getf, e_puti, e_putz, e_puta, e_new, e_newa, e_anew, e_iald, e_sald, e_iast, e_aald, e_aast, e_alen, e_slen, e_inv, e_acp, e_min, e_max, e_abs, e_ins, e_oinit, e_inx, e_iret, e_lret, e_vret, vx_run_s, List.getElem?_cons_succ, List.getElem?_cons_zero, List.set_cons_succ, List.set_cons_zero, List.mem_cons, List.not_mem_nil, or_false, false_or, if_true, if_false, ite_true, ite_false, ↓reduceIte, reduceCtorEq, List.take_succ_cons, List.take_zero, List.drop_succ_cons, List.drop_zero, List.reverse_cons, List.reverse_nil, List.nil_append, List.cons_append, List.append_nil, List.length_cons, List.length_nil, Option.toList_some, Option.toList_none, vx_nl, vx_isob, true_and, and_true, Nat.reduceAdd, Nat.reduceEqDiff, Nat.reduceLeDiff, Nat.zero_add, Nat.add_zero, not_false_eq_true, not_true_eq_false, Nat.reduceLT, Nat.reduceMul, Nat.reduceSub, Nat.zero_le, vx_up_s, false_implies, true_implies, forall_const, implies_true, imp_self, Nat.le_refl, forall_eq, forall_eq_apply_imp_iff, and_imp, exists_and_left, exists_eq_left, Nat.one_ne_zero, eq_self, true_or, or_true, Option.some.injEq, Value.int.injEq, Value.long.injEq, bk_Tr_takes_0, bk_Tr_takes_62, bk_Tr_takes_63, b2']
          refine ⟨fun q => absurd q (by decide), fun _ => ?_⟩
          refine ⟨_, vw_takePrisoners g2 _ x y s hx (by omega) (u.vr ((q3.tr t4).tr b4) hx (by omega)) hI b2 hin b3 b5 (fun _ => 0) (fun _ => 0), ?_⟩
          rintro _ g3 ⟨w, rfl, c1, c2, c3, c4, f2', f3', c', c5, c6⟩
          cases e4 : p_prs (tx s i) n I 8 0 (fun _ => 0) (fun _ => 0) p2 with
          | mk ok rest =>
            obtain ⟨N, K, P, p3⟩ := rest
            rw [e4] at c1 c2 c3 c6
            simp only [e4] at hR0
            have cv := ((q3.tr t4).tr b4).tr c4
            cases ok with
            | false =>
              rw [c1, vx_bI_f Bool.false_ne_true]
              simp only [e_nil, e_iconst, e_bipush, e_sipush, e_lconst, e_ldc_w, e_ldc2_w, e_iload, e_iload_n, e_lload, e_lload_n, e_aload, e_aload_n, e_istore, e_istore_n, e_astore, e_astore_n, e_lstore, e_iinc, e_iadd, e_isub, e_imul, e_iand, e_ior, e_ishl, e_ishr, e_iushr, e_idiv, e_irem, e_ldiv, e_lrem, e_ineg, e_lshl, e_lcmp, e_i2l, e_i2b, e_i2s, e_dup_i, e_dup_r, e_dup2, e_if_eq, e_if_ne, e_if_lt, e_if_ge, e_if_gt, e_if_le, e_icmp_eq, e_icmp_ne, e_icmp_lt, e_icmp_ge, e_icmp_gt, e_icmp_le, e_ifnull_r, e_ifnull_n, e_goto, e_tsw, e_lsw, e_getf, e_puti, e_putz, e_puta, e_new, e_newa, e_anew, e_iald, e_sald, e_iast, e_aald, e_aast, e_alen, e_slen, e_inv, e_acp, e_min, e_max, e_abs, e_ins, e_oinit, e_inx, e_iret, e_lret, e_vret, vx_run_s, List.getElem?_cons_succ, List.getElem?_cons_zero, List.set_cons_succ, List.set_cons_zero, List.mem_cons, List.not_mem_nil, or_false, false_or, if_true, if_false, ite_true, ite_false, ↓reduceIte, reduceCtorEq, List.take_succ_cons, List.take_zero, List.drop_succ_cons, List.drop_zero, List.reverse_cons, List.reverse_nil, List.nil_append, List.cons_append, List.append_nil, List.length_cons, List.length_nil, Option.toList_some, Option.toList_none, vx_nl, vx_isob, true_and, and_true, Nat.reduceAdd, Nat.reduceEqDiff, Nat.reduceLeDiff, Nat.zero_add, Nat.add_zero, not_false_eq_true, not_true_eq_false, Nat.reduceLT, Nat.reduceMul, Nat.reduceSub, Nat.zero_le, vx_up_s, false_implies, true_implies, forall_const, implies_true, imp_self, Nat.le_refl, forall_eq, forall_eq_apply_imp_iff, and_imp, exists_and_left, exists_eq_left, Nat.one_ne_zero, eq_self, true_or, or_true, Option.some.injEq, Value.int.injEq, Value.long.injEq, bk_Tr_takes_0, bk_Tr_takes_62, bk_Tr_takes_63]
              subst hR0
              exact ⟨0, rfl, (vx_bI_f Bool.false_ne_true).symm, c2, cv, c5.sp, fun Y hY => by cases hY⟩
            | true =>
              obtain ⟨rfl, c7⟩ := c6 rfl
              rw [c1, vx_bI_t rfl]
              have c2' := c2
              unfold hR at c2'
              have c3 : p3 ≤ n := c3
              simp only [e_nil, e_iconst, e_bipush, e_sipush, e_lconst, e_ldc_w, e_ldc2_w, e_iload, e_iload_n, e_lload, e_lload_n, e_aload, e_aload_n, e_istore, e_istore_n, e_astore, e_astore_n, e_lstore, e_iinc, e_iadd, e_isub, e_imul, e_iand, e_ior, e_ishl, e_ishr, e_iushr, e_idiv, e_irem, e_ldiv, e_lrem, e_ineg, e_lshl, e_lcmp, e_i2l, e_i2b, e_i2s, e_dup_i, e_dup_r, e_dup2, e_if_eq, e_if_ne, e_if_lt, e_if_ge, e_if_gt, e_if_le, e_icmp_eq, e_icmp_ne, e_icmp_lt, e_icmp_ge, e_icmp_gt, e_icmp_le, e_ifnull_r, e_ifnull_n, e_goto, e_tsw, e_lsw, e_getf, e_puti, e_putz, e_puta, e_new, e_newa, e_anew, e_iald, e_sald, e_iast, e_aald, e_aast, e_alen, e_slen, e_inv, e_acp, e_min, e_max, e_abs, e_ins, e_oinit, e_inx, e_iret, e_lret, e_vret, vx_run_s, List.getElem?_cons_succ, List.getElem?_cons_zero, List.set_cons_succ, List.set_cons_zero, List.mem_cons, List.not_mem_nil, or_false, false_or, if_true, if_false, ite_true, ite_false, ↓reduceIte, reduceCtorEq, List.take_succ_cons, List.take_zero, List.drop_succ_cons, List.drop_zero, List.reverse_cons, List.reverse_nil, List.nil_append, List.cons_append, List.append_nil, List.length_cons, List.length_nil, Option.toList_some, Option.toList_none, vx_nl, vx_isob, true_and, and_true, Nat.reduceAdd, Nat.reduceEqDiff, Nat.reduceLeDiff, Nat.zero_add, Nat.add_zero, not_false_eq_true, not_true_eq_false, Nat.reduceLT, Nat.reduceMul, Nat.reduceSub, Nat.zero_le, vx_up_s, false_implies, true_implies, forall_const, implies_true, imp_self, Nat.le_refl, forall_eq, forall_eq_apply_imp_iff, and_imp, exists_and_left, exists_eq_left, Nat.one_ne_zero, eq_self, true_or, or_true, Option.some.injEq, Value.int.injEq, Value.long.injEq, bk_Tr_takes_0, bk_Tr_takes_62, bk_Tr_takes_63, c2']
              refine ⟨fun q => absurd q (by decide), fun _ => ⟨fun q => ?_, fun q => ?_⟩⟩
              · have hR1 : (if p3 = n then (some ((I, B, N, g, K, P) : vw_Y), p3) else (none, p3)) = R0 := hR0
                rw [if_neg (fun c => q (by rw [c]))] at hR1
                subst hR1
                exact ⟨0, rfl, (vx_bI_f Bool.false_ne_true).symm, c2, cv, c5.sp, fun Y hY => by cases hY⟩
              · have hR1 : (if p3 = n then (some ((I, B, N, g, K, P) : vw_Y), p3) else (none, p3)) = R0 := hR0
                rw [if_pos ((nI_eq (by omega) (by omega)).mp q)] at hR1
                subst hR1
                refine ⟨1, rfl, (vx_bI_t rfl).symm, c2, cv, c5.sp, fun Y hY => ?_⟩
                cases hY
                exact ⟨_, _, _, hy, c5.1, c5.2.1, c5.2.2.1, c5.2.2.2, b7, fun j hj => (c7 j hj).1, fun j hj => (c7 j hj).2⟩
