/-! VoteWalls: yard -/
section RVX
variable {h h' : vx_H} {Y : vw_Y} {law : Int32} {L S R : vw_T} {tr fa : Int32} {SH : Nat → vw_Sh}
theorem sh_fc_0 {s : vw_Sh} {l i n : Int32} (h : sh_fc s l i n = 0) : sh_in s.2.1 i n := by
  unfold sh_fc at h
  split at h
  · exact absurd h (by decide)
  · split at h
    · split at h
      · split at h
        · assumption
        · exact absurd h (by decide)
      · exact absurd h (by decide)
    · exact absurd h (by decide)
theorem sh_fc_n (s : vw_Sh) (l i n : Int32) : ¬ (-10 - sh_fc s l i n = 0) := by
  unfold sh_fc
  split
  · decide
  · split
    · split
      · split <;> decide
      · decide
    · decide
theorem refusal_0 {k l i n : Int32} (h : a_refusal SH k l i n = 0) : (0 ≤ k ∧ k < 4) ∧ sh_in (SH k.toNatClampNeg).2.1 i n ∧ f_refusal SH k l i n = 0 := by
  unfold a_refusal at h
  split at h
  · rename_i q
    split at h
    · rename_i q2
      split at h
      · rename_i q3
        exact ⟨q, sh_fc_0 q3, by unfold f_refusal; rw [if_pos q, if_pos q2]; exact q3⟩
      · exact absurd h (sh_fc_n _ _ _ _)
    · exact absurd h (by decide)
  · exact absurd h (by decide)
def o_yard (SH : Nat → vw_Sh) (k l i n : Int32) : Option (Option vw_Y × Nat) := if a_refusal SH k l i n = 0 then some (p_yd (tx (SH k.toNatClampNeg) i.toNatClampNeg) n.toNatClampNeg) else none
def a_yard (SH : Nat → vw_Sh) (k l i n : Int32) : Int32 := match o_yard SH k l i n with
  | none => a_refusal SH k l i n
  | some (none, p) => -100 - nI p
  | some (some Y, _) => nI (yN Y)
def YdS (h' : vx_H) (Y : vw_Y) (law : Int32) (L S R : vw_T) (tr fa : Int32) (SH : Nat → vw_Sh) (o : Option (Option vw_Y × Nat)) : Prop := match o with
  | some (some Y', _) => RV h' Y' 0 T0 T0 T0 tr fa SH
  | some (none, _) => RV h' Y law L S R tr fa SH
  | none => RV h' Y law L S R tr fa SH
theorem vw_yard (sz : Nat) (u : RV h Y law L S R tr fa SH) (k l i n : Int32) : vx_Ok m_V_yard [.ref 0, .int k, .int l, .int i, .int n] sz h (fun r h' => r = some (.int (a_yard SH k l i n)) ∧ YdS h' Y law L S R tr (f_refusal SH k l i n) SH (o_yard SH k l i n) ∧ vf 0 37 h h') := by
  unfold a_yard
  generalize ho : o_yard SH k l i n = o
  refine ok_V_yard [some (.ref 0), some (.int k), some (.int l), some (.int i), some (.int n), none, none] (Nat.le_of_ble_eq_true rfl) rfl (fun lim z X hX => ?_)
  obtain ⟨y, y', t0, u1, u2⟩ := id u
  unfold hV at u1
  unfold o_yard at ho
  refine vx_go hX [] 9 ?_
  simp only [e_nil, e_iconst, e_bipush, e_sipush, e_lconst, e_ldc_w, e_ldc2_w, e_iload, e_iload_n, e_lload, e_lload_n, e_aload, e_aload_n, e_istore, e_istore_n, e_astore, e_astore_n, e_lstore, e_iinc, e_iadd, e_isub, e_imul, e_iand, e_ior, e_ishl, e_ishr, e_iushr, e_idiv, e_irem, e_ldiv, e_lrem, e_ineg, e_lshl, e_lcmp, e_i2l, e_i2b, e_i2s, e_dup_i, e_dup_r, e_dup2, e_if_eq, e_if_ne, e_if_lt, e_if_ge, e_if_gt, e_if_le, e_icmp_eq, e_icmp_ne, e_icmp_lt, e_icmp_ge, e_icmp_gt, e_icmp_le, e_ifnull_r, e_ifnull_n, e_goto, e_tsw, e_lsw, e_getf, e_puti, e_putz, e_puta, e_new, e_newa, e_anew, e_iald, e_sald, e_iast, e_aald, e_aast, e_alen, e_slen, e_inv, e_acp, e_min, e_max, e_abs, e_ins, e_oinit, e_inx, e_iret, e_lret, e_vret, vx_run_s, List.getElem?_cons_succ, List.getElem?_cons_zero, List.set_cons_succ, List.set_cons_zero, List.mem_cons, List.not_mem_nil, or_false, false_or, if_true, if_false, ite_true, ite_false, ↓reduceIte, reduceCtorEq, List.take_succ_cons, List.take_zero, List.drop_succ_cons, List.drop_zero, List.reverse_cons, List.reverse_nil, List.nil_append, List.cons_append, List.append_nil, List.length_cons, List.length_nil, Option.toList_some, Option.toList_none, vx_nl, vx_isob, true_and, and_true, Nat.reduceAdd, Nat.reduceEqDiff, Nat.reduceLeDiff, Nat.zero_add, Nat.add_zero, not_false_eq_true, not_true_eq_false, Nat.reduceLT, Nat.reduceMul, Nat.reduceSub, Nat.zero_le, vx_up_s, false_implies, true_implies, forall_const, implies_true, imp_self, Nat.le_refl, forall_eq, forall_eq_apply_imp_iff, and_imp, exists_and_left, exists_eq_left, Nat.one_ne_zero, eq_self, true_or, or_true, Option.some.injEq, Value.int.injEq, Value.long.injEq, bk_V_yard_0, bk_V_yard_19, bk_V_yard_53, u1]
  refine ⟨_, vw_refusal _ u k l i n, ?_⟩
  rintro _ g ⟨rfl, w, vf0⟩
  obtain ⟨z1, z2, t1, x1, x2, ⟨sa, sa1, sa2⟩, x4, x5, x6, x7, x8, x9, ⟨fg, fk, fp, x10⟩, x11, x12⟩ := id w
  have wv := x1
  unfold hV at x1
  obtain ⟨v0, a0, b0, c0, rd⟩ := id x4
  simp only [e_nil, e_iconst, e_bipush, e_sipush, e_lconst, e_ldc_w, e_ldc2_w, e_iload, e_iload_n, e_lload, e_lload_n, e_aload, e_aload_n, e_istore, e_istore_n, e_astore, e_astore_n, e_lstore, e_iinc, e_iadd, e_isub, e_imul, e_iand, e_ior, e_ishl, e_ishr, e_iushr, e_idiv, e_irem, e_ldiv, e_lrem, e_ineg, e_lshl, e_lcmp, e_i2l, e_i2b, e_i2s, e_dup_i, e_dup_r, e_dup2, e_if_eq, e_if_ne, e_if_lt, e_if_ge, e_if_gt, e_if_le, e_icmp_eq, e_icmp_ne, e_icmp_lt, e_icmp_ge, e_icmp_gt, e_icmp_le, e_ifnull_r, e_ifnull_n, e_goto, e_tsw, e_lsw, e_getf, e_puti, e_putz, e_puta, e_new, e_newa, e_anew, e_iald, e_sald, e_iast, e_aald, e_aast, e_alen, e_slen, e_inv, e_acp, e_min, e_max, e_abs, e_ins, e_oinit, e_inx, e_iret, e_lret, e_vret, vx_run_s, List.getElem?_cons_succ, List.getElem?_cons_zero, List.set_cons_succ, List.set_cons_zero, List.mem_cons, List.not_mem_nil, or_false, false_or, if_true, if_false, ite_true, ite_false, ↓reduceIte, reduceCtorEq, List.take_succ_cons, List.take_zero, List.drop_succ_cons, List.drop_zero, List.reverse_cons, List.reverse_nil, List.nil_append, List.cons_append, List.append_nil, List.length_cons, List.length_nil, Option.toList_some, Option.toList_none, vx_nl, vx_isob, true_and, and_true, Nat.reduceAdd, Nat.reduceEqDiff, Nat.reduceLeDiff, Nat.zero_add, Nat.add_zero, not_false_eq_true, not_true_eq_false, Nat.reduceLT, Nat.reduceMul, Nat.reduceSub, Nat.zero_le, vx_up_s, false_implies, true_implies, forall_const, implies_true, imp_self, Nat.le_refl, forall_eq, forall_eq_apply_imp_iff, and_imp, exists_and_left, exists_eq_left, Nat.one_ne_zero, eq_self, true_or, or_true, Option.some.injEq, Value.int.injEq, Value.long.injEq, bk_V_yard_0, bk_V_yard_19, bk_V_yard_53, x1, sa1, rd]
  refine ⟨fun q => ?_, fun q => ?_⟩
  · obtain ⟨qk, qi, qf⟩ := refusal_0 q
    rw [if_pos q] at ho
    obtain ⟨a, ha, rfl, e1⟩ := nI_arg (n := 4) (by decide) qk
    rw [e1] at ho qi
    obtain ⟨f, p1, p2, p3, p4⟩ := id (x12 a ha)
    obtain ⟨ni, nn, hin, rfl, rfl, e2, e3⟩ := sh_in_nat p3 qi
    rw [e2, e3] at ho
    rw [e1, sa2 a ha]
    refine ⟨vp_in_nI ha (by decide), ?_⟩
    simp only [e_nil, e_iconst, e_bipush, e_sipush, e_lconst, e_ldc_w, e_ldc2_w, e_iload, e_iload_n, e_lload, e_lload_n, e_aload, e_aload_n, e_istore, e_istore_n, e_astore, e_astore_n, e_lstore, e_iinc, e_iadd, e_isub, e_imul, e_iand, e_ior, e_ishl, e_ishr, e_iushr, e_idiv, e_irem, e_ldiv, e_lrem, e_ineg, e_lshl, e_lcmp, e_i2l, e_i2b, e_i2s, e_dup_i, e_dup_r, e_dup2, e_if_eq, e_if_ne, e_if_lt, e_if_ge, e_if_gt, e_if_le, e_icmp_eq, e_icmp_ne, e_icmp_lt, e_icmp_ge, e_icmp_gt, e_icmp_le, e_ifnull_r, e_ifnull_n, e_goto, e_tsw, e_lsw, e_getf, e_puti, e_putz, e_puta, e_new, e_newa, e_anew, e_iald, e_sald, e_iast, e_aald, e_aast, e_alen, e_slen, e_inv, e_acp, e_min, e_max, e_abs, e_ins, e_oinit, e_inx, e_iret, e_lret, e_vret, vx_run_s, List.getElem?_cons_succ, List.getElem?_cons_zero, List.set_cons_succ, List.set_cons_zero, List.mem_cons, List.not_mem_nil, or_false, false_or, if_true, if_false, ite_true, ite_false, ↓reduceIte, reduceCtorEq, List.take_succ_cons, List.take_zero, List.drop_succ_cons, List.drop_zero, List.reverse_cons, List.reverse_nil, List.nil_append, List.cons_append, List.append_nil, List.length_cons, List.length_nil, Option.toList_some, Option.toList_none, vx_nl, vx_isob, true_and, and_true, Nat.reduceAdd, Nat.reduceEqDiff, Nat.reduceLeDiff, Nat.zero_add, Nat.add_zero, not_false_eq_true, not_true_eq_false, Nat.reduceLT, Nat.reduceMul, Nat.reduceSub, Nat.zero_le, vx_up_s, false_implies, true_implies, forall_const, implies_true, imp_self, Nat.le_refl, forall_eq, forall_eq_apply_imp_iff, and_imp, exists_and_left, exists_eq_left, Nat.one_ne_zero, eq_self, true_or, or_true, Option.some.injEq, Value.int.injEq, Value.long.injEq, bk_V_yard_0, bk_V_yard_19, bk_V_yard_53, rd]
    refine ⟨_, vw_takes g _ (30 + 2 * a) z2 (SH a) (by omega) (by omega) (x12 a ha) x4 hin x11, ?_⟩
    rintro _ g2 ⟨v, rfl, k1, k2, k3, k4, k5⟩
    have wv2 : hV g2 z1 z2 law tr (f_refusal SH (nI a) l (nI ni) (nI nn)) := wv.eq (fun j h1 h2 => k3 j (by omega) (by omega))
    have wv3 := wv2
    unfold hV at wv3
    have vf2 : vf 0 37 h g2 := (vf0.wk (by omega) (by omega)).tr (fun j hj => k3 j (by omega) (by omega))
    cases e4 : p_yd (tx (SH a) ni) nn with
    | mk oy p =>
      rw [e4] at ho k1 k2 k5
      subst ho
      have k2' := k2
      unfold hR at k2'
      have base : ∀ {Yn : vw_Y} {s1 s2 : Nat} {g3 : vx_H}, hV g3 s1 s2 law tr (f_refusal SH (nI a) l (nI ni) (nI nn)) → ((s1 = 22 ∧ s2 = 26) ∨ (s1 = 26 ∧ s2 = 22)) → ve 1 37 g2 g3 → (∃ fg fk fp, hYd g3 s1 Yn fg fk fp) → hSp g3 s2 → RV g3 Yn law L S R tr (f_refusal SH (nI a) l (nI ni) (nI nn)) SH := by
        intro Yn s1 s2 g3 hv hs hve hyd hsp
        have E : ∀ j, 1 ≤ j → j ≤ 37 → j ≠ 2 → (j < z2 ∨ z2 + 3 < j) → g3 j = g j := fun j a1 a2 a3 a4 => (hve j a1 a2).trans (k3 j a3 a4)
        exact ⟨s1, s2, t1, hv, hs, hSA.eq ⟨sa, sa1, sa2⟩ (fun j a1 a2 => E j (by omega) (by omega) (by omega) (by omega)), ⟨_, _, _, _, (hve 2 (by omega) (by omega)).trans k2'⟩, x5.eq (fun j a1 a2 => E j (by omega) (by omega) (by omega) (by omega)), x6.eq (fun j a1 a2 => E j (by omega) (by omega) (by omega) (by omega)), x7.eq (fun j a1 a2 => E j (by omega) (by omega) (by omega) (by omega)), x8.eq (fun j a1 a2 => E j (by omega) (by omega) (by omega) (by omega)), x9.eq (fun j a1 a2 => E j (by omega) (by omega) (by omega) (by omega)), hyd, hsp, x12.eq (fun j a1 a2 => E j (by omega) (by omega) (by omega) (by omega))⟩
      have X10 : hYd g2 z1 Y fg fk fp := by
        obtain ⟨d0, d1, d2, d3, d4, d5⟩ := x10
        exact ⟨d0, (k3 _ (by omega) (by omega)).trans d1, (k3 _ (by omega) (by omega)).trans d2, (k3 _ (by omega) (by omega)).trans d3, (k3 _ (by omega) (by omega)).trans d4, d5⟩
      cases oy with
      | none =>
        rw [show v = 0 from k1.trans (vx_bI_f Bool.false_ne_true)]
        simp only [e_nil, e_iconst, e_bipush, e_sipush, e_lconst, e_ldc_w, e_ldc2_w, e_iload, e_iload_n, e_lload, e_lload_n, e_aload, e_aload_n, e_istore, e_istore_n, e_astore, e_astore_n, e_lstore, e_iinc, e_iadd, e_isub, e_imul, e_iand, e_ior, e_ishl, e_ishr, e_iushr, e_idiv, e_irem, e_ldiv, e_lrem, e_ineg, e_lshl, e_lcmp, e_i2l, e_i2b, e_i2s, e_dup_i, e_dup_r, e_dup2, e_if_eq, e_if_ne, e_if_lt, e_if_ge, e_if_gt, e_if_le, e_icmp_eq, e_icmp_ne, e_icmp_lt, e_icmp_ge, e_icmp_gt, e_icmp_le, e_ifnull_r, e_ifnull_n, e_goto, e_tsw, e_lsw, e_getf, e_puti, e_putz, e_puta, e_new, e_newa, e_anew, e_iald, e_sald, e_iast, e_aald, e_aast, e_alen, e_slen, e_inv, e_acp, e_min, e_max, e_abs, e_ins, e_oinit, e_inx, e_iret, e_lret, e_vret, vx_run_s, List.getElem?_cons_succ, List.getElem?_cons_zero, List.set_cons_succ, List.set_cons_zero, List.mem_cons, List.not_mem_nil, or_false, false_or, if_true, if_false, ite_true, ite_false, ↓reduceIte, reduceCtorEq, List.take_succ_cons, List.take_zero, List.drop_succ_cons, List.drop_zero, List.reverse_cons, List.reverse_nil, List.nil_append, List.cons_append, List.append_nil, List.length_cons, List.length_nil, Option.toList_some, Option.toList_none, vx_nl, vx_isob, true_and, and_true, Nat.reduceAdd, Nat.reduceEqDiff, Nat.reduceLeDiff, Nat.zero_add, Nat.add_zero, not_false_eq_true, not_true_eq_false, Nat.reduceLT, Nat.reduceMul, Nat.reduceSub, Nat.zero_le, vx_up_s, false_implies, true_implies, forall_const, implies_true, imp_self, Nat.le_refl, forall_eq, forall_eq_apply_imp_iff, and_imp, exists_and_left, exists_eq_left, Nat.one_ne_zero, eq_self, true_or, or_true, Option.some.injEq, Value.int.injEq, Value.long.injEq, bk_V_yard_0, bk_V_yard_19, bk_V_yard_53, wv3, k2']
        exact ⟨base wv2 x2 (fun _ _ _ => rfl) ⟨fg, fk, fp, X10⟩ k4, vf2⟩
      | some Yn =>
        rw [show v = 1 from k1.trans (vx_bI_t rfl)]
        simp only [e_nil, e_iconst, e_bipush, e_sipush, e_lconst, e_ldc_w, e_ldc2_w, e_iload, e_iload_n, e_lload, e_lload_n, e_aload, e_aload_n, e_istore, e_istore_n, e_astore, e_astore_n, e_lstore, e_iinc, e_iadd, e_isub, e_imul, e_iand, e_ior, e_ishl, e_ishr, e_iushr, e_idiv, e_irem, e_ldiv, e_lrem, e_ineg, e_lshl, e_lcmp, e_i2l, e_i2b, e_i2s, e_dup_i, e_dup_r, e_dup2, e_if_eq, e_if_ne, e_if_lt, e_if_ge, e_if_gt, e_if_le, e_icmp_eq, e_icmp_ne, e_icmp_lt, e_icmp_ge, e_icmp_gt, e_icmp_le, e_ifnull_r, e_ifnull_n, e_goto, e_tsw, e_lsw, e_getf, e_puti, e_putz, e_puta, e_new, e_newa, e_anew, e_iald, e_sald, e_iast, e_aald, e_aast, e_alen, e_slen, e_inv, e_acp, e_min, e_max, e_abs, e_ins, e_oinit, e_inx, e_iret, e_lret, e_vret, vx_run_s, List.getElem?_cons_succ, List.getElem?_cons_zero, List.set_cons_succ, List.set_cons_zero, List.mem_cons, List.not_mem_nil, or_false, false_or, if_true, if_false, ite_true, ite_false, ↓reduceIte, reduceCtorEq, List.take_succ_cons, List.take_zero, List.drop_succ_cons, List.drop_zero, List.reverse_cons, List.reverse_nil, List.nil_append, List.cons_append, List.append_nil, List.length_cons, List.length_nil, Option.toList_some, Option.toList_none, vx_nl, vx_isob, true_and, and_true, Nat.reduceAdd, Nat.reduceEqDiff, Nat.reduceLeDiff, Nat.zero_add, Nat.add_zero, not_false_eq_true, not_true_eq_false, Nat.reduceLT, Nat.reduceMul, Nat.reduceSub, Nat.zero_le, vx_up_s, false_implies, true_implies, forall_const, implies_true, imp_self, Nat.le_refl, forall_eq, forall_eq_apply_imp_iff, and_imp, exists_and_left, exists_eq_left, Nat.one_ne_zero, eq_self, true_or, or_true, Option.some.injEq, Value.int.injEq, Value.long.injEq, bk_V_yard_0, bk_V_yard_19, bk_V_yard_53, wv3, k2']
        refine ⟨fun _ => ?_, fun q9 => absurd q9 (by decide)⟩
        rw [vx_up_up]
        have vg : ve 1 37 g2 (vx_up g2 0 (.inr (.inr (6, [.ref 1, .ref 2, .ref 3, .ref 7, .ref 11, .ref 15, .ref 18, .ref z2, .ref z1, .int law, .int tr, .int (f_refusal SH (nI a) l (nI ni) (nI nn))])))) := fun j a1 a2 => vx_up_n _ _ (by omega)
        have vf3 : vf 0 37 h (vx_up g2 0 (.inr (.inr (6, [.ref 1, .ref 2, .ref 3, .ref 7, .ref 11, .ref 15, .ref 18, .ref z2, .ref z1, .int law, .int tr, .int (f_refusal SH (nI a) l (nI ni) (nI nn))])))) := vf2.tr (vf.up (by omega) (by omega))
        have hv3 : hV (vx_up g2 0 (.inr (.inr (6, [.ref 1, .ref 2, .ref 3, .ref 7, .ref 11, .ref 15, .ref 18, .ref z2, .ref z1, .int law, .int tr, .int (f_refusal SH (nI a) l (nI ni) (nI nn))])))) z2 z1 law tr (f_refusal SH (nI a) l (nI ni) (nI nn)) := vx_up_s _ _ _
        generalize vx_up g2 0 (.inr (.inr (6, [.ref 1, .ref 2, .ref 3, .ref 7, .ref 11, .ref 15, .ref 18, .ref z2, .ref z1, .int law, .int tr, .int (f_refusal SH (nI a) l (nI ni) (nI nn))]))) = g3 at vg vf3 hv3 ⊢
        obtain ⟨fg', fk', fp', kd⟩ := k5 Yn rfl
        have sp1 : hSp g2 z1 := ⟨_, _, _, _, _, _, X10.2.1, X10.2.2.1, X10.2.2.2.1, X10.2.2.2.2.1⟩
        have w3 := base (Yn := Yn) hv3 (by omega) vg ⟨fg', fk', fp', kd.eq (fun j a1 a2 => vg j (by omega) (by omega))⟩ (sp1.eq (fun j a1 a2 => vg j (by omega) (by omega)) (by omega))
        refine ⟨_, vw_forgetRules _ w3, ?_⟩
        rintro _ g4 ⟨rfl, w4, vf4⟩
        obtain ⟨s1, s2, t4, m1, m2, m3, m4, m5, m6, m7, m8, m9, ⟨hg, hk, hp, m10⟩, m11, m12⟩ := id w4
        unfold hV at m1
        have m10' := m10.2.1
        simp only [e_nil, e_iconst, e_bipush, e_sipush, e_lconst, e_ldc_w, e_ldc2_w, e_iload, e_iload_n, e_lload, e_lload_n, e_aload, e_aload_n, e_istore, e_istore_n, e_astore, e_astore_n, e_lstore, e_iinc, e_iadd, e_isub, e_imul, e_iand, e_ior, e_ishl, e_ishr, e_iushr, e_idiv, e_irem, e_ldiv, e_lrem, e_ineg, e_lshl, e_lcmp, e_i2l, e_i2b, e_i2s, e_dup_i, e_dup_r, e_dup2, e_if_eq, e_if_ne, e_if_lt, e_if_ge, e_if_gt, e_if_le, e_icmp_eq, e_icmp_ne, e_icmp_lt, e_icmp_ge, e_icmp_gt, e_icmp_le, e_ifnull_r, e_ifnull_n, e_goto, e_tsw, e_lsw, e_getf, e_puti, e_putz, e_puta, e_new, e_newa, e_anew, e_iald, e_sald, e_iast, e_aald, e_aast, e_alen, e_slen, e_inv, e_acp, e_min, e_max, e_abs, e_ins, e_oinit, e_inx, e_iret, e_lret, e_vret, vx_run_s, List.getElem?_cons_succ, List.getElem?_cons_zero, List.set_cons_succ, List.set_cons_zero, List.mem_cons, List.not_mem_nil, or_false, false_or, if_true, if_false, ite_true, ite_false, ↓reduceIte, reduceCtorEq, List.take_succ_cons, List.take_zero, List.drop_succ_cons, List.drop_zero, List.reverse_cons, List.reverse_nil, List.nil_append, List.cons_append, List.append_nil, List.length_cons, List.length_nil, Option.toList_some, Option.toList_none, vx_nl, vx_isob, true_and, and_true, Nat.reduceAdd, Nat.reduceEqDiff, Nat.reduceLeDiff, Nat.zero_add, Nat.add_zero, not_false_eq_true, not_true_eq_false, Nat.reduceLT, Nat.reduceMul, Nat.reduceSub, Nat.zero_le, vx_up_s, false_implies, true_implies, forall_const, implies_true, imp_self, Nat.le_refl, forall_eq, forall_eq_apply_imp_iff, and_imp, exists_and_left, exists_eq_left, Nat.one_ne_zero, eq_self, true_or, or_true, Option.some.injEq, Value.int.injEq, Value.long.injEq, bk_V_yard_0, bk_V_yard_19, bk_V_yard_53, m1, m10']
        exact ⟨w4, vf3.tr (vf4.wk (by omega) (by omega))⟩
  · rw [if_neg q] at ho
    subst ho
    exact ⟨rfl, w, vf0.wk (by omega) (by omega)⟩
end RVX
