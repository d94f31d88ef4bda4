/-! VoteWalls: forgetRules, yard -/
section RVX
variable {h h' : vx_H} {Y : vw_Y} {law : Int32} {L S R : vw_T} {tr fa : Int32} {SH : Nat → vw_Sh}
def T0 : vw_T := (0, fun _ => 0, fun _ => 0, fun _ => 0)
theorem hT.zero {t most : Nat} (u : hT h t most R) {f1 f2 f3 : Nat → Int32} (e1 : h' t = some (.inr (.inr (3, [.ref (t + 1), .ref (t + 2), .ref (t + 3), .int (nI most), .int 0])))) (w : ve (t + 1) (t + 3) h h') : hT h' t most T0 := by
  obtain ⟨g1, g2, g3, u1, u2, u3, u4, u5, u6, u7⟩ := u
  exact ⟨g1, g2, g3, e1, by rw [w (t + 1) (by omega) (by omega)]; exact u2, by rw [w (t + 2) (by omega) (by omega)]; exact u3, by rw [w (t + 3) (by omega) (by omega)]; exact u4, Nat.zero_le _, u6, fun k hk => absurd hk (Nat.not_lt_zero k)⟩
theorem lOk_0 (n : Nat) : lOk n T0 := fun k hk => absurd hk (Nat.not_lt_zero k)
theorem vw_forgetRules (sz : Nat) (u : RV h Y law L S R tr fa SH) : vx_Ok m_V_forgetRules [.ref 0] sz h (fun r h' => r = none ∧ RV h' Y 0 T0 T0 T0 tr fa SH ∧ vf 0 17 h h') := by
  refine ok_V_forgetRules [some (.ref 0)] (Nat.le_of_ble_eq_true rfl) rfl (fun lim z X hX => ?_)
  obtain ⟨y, y', t, u1, u2, u3, u4, u5, u6, u7, u8, u9, ⟨fg, fk, fp, u10⟩, u11, u12⟩ := u
  unfold hV at u1
  obtain ⟨l1, l2, l3, a1, a2⟩ := id u5
  obtain ⟨k1, k2, k3, b1, b2⟩ := id u6
  obtain ⟨j1, j2, j3, c1, c2⟩ := id u7
  obtain ⟨lf0, sf0, d1, d2, d3, d4⟩ := id u8
  refine vx_go hX [] 9 ?_
  simp only [e_nil, e_iconst, e_bipush, e_sipush, e_lconst, e_ldc_w, e_ldc2_w, e_iload, e_iload_n, e_lload, e_lload_n, e_aload, e_aload_n, e_istore, e_istore_n, e_astore, e_astore_n, e_lstore, e_iinc, e_iadd, e_isub, e_imul, e_iand, e_ior, e_ishl, e_ishr, e_iushr, e_idiv, e_irem, e_ldiv, e_lrem, e_ineg, e_lshl, e_lcmp, e_i2l, e_i2b, e_i2s, e_dup_i, e_dup_r, e_dup2, e_if_eq, e_if_ne, e_if_lt, e_if_ge, e_if_gt, e_if_le, e_icmp_eq, e_icmp_ne, e_icmp_lt, e_icmp_ge, e_icmp_gt, e_icmp_le, e_ifnull_r, e_ifnull_n, e_goto, e_tsw, e_lsw, e_getf, e_puti, e_putz, e_puta, e_new, e_newa, e_anew, e_iald, e_sald, e_iast, e_aald, e_aast, e_alen, e_slen, e_inv, e_acp, e_min, e_max, e_abs, e_ins, e_oinit, e_inx, e_iret, e_lret, e_vret, vx_run_s, List.getElem?_cons_succ, List.getElem?_cons_zero, List.set_cons_succ, List.set_cons_zero, List.mem_cons, List.not_mem_nil, or_false, false_or, if_true, if_false, ite_true, ite_false, ↓reduceIte, reduceCtorEq, List.take_succ_cons, List.take_zero, List.drop_succ_cons, List.drop_zero, List.reverse_cons, List.reverse_nil, List.nil_append, List.cons_append, List.append_nil, List.length_cons, List.length_nil, Option.toList_some, Option.toList_none, vx_nl, vx_isob, true_and, and_true, Nat.reduceAdd, Nat.reduceEqDiff, Nat.reduceLeDiff, Nat.zero_add, Nat.add_zero, not_false_eq_true, not_true_eq_false, Nat.reduceLT, Nat.reduceMul, Nat.reduceSub, Nat.zero_le, vx_up_s, false_implies, true_implies, forall_const, implies_true, imp_self, Nat.le_refl, forall_eq, forall_eq_apply_imp_iff, and_imp, exists_and_left, exists_eq_left, Nat.one_ne_zero, eq_self, true_or, or_true, Option.some.injEq, Value.int.injEq, Value.long.injEq, bk_V_forgetRules_0, u1, a1, b1, c1, d1, vx_up_a]
  generalize hg : vx_up (vx_up (vx_up (vx_up h 0 _) 3 _) 7 _) 11 _ = g
  have g0 : g 0 = some (.inr (.inr (6, [.ref 1, .ref 2, .ref 3, .ref 7, .ref 11, .ref 15, .ref 18, .ref y, .ref y', .int 0, .int tr, .int fa]))) := by subst hg; rfl
  have g3 : g 3 = some (.inr (.inr (3, [.ref 4, .ref 5, .ref 6, .int (nI 6), .int 0]))) := by subst hg; rfl
  have g7 : g 7 = some (.inr (.inr (3, [.ref 8, .ref 9, .ref 10, .int (nI 6), .int 0]))) := by subst hg; rfl
  have g11 : g 11 = some (.inr (.inr (3, [.ref 12, .ref 13, .ref 14, .int (nI 8), .int 0]))) := by subst hg; rfl
  have ge : ∀ k, k ≠ 0 → k ≠ 3 → k ≠ 7 → k ≠ 11 → g k = h k := by
    intro k n0 n3 n7 n11
    subst hg
    rw [vx_up_n _ _ n11, vx_up_n _ _ n7, vx_up_n _ _ n3, vx_up_n _ _ n0]
  have t3 : hT g 3 6 T0 := hT.zero (f1 := l1) (f2 := l1) (f3 := l1) u5 g3 (fun k p q => ge k (by omega) (by omega) (by omega) (by omega))
  have t7 : hT g 7 6 T0 := hT.zero (f1 := l1) (f2 := l1) (f3 := l1) u6 g7 (fun k p q => ge k (by omega) (by omega) (by omega) (by omega))
  have t11 : hT g 11 8 T0 := hT.zero (f1 := l1) (f2 := l1) (f3 := l1) u7 g11 (fun k p q => ge k (by omega) (by omega) (by omega) (by omega))
  refine ⟨_, vw_mark g _ t3 t7 (lOk_0 0) (lOk_0 0) lf0 sf0 _ ((ge 15 (by decide) (by decide) (by decide) (by decide)).trans d1) ((ge 16 (by decide) (by decide) (by decide) (by decide)).trans d2) ((ge 17 (by decide) (by decide) (by decide) (by decide)).trans d3), ?_⟩
  rintro _ hm ⟨rfl, hvm, tm, hcm⟩
  simp only [e_nil, e_iconst, e_bipush, e_sipush, e_lconst, e_ldc_w, e_ldc2_w, e_iload, e_iload_n, e_lload, e_lload_n, e_aload, e_aload_n, e_istore, e_istore_n, e_astore, e_astore_n, e_lstore, e_iinc, e_iadd, e_isub, e_imul, e_iand, e_ior, e_ishl, e_ishr, e_iushr, e_idiv, e_irem, e_ldiv, e_lrem, e_ineg, e_lshl, e_lcmp, e_i2l, e_i2b, e_i2s, e_dup_i, e_dup_r, e_dup2, e_if_eq, e_if_ne, e_if_lt, e_if_ge, e_if_gt, e_if_le, e_icmp_eq, e_icmp_ne, e_icmp_lt, e_icmp_ge, e_icmp_gt, e_icmp_le, e_ifnull_r, e_ifnull_n, e_goto, e_tsw, e_lsw, e_getf, e_puti, e_putz, e_puta, e_new, e_newa, e_anew, e_iald, e_sald, e_iast, e_aald, e_aast, e_alen, e_slen, e_inv, e_acp, e_min, e_max, e_abs, e_ins, e_oinit, e_inx, e_iret, e_lret, e_vret, vx_run_s, List.getElem?_cons_succ, List.getElem?_cons_zero, List.set_cons_succ, List.set_cons_zero, List.mem_cons, List.not_mem_nil, or_false, false_or, if_true, if_false, ite_true, ite_false, ↓reduceIte, reduceCtorEq, List.take_succ_cons, List.take_zero, List.drop_succ_cons, List.drop_zero, List.reverse_cons, List.reverse_nil, List.nil_append, List.cons_append, List.append_nil, List.length_cons, List.length_nil, Option.toList_some, Option.toList_none, vx_nl, vx_isob, true_and, and_true, Nat.reduceAdd, Nat.reduceEqDiff, Nat.reduceLeDiff, Nat.zero_add, Nat.add_zero, not_false_eq_true, not_true_eq_false, Nat.reduceLT, Nat.reduceMul, Nat.reduceSub, Nat.zero_le, vx_up_s, false_implies, true_implies, forall_const, implies_true, imp_self, Nat.le_refl, forall_eq, forall_eq_apply_imp_iff, and_imp, exists_and_left, exists_eq_left, Nat.one_ne_zero, eq_self, true_or, or_true, Option.some.injEq, Value.int.injEq, Value.long.injEq, bk_V_forgetRules_0]
  have gv : hV g y y' 0 tr fa := g0
  have ge2 : ve 15 37 h g := fun k p q => ge k (by omega) (by omega) (by omega) (by omega)
  refine ⟨⟨y, y', tm, gv.eq (hvm.ve (by omega)), u2, (u3.eq (fun k p q => ge k (by omega) (by omega) (by omega) (by omega))).eq (hvm.ve (by omega)), (u4.eq (fun k p q => ge k (by omega) (by omega) (by omega) (by omega))).eq (hvm.ve (by omega)), t3.eq (hvm.ve (by omega)), t7.eq (hvm.ve (by omega)), t11.eq (hvm.ve (by omega)), hcm, (u9.eq (fun k p q => ge2 k (by omega) (by omega))).eq (hvm.ve (by omega)), ⟨fg, fk, fp, (u10.eq (fun k p q => ge2 k (by omega) (by omega))).eq (hvm.ve (by omega))⟩, (u11.eq (fun k p q => ge2 k (by omega) (by omega)) (by omega)).eq (hvm.ve (by omega)) (by omega), (u12.eq (fun k p q => ge2 k (by omega) (by omega))).eq (hvm.ve (by omega))⟩, ?_⟩
  intro k hk
  rw [hvm k (by omega)]
  exact ge k (by omega) (by omega) (by omega) (by omega)
end RVX
