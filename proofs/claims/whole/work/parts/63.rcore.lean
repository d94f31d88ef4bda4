/-! the reference: cells, edges, votes -/
section RW
variable {h : vx_H} {Y : vw_Y} {law lt su : Int32} {L S R : vw_T} {fa tr hm : Int32} {gf : Nat → Int32}
set_option maxRecDepth 100000 in
set_option maxHeartbeats 4000000 in
theorem rv_within (h : vx_H) (sz : Nat) (v a b : Int32) : vx_Ok m_R_within [.int v, .int a, .int b] sz h (fun r h' => r = some (.int (vx_bI (a ≤ v ∧ v ≤ b))) ∧ h' = h) := by
  refine ok_R_within [some (.int v), some (.int a), some (.int b)] (Nat.le_of_ble_eq_true rfl) rfl (fun lim z X hX => ?_)
  refine vx_go hX [] 9 ?_
  simp only [e_nil, e_iconst, e_bipush, e_sipush, e_lconst, e_ldc_w, e_ldc2_w, e_iload, e_iload_n, e_lload, e_lload_n, e_aload, e_aload_n, e_istore, e_istore_n, e_astore, e_astore_n, e_lstore, e_iinc, e_iadd, e_isub, e_imul, e_iand, e_ior, e_ishl, e_ishr, e_iushr, e_idiv, e_irem, e_ldiv, e_lrem, e_ineg, e_lshl, e_lcmp, e_i2l, e_i2b, e_i2s, e_dup_i, e_dup_r, e_dup2, e_if_eq, e_if_ne, e_if_lt, e_if_ge, e_if_gt, e_if_le, e_icmp_eq, e_icmp_ne, e_icmp_lt, e_icmp_ge, e_icmp_gt, e_icmp_le, e_ifnull_r, e_ifnull_n, e_goto, e_tsw, e_lsw, e_getf, e_puti, e_putz, e_puta, e_new, e_newa, e_anew, e_iald, e_sald, e_iast, e_aald, e_aast, e_alen, e_slen, e_inv, e_acp, e_min, e_max, e_abs, e_ins, e_oinit, e_inx, e_iret, e_lret, e_vret, vx_run_s, List.getElem?_cons_succ, List.getElem?_cons_zero, List.set_cons_succ, List.set_cons_zero, List.mem_cons, List.not_mem_nil, or_false, false_or, if_true, if_false, ite_true, ite_false, ↓reduceIte, reduceCtorEq, List.take_succ_cons, List.take_zero, List.drop_succ_cons, List.drop_zero, List.reverse_cons, List.reverse_nil, List.nil_append, List.cons_append, List.append_nil, List.length_cons, List.length_nil, Option.toList_some, Option.toList_none, vx_nl, vx_isob, true_and, and_true, Nat.reduceAdd, Nat.reduceEqDiff, Nat.reduceLeDiff, Nat.zero_add, Nat.add_zero, not_false_eq_true, not_true_eq_false, Nat.reduceLT, Nat.reduceMul, Nat.reduceSub, Nat.zero_le, vx_up_s, false_implies, true_implies, forall_const, implies_true, imp_self, Nat.le_refl, forall_eq, forall_eq_apply_imp_iff, and_imp, exists_and_left, exists_eq_left, Nat.one_ne_zero, eq_self, true_or, or_true, Option.some.injEq, Value.int.injEq, Value.long.injEq, bk_R_within_0, bk_R_within_14, bk_R_within_15]
  unfold vx_bI; simp only [Int32.lt_iff_toInt_lt, Int32.le_iff_toInt_le, ← Int32.toInt_inj, Int32.reduceToInt]; split <;> simp <;> omega
theorem vw_mono {g : Nat → Nat} (hi : vw_inc Y g) {c : Nat} : ∀ b, c ≤ b → b < yB Y → g c ≤ g b := by
  intro b
  induction b with
  | zero => intro h1 _; have : c = 0 := by omega
            subst this; exact Nat.le_refl _
  | succ b ih =>
    intro h1 h2
    by_cases e : c = b + 1
    · subst e; exact Nat.le_refl _
    · have i1 := ih (by omega) (by omega)
      have := (hi (b + 1) h2).1
      unfold vw_lo at this
      rw [if_neg (by omega)] at this
      simp only [Nat.add_sub_cancel] at this
      omega
theorem vw_ce_eq {g : Nat → Nat} {x c : Nat} : ∀ {n : Nat}, c ≤ n → (∀ b, b < c → g b ≤ x) → (∀ b, c ≤ b → b < n → x < g b) → vw_ce g x n = c
  | 0, h1, _, _ => by have : c = 0 := by omega
                      subst this; rfl
  | n + 1, h1, h2, h3 => by
    unfold vw_ce
    by_cases e : c = n + 1
    · rw [if_pos (h2 n (by omega)), e]
    · rw [if_neg (by have := h3 n (by omega) (by omega); omega)]
      exact vw_ce_eq (by omega) h2 (fun b h4 h5 => h3 b h4 (by omega))
theorem vw_g_lt {g : Nat → Nat} (ho : yOk Y) (hi : vw_inc Y g) {b : Nat} (hb : b < yB Y) : g b < 30 := by
  have h1 := (vw_inc_pos hi b hb).2
  have h2 := ho.2.2.1
  omega
set_option maxRecDepth 100000 in
set_option maxHeartbeats 4000000 in
theorem rv_cellNow (sz : Nat) (u : rW h Y law lt su L S R fa tr hm gf) (ho : yOk Y) {g : Nat → Nat} (hi : vw_inc Y g) (hg : ∀ b, b < yB Y → gf b = nI (g b)) (p : Nat) (hp : p < yN Y) : vx_Ok m_R_cellNow [.ref 38, .int (nI p)] sz h (fun r h' => r = some (.int (nI (vw_ce g (yP Y p) (yB Y)))) ∧ h' = h) := by
  refine ok_R_cellNow [some (.ref 38), some (.int (nI p)), none] (Nat.le_of_ble_eq_true rfl) rfl (fun lim z X hX => ?_)
  obtain ⟨⟨ap, ri, rb, rm, o⟩, ⟨fg, fk, fp, y1, y2, y3, y4, y5, y6⟩, uL, uS, uR, u5⟩ := id u
  have hB := ho.1
  have hN := ho.2.1
  have hI := ho.2.2.1
  have hpp := (ho.2.2.2.1 p hp).1
  have b1 : p < 2 ^ 31 := by omega
  have loop : ∀ (k c : Nat), c + k = yB Y → (∀ b, b < c → g b ≤ yP Y p) → X 2 [some (.ref 38), some (.int (nI p)), some (.int (nI c))] [] z h := by
    intro k
    induction k with
    | zero =>
      intro c hc hl
      have e : c = yB Y := by omega
      subst e
      refine vx_go hX [] 9 ?_
      simp only [e_nil, e_iconst, e_bipush, e_sipush, e_lconst, e_ldc_w, e_ldc2_w, e_iload, e_iload_n, e_lload, e_lload_n, e_aload, e_aload_n, e_istore, e_istore_n, e_astore, e_astore_n, e_lstore, e_iinc, e_iadd, e_isub, e_imul, e_iand, e_ior, e_ishl, e_ishr, e_iushr, e_idiv, e_irem, e_ldiv, e_lrem, e_ineg, e_lshl, e_lcmp, e_i2l, e_i2b, e_i2s, e_dup_i, e_dup_r, e_dup2, e_if_eq, e_if_ne, e_if_lt, e_if_ge, e_if_gt, e_if_le, e_icmp_eq, e_icmp_ne, e_icmp_lt, e_icmp_ge, e_icmp_gt, e_icmp_le, e_ifnull_r, e_ifnull_n, e_goto, e_tsw, e_lsw, e_getf, e_puti, e_putz, e_puta, e_new, e_newa, e_anew, e_iald, e_sald, e_iast, e_aald, e_aast, e_alen, e_slen, e_inv, e_acp, e_min, e_max, e_abs, e_ins, e_oinit, e_inx, e_iret, e_lret, e_vret, vx_run_s, List.getElem?_cons_succ, List.getElem?_cons_zero, List.set_cons_succ, List.set_cons_zero, List.mem_cons, List.not_mem_nil, or_false, false_or, if_true, if_false, ite_true, ite_false, ↓reduceIte, reduceCtorEq, List.take_succ_cons, List.take_zero, List.drop_succ_cons, List.drop_zero, List.reverse_cons, List.reverse_nil, List.nil_append, List.cons_append, List.append_nil, List.length_cons, List.length_nil, Option.toList_some, Option.toList_none, vx_nl, vx_isob, true_and, and_true, Nat.reduceAdd, Nat.reduceEqDiff, Nat.reduceLeDiff, Nat.zero_add, Nat.add_zero, not_false_eq_true, not_true_eq_false, Nat.reduceLT, Nat.reduceMul, Nat.reduceSub, Nat.zero_le, vx_up_s, false_implies, true_implies, forall_const, implies_true, imp_self, Nat.le_refl, forall_eq, forall_eq_apply_imp_iff, and_imp, exists_and_left, exists_eq_left, Nat.one_ne_zero, eq_self, true_or, or_true, Option.some.injEq, Value.int.injEq, Value.long.injEq, mF_g0, mF_g1, mF_g2, mF_g3, mF_g4, mF_g5, mF_g6, mF_g7, mF_g8, mF_g9, mF_g10, mF_g11, mF_g12, mF_g13, mF_g14, mF_g15, mF_g16, mF_g17, mF_g18, mF_g19, mF_g20, mF_g21, mF_g22, mF_g23, mF_g24, mF_g25, mF_g26, mF_g27, mF_g28, mF_g29, mF_g30, mF_g31, mF_g32, mF_g33, mF_g34, mF_s0, mF_s1, mF_s5, mF_s6, mF_s7, mF_s11, mF_s12, mF_s13, mF_s14, mF_s15, mF_s19, mF_s23, mF_s27, mF_s28, mF_s30, mF_s31, mF_len, bk_R_cellNow_0, bk_R_cellNow_2, bk_R_cellNow_31, o, u5, y3]
      rw [vw_ce_eq (Nat.le_refl _) hl (fun b h1 h2 => by omega)]
      exact ⟨fun _ => rfl, fun q => absurd (Int32.le_refl _) q⟩
    | succ k ih =>
      intro c hc hl
      have b2 : c < 2 ^ 31 := by omega
      have hgc := vw_g_lt ho hi (b := c) (by omega)
      refine vx_go hX [2] 9 ?_
      simp only [e_nil, e_iconst, e_bipush, e_sipush, e_lconst, e_ldc_w, e_ldc2_w, e_iload, e_iload_n, e_lload, e_lload_n, e_aload, e_aload_n, e_istore, e_istore_n, e_astore, e_astore_n, e_lstore, e_iinc, e_iadd, e_isub, e_imul, e_iand, e_ior, e_ishl, e_ishr, e_iushr, e_idiv, e_irem, e_ldiv, e_lrem, e_ineg, e_lshl, e_lcmp, e_i2l, e_i2b, e_i2s, e_dup_i, e_dup_r, e_dup2, e_if_eq, e_if_ne, e_if_lt, e_if_ge, e_if_gt, e_if_le, e_icmp_eq, e_icmp_ne, e_icmp_lt, e_icmp_ge, e_icmp_gt, e_icmp_le, e_ifnull_r, e_ifnull_n, e_goto, e_tsw, e_lsw, e_getf, e_puti, e_putz, e_puta, e_new, e_newa, e_anew, e_iald, e_sald, e_iast, e_aald, e_aast, e_alen, e_slen, e_inv, e_acp, e_min, e_max, e_abs, e_ins, e_oinit, e_inx, e_iret, e_lret, e_vret, vx_run_s, List.getElem?_cons_succ, List.getElem?_cons_zero, List.set_cons_succ, List.set_cons_zero, List.mem_cons, List.not_mem_nil, or_false, false_or, if_true, if_false, ite_true, ite_false, ↓reduceIte, reduceCtorEq, List.take_succ_cons, List.take_zero, List.drop_succ_cons, List.drop_zero, List.reverse_cons, List.reverse_nil, List.nil_append, List.cons_append, List.append_nil, List.length_cons, List.length_nil, Option.toList_some, Option.toList_none, vx_nl, vx_isob, true_and, and_true, Nat.reduceAdd, Nat.reduceEqDiff, Nat.reduceLeDiff, Nat.zero_add, Nat.add_zero, not_false_eq_true, not_true_eq_false, Nat.reduceLT, Nat.reduceMul, Nat.reduceSub, Nat.zero_le, vx_up_s, false_implies, true_implies, forall_const, implies_true, imp_self, Nat.le_refl, forall_eq, forall_eq_apply_imp_iff, and_imp, exists_and_left, exists_eq_left, Nat.one_ne_zero, eq_self, true_or, or_true, Option.some.injEq, Value.int.injEq, Value.long.injEq, mF_g0, mF_g1, mF_g2, mF_g3, mF_g4, mF_g5, mF_g6, mF_g7, mF_g8, mF_g9, mF_g10, mF_g11, mF_g12, mF_g13, mF_g14, mF_g15, mF_g16, mF_g17, mF_g18, mF_g19, mF_g20, mF_g21, mF_g22, mF_g23, mF_g24, mF_g25, mF_g26, mF_g27, mF_g28, mF_g29, mF_g30, mF_g31, mF_g32, mF_g33, mF_g34, mF_s0, mF_s1, mF_s5, mF_s6, mF_s7, mF_s11, mF_s12, mF_s13, mF_s14, mF_s15, mF_s19, mF_s23, mF_s27, mF_s28, mF_s30, mF_s31, mF_len, bk_R_cellNow_0, bk_R_cellNow_2, bk_R_cellNow_31, o, u5, y3, nI_clamp, b1, b2, nI_1]
      rw [hg c (by omega), y6 p hp]
      refine ⟨fun q => absurd q (nI_ge (by omega) (by omega)), fun _ => ⟨vp_in_nI (by omega) (by decide), vp_in_nI (by omega) (by decide), fun q => ?_, fun q => ?_⟩⟩
      · rw [nI_ltI (by omega) (by omega)] at q
        rw [vw_ce_eq (c := c) (by omega) hl (fun b h1 h2 => by have := vw_mono hi b h1 h2; omega)]
      · rw [nI_ltI (by omega) (by omega)] at q
        refine ih (c + 1) (by omega) (fun b hb => ?_)
        by_cases e : b = c
        · subst e; omega
        · exact hl b (by omega)
  refine vx_go hX [2] 9 ?_
  simp only [e_nil, e_iconst, e_bipush, e_sipush, e_lconst, e_ldc_w, e_ldc2_w, e_iload, e_iload_n, e_lload, e_lload_n, e_aload, e_aload_n, e_istore, e_istore_n, e_astore, e_astore_n, e_lstore, e_iinc, e_iadd, e_isub, e_imul, e_iand, e_ior, e_ishl, e_ishr, e_iushr, e_idiv, e_irem, e_ldiv, e_lrem, e_ineg, e_lshl, e_lcmp, e_i2l, e_i2b, e_i2s, e_dup_i, e_dup_r, e_dup2, e_if_eq, e_if_ne, e_if_lt, e_if_ge, e_if_gt, e_if_le, e_icmp_eq, e_icmp_ne, e_icmp_lt, e_icmp_ge, e_icmp_gt, e_icmp_le, e_ifnull_r, e_ifnull_n, e_goto, e_tsw, e_lsw, e_getf, e_puti, e_putz, e_puta, e_new, e_newa, e_anew, e_iald, e_sald, e_iast, e_aald, e_aast, e_alen, e_slen, e_inv, e_acp, e_min, e_max, e_abs, e_ins, e_oinit, e_inx, e_iret, e_lret, e_vret, vx_run_s, List.getElem?_cons_succ, List.getElem?_cons_zero, List.set_cons_succ, List.set_cons_zero, List.mem_cons, List.not_mem_nil, or_false, false_or, if_true, if_false, ite_true, ite_false, ↓reduceIte, reduceCtorEq, List.take_succ_cons, List.take_zero, List.drop_succ_cons, List.drop_zero, List.reverse_cons, List.reverse_nil, List.nil_append, List.cons_append, List.append_nil, List.length_cons, List.length_nil, Option.toList_some, Option.toList_none, vx_nl, vx_isob, true_and, and_true, Nat.reduceAdd, Nat.reduceEqDiff, Nat.reduceLeDiff, Nat.zero_add, Nat.add_zero, not_false_eq_true, not_true_eq_false, Nat.reduceLT, Nat.reduceMul, Nat.reduceSub, Nat.zero_le, vx_up_s, false_implies, true_implies, forall_const, implies_true, imp_self, Nat.le_refl, forall_eq, forall_eq_apply_imp_iff, and_imp, exists_and_left, exists_eq_left, Nat.one_ne_zero, eq_self, true_or, or_true, Option.some.injEq, Value.int.injEq, Value.long.injEq, mF_g0, mF_g1, mF_g2, mF_g3, mF_g4, mF_g5, mF_g6, mF_g7, mF_g8, mF_g9, mF_g10, mF_g11, mF_g12, mF_g13, mF_g14, mF_g15, mF_g16, mF_g17, mF_g18, mF_g19, mF_g20, mF_g21, mF_g22, mF_g23, mF_g24, mF_g25, mF_g26, mF_g27, mF_g28, mF_g29, mF_g30, mF_g31, mF_g32, mF_g33, mF_g34, mF_s0, mF_s1, mF_s5, mF_s6, mF_s7, mF_s11, mF_s12, mF_s13, mF_s14, mF_s15, mF_s19, mF_s23, mF_s27, mF_s28, mF_s30, mF_s31, mF_len, bk_R_cellNow_0, bk_R_cellNow_2, bk_R_cellNow_31]
  exact loop (yB Y) 0 (by omega) (fun b hb => absurd hb (Nat.not_lt_zero b))
def vw_ed (Y : vw_Y) (g : Nat → Nat) (c : Nat) : Nat := if c = 0 then 0 else if yB Y < c then yI Y else g (c - 1)
set_option maxRecDepth 100000 in
set_option maxHeartbeats 4000000 in
theorem rv_edge (sz : Nat) (u : rW h Y law lt su L S R fa tr hm gf) (ho : yOk Y) {g : Nat → Nat} (hg : ∀ b, b < yB Y → gf b = nI (g b)) (c : Nat) (hc : c < 1000) : vx_Ok m_R_edge [.ref 38, .int (nI c)] sz h (fun r h' => r = some (.int (nI (vw_ed Y g c))) ∧ h' = h) := by
  refine ok_R_edge [some (.ref 38), some (.int (nI c))] (Nat.le_of_ble_eq_true rfl) rfl (fun lim z X hX => ?_)
  obtain ⟨⟨ap, ri, rb, rm, o⟩, ⟨fg, fk, fp, y1, y2, y3, y4, y5, y6⟩, uL, uS, uR, u5⟩ := id u
  have hB := ho.1
  unfold vw_ed at hX
  refine vx_go hX [] 9 ?_
  simp only [e_nil, e_iconst, e_bipush, e_sipush, e_lconst, e_ldc_w, e_ldc2_w, e_iload, e_iload_n, e_lload, e_lload_n, e_aload, e_aload_n, e_istore, e_istore_n, e_astore, e_astore_n, e_lstore, e_iinc, e_iadd, e_isub, e_imul, e_iand, e_ior, e_ishl, e_ishr, e_iushr, e_idiv, e_irem, e_ldiv, e_lrem, e_ineg, e_lshl, e_lcmp, e_i2l, e_i2b, e_i2s, e_dup_i, e_dup_r, e_dup2, e_if_eq, e_if_ne, e_if_lt, e_if_ge, e_if_gt, e_if_le, e_icmp_eq, e_icmp_ne, e_icmp_lt, e_icmp_ge, e_icmp_gt, e_icmp_le, e_ifnull_r, e_ifnull_n, e_goto, e_tsw, e_lsw, e_getf, e_puti, e_putz, e_puta, e_new, e_newa, e_anew, e_iald, e_sald, e_iast, e_aald, e_aast, e_alen, e_slen, e_inv, e_acp, e_min, e_max, e_abs, e_ins, e_oinit, e_inx, e_iret, e_lret, e_vret, vx_run_s, List.getElem?_cons_succ, List.getElem?_cons_zero, List.set_cons_succ, List.set_cons_zero, List.mem_cons, List.not_mem_nil, or_false, false_or, if_true, if_false, ite_true, ite_false, ↓reduceIte, reduceCtorEq, List.take_succ_cons, List.take_zero, List.drop_succ_cons, List.drop_zero, List.reverse_cons, List.reverse_nil, List.nil_append, List.cons_append, List.append_nil, List.length_cons, List.length_nil, Option.toList_some, Option.toList_none, vx_nl, vx_isob, true_and, and_true, Nat.reduceAdd, Nat.reduceEqDiff, Nat.reduceLeDiff, Nat.zero_add, Nat.add_zero, not_false_eq_true, not_true_eq_false, Nat.reduceLT, Nat.reduceMul, Nat.reduceSub, Nat.zero_le, vx_up_s, false_implies, true_implies, forall_const, implies_true, imp_self, Nat.le_refl, forall_eq, forall_eq_apply_imp_iff, and_imp, exists_and_left, exists_eq_left, Nat.one_ne_zero, eq_self, true_or, or_true, Option.some.injEq, Value.int.injEq, Value.long.injEq, mF_g0, mF_g1, mF_g2, mF_g3, mF_g4, mF_g5, mF_g6, mF_g7, mF_g8, mF_g9, mF_g10, mF_g11, mF_g12, mF_g13, mF_g14, mF_g15, mF_g16, mF_g17, mF_g18, mF_g19, mF_g20, mF_g21, mF_g22, mF_g23, mF_g24, mF_g25, mF_g26, mF_g27, mF_g28, mF_g29, mF_g30, mF_g31, mF_g32, mF_g33, mF_g34, mF_s0, mF_s1, mF_s5, mF_s6, mF_s7, mF_s11, mF_s12, mF_s13, mF_s14, mF_s15, mF_s19, mF_s23, mF_s27, mF_s28, mF_s30, mF_s31, mF_len, bk_R_edge_0, bk_R_edge_8, bk_R_edge_23, bk_R_edge_31, o, u5]
  rw [nI_leI (by omega) (by omega), show (0 : Int32) = nI 0 from rfl, nI_eq (by omega) (by omega)]
  refine ⟨fun q => ⟨fun q2 => ?_, fun q2 => ?_⟩, fun q => by rw [if_pos q]⟩
  · rw [if_neg q, if_neg (by omega)]
    rw [show nI c - 1 = nI (c - 1) from nI_sub (b := 1) (by omega)]
    exact ⟨vp_in_nI (by omega) (by decide), by rw [nI_clamp (by omega), hg _ (by omega)]⟩
  · rw [if_neg q, if_pos (by omega)]
theorem vw_ce_iff {g : Nat → Nat} (hi : vw_inc Y g) {x c : Nat} (hx : x < yI Y) (hc : c ≤ yB Y) : vw_ce g x (yB Y) = c ↔ vw_ed Y g c ≤ x ∧ x < vw_ed Y g (c + 1) := by
  unfold vw_ed
  rw [if_neg (by omega : ¬ c + 1 = 0), Nat.add_sub_cancel]
  constructor
  · intro e
    have key : ∀ n, n ≤ yB Y → (vw_ce g x n = 0 ∨ g (vw_ce g x n - 1) ≤ x) ∧ (∀ b, vw_ce g x n ≤ b → b < n → x < g b) := by
      intro n
      induction n with
      | zero => intro _; exact ⟨Or.inl rfl, fun b _ h => absurd h (Nat.not_lt_zero b)⟩
      | succ n ih =>
        intro hn
        obtain ⟨i1, i2⟩ := ih (by omega)
        have e9 : vw_ce g x (n + 1) = if g n ≤ x then n + 1 else vw_ce g x n := rfl
        rw [e9]
        by_cases h1 : g n ≤ x
        · rw [if_pos h1]
          exact ⟨Or.inr (by simpa using h1), fun b h2 h3 => by omega⟩
        · rw [if_neg h1]
          refine ⟨i1, fun b h2 h3 => ?_⟩
          by_cases e2 : b = n
          · subst e2; omega
          · exact i2 b h2 (by omega)
    obtain ⟨k1, k2⟩ := key (yB Y) (Nat.le_refl _)
    rw [e] at k1 k2
    constructor
    · by_cases e0 : c = 0
      · rw [if_pos e0]; omega
      · rw [if_neg e0, if_neg (by omega)]
        rcases k1 with k1 | k1
        · exact absurd k1 e0
        · exact k1
    · by_cases e1 : yB Y < c + 1
      · rw [if_pos e1]; exact hx
      · rw [if_neg e1]; exact k2 c (Nat.le_refl _) (by omega)
  · rintro ⟨h1, h2⟩
    refine vw_ce_eq hc (fun b hb => ?_) (fun b h3 h4 => ?_)
    · rw [if_neg (by omega), if_neg (by omega)] at h1
      have := vw_mono hi (c := b) (c - 1) (by omega) (by omega)
      omega
    · rw [if_neg (by omega)] at h2
      have := vw_mono hi b h3 h4
      omega
set_option maxRecDepth 100000 in
set_option maxHeartbeats 4000000 in
theorem rv_votes (sz : Nat) (u : rW h Y law lt su L S R fa tr hm gf) (ho : yOk Y) (p : Nat) (hp : p < yN Y) : vx_Ok m_R_votes [.ref 38, .int (nI p)] sz h (fun r h' => r = some (.int (nI (vw_vt (yK Y p)))) ∧ h' = h) := by
  refine ok_R_votes [some (.ref 38), some (.int (nI p))] (Nat.le_of_ble_eq_true rfl) rfl (fun lim z X hX => ?_)
  obtain ⟨⟨ap, ri, rb, rm, o⟩, ⟨fg, fk, fp, y1, y2, y3, y4, y5, y6⟩, uL, uS, uR, u5⟩ := id u
  have hN := ho.2.1
  have hk := (ho.2.2.2.1 p hp).2
  have b1 : p < 2 ^ 31 := by omega
  refine vx_go hX [] 9 ?_
  simp only [e_nil, e_iconst, e_bipush, e_sipush, e_lconst, e_ldc_w, e_ldc2_w, e_iload, e_iload_n, e_lload, e_lload_n, e_aload, e_aload_n, e_istore, e_istore_n, e_astore, e_astore_n, e_lstore, e_iinc, e_iadd, e_isub, e_imul, e_iand, e_ior, e_ishl, e_ishr, e_iushr, e_idiv, e_irem, e_ldiv, e_lrem, e_ineg, e_lshl, e_lcmp, e_i2l, e_i2b, e_i2s, e_dup_i, e_dup_r, e_dup2, e_if_eq, e_if_ne, e_if_lt, e_if_ge, e_if_gt, e_if_le, e_icmp_eq, e_icmp_ne, e_icmp_lt, e_icmp_ge, e_icmp_gt, e_icmp_le, e_ifnull_r, e_ifnull_n, e_goto, e_tsw, e_lsw, e_getf, e_puti, e_putz, e_puta, e_new, e_newa, e_anew, e_iald, e_sald, e_iast, e_aald, e_aast, e_alen, e_slen, e_inv, e_acp, e_min, e_max, e_abs, e_ins, e_oinit, e_inx, e_iret, e_lret, e_vret, vx_run_s, List.getElem?_cons_succ, List.getElem?_cons_zero, List.set_cons_succ, List.set_cons_zero, List.mem_cons, List.not_mem_nil, or_false, false_or, if_true, if_false, ite_true, ite_false, ↓reduceIte, reduceCtorEq, List.take_succ_cons, List.take_zero, List.drop_succ_cons, List.drop_zero, List.reverse_cons, List.reverse_nil, List.nil_append, List.cons_append, List.append_nil, List.length_cons, List.length_nil, Option.toList_some, Option.toList_none, vx_nl, vx_isob, true_and, and_true, Nat.reduceAdd, Nat.reduceEqDiff, Nat.reduceLeDiff, Nat.zero_add, Nat.add_zero, not_false_eq_true, not_true_eq_false, Nat.reduceLT, Nat.reduceMul, Nat.reduceSub, Nat.zero_le, vx_up_s, false_implies, true_implies, forall_const, implies_true, imp_self, Nat.le_refl, forall_eq, forall_eq_apply_imp_iff, and_imp, exists_and_left, exists_eq_left, Nat.one_ne_zero, eq_self, true_or, or_true, Option.some.injEq, Value.int.injEq, Value.long.injEq, mF_g0, mF_g1, mF_g2, mF_g3, mF_g4, mF_g5, mF_g6, mF_g7, mF_g8, mF_g9, mF_g10, mF_g11, mF_g12, mF_g13, mF_g14, mF_g15, mF_g16, mF_g17, mF_g18, mF_g19, mF_g20, mF_g21, mF_g22, mF_g23, mF_g24, mF_g25, mF_g26, mF_g27, mF_g28, mF_g29, mF_g30, mF_g31, mF_g32, mF_g33, mF_g34, mF_s0, mF_s1, mF_s5, mF_s6, mF_s7, mF_s11, mF_s12, mF_s13, mF_s14, mF_s15, mF_s19, mF_s23, mF_s27, mF_s28, mF_s30, mF_s31, mF_len, bk_R_votes_0, bk_R_votes_13, bk_R_votes_27, bk_R_votes_28, o, y2, nI_clamp, b1]
  rw [y5 p hp]
  have hk3 : yK Y p = 0 ∨ yK Y p = 1 ∨ yK Y p = 2 := by omega
  generalize yK Y p = kk at hk3 ⊢
  have v8 : vp_in (nI p) 8 := vp_in_nI (by omega) (by decide)
  rcases hk3 with rfl | rfl | rfl <;> refine ⟨v8, fun q => ⟨v8, fun q2 => ?_, fun q2 => ?_⟩, fun q => ?_⟩ <;> first | rfl | exact absurd rfl q | exact absurd rfl q2 | exact absurd q (by decide) | exact absurd q2 (by decide)
set_option maxRecDepth 100000 in
set_option maxHeartbeats 4000000 in
theorem rv_votesIn (sz : Nat) (u : rW h Y law lt su L S R fa tr hm gf) (ho : yOk Y) {g : Nat → Nat} (hi : vw_inc Y g) (hg : ∀ b, b < yB Y → gf b = nI (g b)) (c : Nat) (hc : c ≤ yB Y) (s : Int32) : vx_Ok m_R_votesIn [.ref 38, .int (nI c), .int s] sz h (fun r h' => r = some (.int (nI (vw_bt Y s (vw_ed Y g c) (vw_ed Y g (c + 1))))) ∧ h' = h) := by
  refine ok_R_votesIn [some (.ref 38), some (.int (nI c)), some (.int s), none, none] (Nat.le_of_ble_eq_true rfl) rfl (fun lim z X hX => ?_)
  obtain ⟨⟨ap, ri, rb, rm, o⟩, ⟨fg, fk, fp, y1, y2, y3, y4, y5, y6⟩, uL, uS, uR, u5⟩ := id u
  have hB := ho.1
  have hN := ho.2.1
  unfold vw_bt at hX
  generalize hF : (fun p => if vw_in s (nI p) = false ∧ vw_ed Y g c ≤ yP Y p ∧ yP Y p < vw_ed Y g (c + 1) then vw_vt (yK Y p) else 0) = F at hX
  have eF : ∀ p, F p = if vw_in s (nI p) = false ∧ vw_ed Y g c ≤ yP Y p ∧ yP Y p < vw_ed Y g (c + 1) then vw_vt (yK Y p) else 0 := fun p => by rw [← hF]
  have loop : ∀ (k p : Nat), p + k = yN Y → X 5 [some (.ref 38), some (.int (nI c)), some (.int s), some (.int (nI (vw_sum F p))), some (.int (nI p))] [] z h := by
    intro k
    induction k with
    | zero =>
      intro p hp
      have e : p = yN Y := by omega
      subst e
      refine vx_go hX [] 9 ?_
      simp only [e_nil, e_iconst, e_bipush, e_sipush, e_lconst, e_ldc_w, e_ldc2_w, e_iload, e_iload_n, e_lload, e_lload_n, e_aload, e_aload_n, e_istore, e_istore_n, e_astore, e_astore_n, e_lstore, e_iinc, e_iadd, e_isub, e_imul, e_iand, e_ior, e_ishl, e_ishr, e_iushr, e_idiv, e_irem, e_ldiv, e_lrem, e_ineg, e_lshl, e_lcmp, e_i2l, e_i2b, e_i2s, e_dup_i, e_dup_r, e_dup2, e_if_eq, e_if_ne, e_if_lt, e_if_ge, e_if_gt, e_if_le, e_icmp_eq, e_icmp_ne, e_icmp_lt, e_icmp_ge, e_icmp_gt, e_icmp_le, e_ifnull_r, e_ifnull_n, e_goto, e_tsw, e_lsw, e_getf, e_puti, e_putz, e_puta, e_new, e_newa, e_anew, e_iald, e_sald, e_iast, e_aald, e_aast, e_alen, e_slen, e_inv, e_acp, e_min, e_max, e_abs, e_ins, e_oinit, e_inx, e_iret, e_lret, e_vret, vx_run_s, List.getElem?_cons_succ, List.getElem?_cons_zero, List.set_cons_succ, List.set_cons_zero, List.mem_cons, List.not_mem_nil, or_false, false_or, if_true, if_false, ite_true, ite_false, ↓reduceIte, reduceCtorEq, List.take_succ_cons, List.take_zero, List.drop_succ_cons, List.drop_zero, List.reverse_cons, List.reverse_nil, List.nil_append, List.cons_append, List.append_nil, List.length_cons, List.length_nil, Option.toList_some, Option.toList_none, vx_nl, vx_isob, true_and, and_true, Nat.reduceAdd, Nat.reduceEqDiff, Nat.reduceLeDiff, Nat.zero_add, Nat.add_zero, not_false_eq_true, not_true_eq_false, Nat.reduceLT, Nat.reduceMul, Nat.reduceSub, Nat.zero_le, vx_up_s, false_implies, true_implies, forall_const, implies_true, imp_self, Nat.le_refl, forall_eq, forall_eq_apply_imp_iff, and_imp, exists_and_left, exists_eq_left, Nat.one_ne_zero, eq_self, true_or, or_true, Option.some.injEq, Value.int.injEq, Value.long.injEq, mF_g0, mF_g1, mF_g2, mF_g3, mF_g4, mF_g5, mF_g6, mF_g7, mF_g8, mF_g9, mF_g10, mF_g11, mF_g12, mF_g13, mF_g14, mF_g15, mF_g16, mF_g17, mF_g18, mF_g19, mF_g20, mF_g21, mF_g22, mF_g23, mF_g24, mF_g25, mF_g26, mF_g27, mF_g28, mF_g29, mF_g30, mF_g31, mF_g32, mF_g33, mF_g34, mF_s0, mF_s1, mF_s5, mF_s6, mF_s7, mF_s11, mF_s12, mF_s13, mF_s14, mF_s15, mF_s19, mF_s23, mF_s27, mF_s28, mF_s30, mF_s31, mF_len, bk_R_votesIn_0, bk_R_votesIn_5, bk_R_votesIn_43, bk_R_votesIn_44, bk_R_votesIn_52, o]
      exact fun q => absurd (Int32.le_refl _) q
    | succ k ih =>
      intro p hp
      have h44 : X 44 [some (.ref 38), some (.int (nI c)), some (.int s), some (.int (nI (vw_sum F p))), some (.int (nI p))] [.int (nI (F p)), .int (nI (vw_sum F p))] z h := by
        refine vx_go hX [5] 9 ?_
        simp only [e_nil, e_iconst, e_bipush, e_sipush, e_lconst, e_ldc_w, e_ldc2_w, e_iload, e_iload_n, e_lload, e_lload_n, e_aload, e_aload_n, e_istore, e_istore_n, e_astore, e_astore_n, e_lstore, e_iinc, e_iadd, e_isub, e_imul, e_iand, e_ior, e_ishl, e_ishr, e_iushr, e_idiv, e_irem, e_ldiv, e_lrem, e_ineg, e_lshl, e_lcmp, e_i2l, e_i2b, e_i2s, e_dup_i, e_dup_r, e_dup2, e_if_eq, e_if_ne, e_if_lt, e_if_ge, e_if_gt, e_if_le, e_icmp_eq, e_icmp_ne, e_icmp_lt, e_icmp_ge, e_icmp_gt, e_icmp_le, e_ifnull_r, e_ifnull_n, e_goto, e_tsw, e_lsw, e_getf, e_puti, e_putz, e_puta, e_new, e_newa, e_anew, e_iald, e_sald, e_iast, e_aald, e_aast, e_alen, e_slen, e_inv, e_acp, e_min, e_max, e_abs, e_ins, e_oinit, e_inx, e_iret, e_lret, e_vret, vx_run_s, List.getElem?_cons_succ, List.getElem?_cons_zero, List.set_cons_succ, List.set_cons_zero, List.mem_cons, List.not_mem_nil, or_false, false_or, if_true, if_false, ite_true, ite_false, ↓reduceIte, reduceCtorEq, List.take_succ_cons, List.take_zero, List.drop_succ_cons, List.drop_zero, List.reverse_cons, List.reverse_nil, List.nil_append, List.cons_append, List.append_nil, List.length_cons, List.length_nil, Option.toList_some, Option.toList_none, vx_nl, vx_isob, true_and, and_true, Nat.reduceAdd, Nat.reduceEqDiff, Nat.reduceLeDiff, Nat.zero_add, Nat.add_zero, not_false_eq_true, not_true_eq_false, Nat.reduceLT, Nat.reduceMul, Nat.reduceSub, Nat.zero_le, vx_up_s, false_implies, true_implies, forall_const, implies_true, imp_self, Nat.le_refl, forall_eq, forall_eq_apply_imp_iff, and_imp, exists_and_left, exists_eq_left, Nat.one_ne_zero, eq_self, true_or, or_true, Option.some.injEq, Value.int.injEq, Value.long.injEq, mF_g0, mF_g1, mF_g2, mF_g3, mF_g4, mF_g5, mF_g6, mF_g7, mF_g8, mF_g9, mF_g10, mF_g11, mF_g12, mF_g13, mF_g14, mF_g15, mF_g16, mF_g17, mF_g18, mF_g19, mF_g20, mF_g21, mF_g22, mF_g23, mF_g24, mF_g25, mF_g26, mF_g27, mF_g28, mF_g29, mF_g30, mF_g31, mF_g32, mF_g33, mF_g34, mF_s0, mF_s1, mF_s5, mF_s6, mF_s7, mF_s11, mF_s12, mF_s13, mF_s14, mF_s15, mF_s19, mF_s23, mF_s27, mF_s28, mF_s30, mF_s31, mF_len, bk_R_votesIn_0, bk_R_votesIn_5, bk_R_votesIn_43, bk_R_votesIn_44, bk_R_votesIn_52, nI_1, nI_add]
        exact ih (p + 1) (by omega)
      have hce := vw_ce_iff hi (ho.2.2.2.1 p (by omega)).1 hc
      have hcl := vw_ce_le g (yP Y p) (yB Y)
      refine vx_go hX [44] 9 ?_
      simp only [e_nil, e_iconst, e_bipush, e_sipush, e_lconst, e_ldc_w, e_ldc2_w, e_iload, e_iload_n, e_lload, e_lload_n, e_aload, e_aload_n, e_istore, e_istore_n, e_astore, e_astore_n, e_lstore, e_iinc, e_iadd, e_isub, e_imul, e_iand, e_ior, e_ishl, e_ishr, e_iushr, e_idiv, e_irem, e_ldiv, e_lrem, e_ineg, e_lshl, e_lcmp, e_i2l, e_i2b, e_i2s, e_dup_i, e_dup_r, e_dup2, e_if_eq, e_if_ne, e_if_lt, e_if_ge, e_if_gt, e_if_le, e_icmp_eq, e_icmp_ne, e_icmp_lt, e_icmp_ge, e_icmp_gt, e_icmp_le, e_ifnull_r, e_ifnull_n, e_goto, e_tsw, e_lsw, e_getf, e_puti, e_putz, e_puta, e_new, e_newa, e_anew, e_iald, e_sald, e_iast, e_aald, e_aast, e_alen, e_slen, e_inv, e_acp, e_min, e_max, e_abs, e_ins, e_oinit, e_inx, e_iret, e_lret, e_vret, vx_run_s, List.getElem?_cons_succ, List.getElem?_cons_zero, List.set_cons_succ, List.set_cons_zero, List.mem_cons, List.not_mem_nil, or_false, false_or, if_true, if_false, ite_true, ite_false, ↓reduceIte, reduceCtorEq, List.take_succ_cons, List.take_zero, List.drop_succ_cons, List.drop_zero, List.reverse_cons, List.reverse_nil, List.nil_append, List.cons_append, List.append_nil, List.length_cons, List.length_nil, Option.toList_some, Option.toList_none, vx_nl, vx_isob, true_and, and_true, Nat.reduceAdd, Nat.reduceEqDiff, Nat.reduceLeDiff, Nat.zero_add, Nat.add_zero, not_false_eq_true, not_true_eq_false, Nat.reduceLT, Nat.reduceMul, Nat.reduceSub, Nat.zero_le, vx_up_s, false_implies, true_implies, forall_const, implies_true, imp_self, Nat.le_refl, forall_eq, forall_eq_apply_imp_iff, and_imp, exists_and_left, exists_eq_left, Nat.one_ne_zero, eq_self, true_or, or_true, Option.some.injEq, Value.int.injEq, Value.long.injEq, mF_g0, mF_g1, mF_g2, mF_g3, mF_g4, mF_g5, mF_g6, mF_g7, mF_g8, mF_g9, mF_g10, mF_g11, mF_g12, mF_g13, mF_g14, mF_g15, mF_g16, mF_g17, mF_g18, mF_g19, mF_g20, mF_g21, mF_g22, mF_g23, mF_g24, mF_g25, mF_g26, mF_g27, mF_g28, mF_g29, mF_g30, mF_g31, mF_g32, mF_g33, mF_g34, mF_s0, mF_s1, mF_s5, mF_s6, mF_s7, mF_s11, mF_s12, mF_s13, mF_s14, mF_s15, mF_s19, mF_s23, mF_s27, mF_s28, mF_s30, mF_s31, mF_len, bk_R_votesIn_0, bk_R_votesIn_5, bk_R_votesIn_43, bk_R_votesIn_44, bk_R_votesIn_52, o]
      refine ⟨fun q => absurd q (nI_ge (by omega) (by omega)), fun _ => ⟨fun q => ?_, fun q => ?_⟩⟩
      · rw [eF, if_neg (fun w => by simp [vw_in, q] at w)] at h44
        exact h44
      · refine vx_cl1 (rv_cellNow _ u ho hi hg p (by omega)) ?_
        simp only [e_nil, e_iconst, e_bipush, e_sipush, e_lconst, e_ldc_w, e_ldc2_w, e_iload, e_iload_n, e_lload, e_lload_n, e_aload, e_aload_n, e_istore, e_istore_n, e_astore, e_astore_n, e_lstore, e_iinc, e_iadd, e_isub, e_imul, e_iand, e_ior, e_ishl, e_ishr, e_iushr, e_idiv, e_irem, e_ldiv, e_lrem, e_ineg, e_lshl, e_lcmp, e_i2l, e_i2b, e_i2s, e_dup_i, e_dup_r, e_dup2, e_if_eq, e_if_ne, e_if_lt, e_if_ge, e_if_gt, e_if_le, e_icmp_eq, e_icmp_ne, e_icmp_lt, e_icmp_ge, e_icmp_gt, e_icmp_le, e_ifnull_r, e_ifnull_n, e_goto, e_tsw, e_lsw, e_getf, e_puti, e_putz, e_puta, e_new, e_newa, e_anew, e_iald, e_sald, e_iast, e_aald, e_aast, e_alen, e_slen, e_inv, e_acp, e_min, e_max, e_abs, e_ins, e_oinit, e_inx, e_iret, e_lret, e_vret, vx_run_s, List.getElem?_cons_succ, List.getElem?_cons_zero, List.set_cons_succ, List.set_cons_zero, List.mem_cons, List.not_mem_nil, or_false, false_or, if_true, if_false, ite_true, ite_false, ↓reduceIte, reduceCtorEq, List.take_succ_cons, List.take_zero, List.drop_succ_cons, List.drop_zero, List.reverse_cons, List.reverse_nil, List.nil_append, List.cons_append, List.append_nil, List.length_cons, List.length_nil, Option.toList_some, Option.toList_none, vx_nl, vx_isob, true_and, and_true, Nat.reduceAdd, Nat.reduceEqDiff, Nat.reduceLeDiff, Nat.zero_add, Nat.add_zero, not_false_eq_true, not_true_eq_false, Nat.reduceLT, Nat.reduceMul, Nat.reduceSub, Nat.zero_le, vx_up_s, false_implies, true_implies, forall_const, implies_true, imp_self, Nat.le_refl, forall_eq, forall_eq_apply_imp_iff, and_imp, exists_and_left, exists_eq_left, Nat.one_ne_zero, eq_self, true_or, or_true, Option.some.injEq, Value.int.injEq, Value.long.injEq, mF_g0, mF_g1, mF_g2, mF_g3, mF_g4, mF_g5, mF_g6, mF_g7, mF_g8, mF_g9, mF_g10, mF_g11, mF_g12, mF_g13, mF_g14, mF_g15, mF_g16, mF_g17, mF_g18, mF_g19, mF_g20, mF_g21, mF_g22, mF_g23, mF_g24, mF_g25, mF_g26, mF_g27, mF_g28, mF_g29, mF_g30, mF_g31, mF_g32, mF_g33, mF_g34, mF_s0, mF_s1, mF_s5, mF_s6, mF_s7, mF_s11, mF_s12, mF_s13, mF_s14, mF_s15, mF_s19, mF_s23, mF_s27, mF_s28, mF_s30, mF_s31, mF_len, bk_R_votesIn_0, bk_R_votesIn_5, bk_R_votesIn_43, bk_R_votesIn_44, bk_R_votesIn_52, o]
        rw [nI_eq (by omega) (by omega)]
        refine ⟨fun q2 => ?_, fun q2 => ?_⟩
        · rw [eF, if_neg (fun w => q2 (hce.mpr w.2))] at h44
          exact h44
        · refine vx_cl1 (rv_votes _ u ho p (by omega)) ?_
          simp only [e_nil, e_iconst, e_bipush, e_sipush, e_lconst, e_ldc_w, e_ldc2_w, e_iload, e_iload_n, e_lload, e_lload_n, e_aload, e_aload_n, e_istore, e_istore_n, e_astore, e_astore_n, e_lstore, e_iinc, e_iadd, e_isub, e_imul, e_iand, e_ior, e_ishl, e_ishr, e_iushr, e_idiv, e_irem, e_ldiv, e_lrem, e_ineg, e_lshl, e_lcmp, e_i2l, e_i2b, e_i2s, e_dup_i, e_dup_r, e_dup2, e_if_eq, e_if_ne, e_if_lt, e_if_ge, e_if_gt, e_if_le, e_icmp_eq, e_icmp_ne, e_icmp_lt, e_icmp_ge, e_icmp_gt, e_icmp_le, e_ifnull_r, e_ifnull_n, e_goto, e_tsw, e_lsw, e_getf, e_puti, e_putz, e_puta, e_new, e_newa, e_anew, e_iald, e_sald, e_iast, e_aald, e_aast, e_alen, e_slen, e_inv, e_acp, e_min, e_max, e_abs, e_ins, e_oinit, e_inx, e_iret, e_lret, e_vret, vx_run_s, List.getElem?_cons_succ, List.getElem?_cons_zero, List.set_cons_succ, List.set_cons_zero, List.mem_cons, List.not_mem_nil, or_false, false_or, if_true, if_false, ite_true, ite_false, ↓reduceIte, reduceCtorEq, List.take_succ_cons, List.take_zero, List.drop_succ_cons, List.drop_zero, List.reverse_cons, List.reverse_nil, List.nil_append, List.cons_append, List.append_nil, List.length_cons, List.length_nil, Option.toList_some, Option.toList_none, vx_nl, vx_isob, true_and, and_true, Nat.reduceAdd, Nat.reduceEqDiff, Nat.reduceLeDiff, Nat.zero_add, Nat.add_zero, not_false_eq_true, not_true_eq_false, Nat.reduceLT, Nat.reduceMul, Nat.reduceSub, Nat.zero_le, vx_up_s, false_implies, true_implies, forall_const, implies_true, imp_self, Nat.le_refl, forall_eq, forall_eq_apply_imp_iff, and_imp, exists_and_left, exists_eq_left, Nat.one_ne_zero, eq_self, true_or, or_true, Option.some.injEq, Value.int.injEq, Value.long.injEq, mF_g0, mF_g1, mF_g2, mF_g3, mF_g4, mF_g5, mF_g6, mF_g7, mF_g8, mF_g9, mF_g10, mF_g11, mF_g12, mF_g13, mF_g14, mF_g15, mF_g16, mF_g17, mF_g18, mF_g19, mF_g20, mF_g21, mF_g22, mF_g23, mF_g24, mF_g25, mF_g26, mF_g27, mF_g28, mF_g29, mF_g30, mF_g31, mF_g32, mF_g33, mF_g34, mF_s0, mF_s1, mF_s5, mF_s6, mF_s7, mF_s11, mF_s12, mF_s13, mF_s14, mF_s15, mF_s19, mF_s23, mF_s27, mF_s28, mF_s30, mF_s31, mF_len, bk_R_votesIn_0, bk_R_votesIn_5, bk_R_votesIn_43, bk_R_votesIn_44, bk_R_votesIn_52, o]
          rw [eF, if_pos ⟨by simp [vw_in, q], hce.mp q2⟩] at h44
          exact h44
  refine vx_go hX [5] 9 ?_
  simp only [e_nil, e_iconst, e_bipush, e_sipush, e_lconst, e_ldc_w, e_ldc2_w, e_iload, e_iload_n, e_lload, e_lload_n, e_aload, e_aload_n, e_istore, e_istore_n, e_astore, e_astore_n, e_lstore, e_iinc, e_iadd, e_isub, e_imul, e_iand, e_ior, e_ishl, e_ishr, e_iushr, e_idiv, e_irem, e_ldiv, e_lrem, e_ineg, e_lshl, e_lcmp, e_i2l, e_i2b, e_i2s, e_dup_i, e_dup_r, e_dup2, e_if_eq, e_if_ne, e_if_lt, e_if_ge, e_if_gt, e_if_le, e_icmp_eq, e_icmp_ne, e_icmp_lt, e_icmp_ge, e_icmp_gt, e_icmp_le, e_ifnull_r, e_ifnull_n, e_goto, e_tsw, e_lsw, e_getf, e_puti, e_putz, e_puta, e_new, e_newa, e_anew, e_iald, e_sald, e_iast, e_aald, e_aast, e_alen, e_slen, e_inv, e_acp, e_min, e_max, e_abs, e_ins, e_oinit, e_inx, e_iret, e_lret, e_vret, vx_run_s, List.getElem?_cons_succ, List.getElem?_cons_zero, List.set_cons_succ, List.set_cons_zero, List.mem_cons, List.not_mem_nil, or_false, false_or, if_true, if_false, ite_true, ite_false, ↓reduceIte, reduceCtorEq, List.take_succ_cons, List.take_zero, List.drop_succ_cons, List.drop_zero, List.reverse_cons, List.reverse_nil, List.nil_append, List.cons_append, List.append_nil, List.length_cons, List.length_nil, Option.toList_some, Option.toList_none, vx_nl, vx_isob, true_and, and_true, Nat.reduceAdd, Nat.reduceEqDiff, Nat.reduceLeDiff, Nat.zero_add, Nat.add_zero, not_false_eq_true, not_true_eq_false, Nat.reduceLT, Nat.reduceMul, Nat.reduceSub, Nat.zero_le, vx_up_s, false_implies, true_implies, forall_const, implies_true, imp_self, Nat.le_refl, forall_eq, forall_eq_apply_imp_iff, and_imp, exists_and_left, exists_eq_left, Nat.one_ne_zero, eq_self, true_or, or_true, Option.some.injEq, Value.int.injEq, Value.long.injEq, mF_g0, mF_g1, mF_g2, mF_g3, mF_g4, mF_g5, mF_g6, mF_g7, mF_g8, mF_g9, mF_g10, mF_g11, mF_g12, mF_g13, mF_g14, mF_g15, mF_g16, mF_g17, mF_g18, mF_g19, mF_g20, mF_g21, mF_g22, mF_g23, mF_g24, mF_g25, mF_g26, mF_g27, mF_g28, mF_g29, mF_g30, mF_g31, mF_g32, mF_g33, mF_g34, mF_s0, mF_s1, mF_s5, mF_s6, mF_s7, mF_s11, mF_s12, mF_s13, mF_s14, mF_s15, mF_s19, mF_s23, mF_s27, mF_s28, mF_s30, mF_s31, mF_len, bk_R_votesIn_0, bk_R_votesIn_5, bk_R_votesIn_43, bk_R_votesIn_44, bk_R_votesIn_52]
  exact loop (yN Y) 0 (by omega)
end RW
