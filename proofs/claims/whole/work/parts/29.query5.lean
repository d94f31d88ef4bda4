/-! VoteWalls: the game, knocks -/
def vw_mx (f : Nat → Nat) : Nat → Nat
  | 0 => 0
  | n + 1 => if vw_mx f n < f n then f n else vw_mx f n
theorem vw_mx_le {f : Nat → Nat} {c : Nat} (h : ∀ p, f p ≤ c) : ∀ n, vw_mx f n ≤ c
  | 0 => Nat.zero_le _
  | n + 1 => by
    unfold vw_mx
    split
    · exact h n
    · exact vw_mx_le h n
def vw_wb (Y : vw_Y) (law : Int32) (lf sf : Nat → Int32) (b : Nat) : Nat := vw_mx (fun p => vw_wd Y (vw_ps Y law (fun s => lf s ||| (1 <<< (nI b &&& 31))) (fun s => sf s ||| (1 <<< (nI p &&& 31))) 50) 0) (yN Y)
theorem vw_set.bit {p : Nat} (h : p < 8) : vw_set 8 (1 <<< (nI p &&& 31)) := by
  refine ⟨2 ^ p, Nat.pow_lt_pow_right (by decide) h, vw_pow p (by omega)⟩
theorem vw_wd_le {Y : vw_Y} (ho : yOk Y) (h0 : 0 < yB Y) (law : Int32) (lk st : Nat → Int32) (j c : Nat) (hc : c ≤ yB Y) : vw_wd Y (vw_ps Y law lk st j) c ≤ 30 := by
  have h1 := vw_inc_pos (vw_ps_inc (law := law) (lk := lk) (st := st) ho.2.2.2.2.1 j)
  have h2 := ho.2.2.1
  unfold vw_wd
  by_cases e : c = yB Y
  · rw [if_pos e]; omega
  · rw [if_neg e]
    have := h1 c (by omega)
    omega
theorem vw_widestBehind (h : vx_H) (sz : Nat) {y : Nat} {Y : vw_Y} {law : Int32} {lf sf : Nat → Int32} (u : hQ h y Y law lf sf) (b : Nat) (hb : b < yB Y) : vx_Ok m_V_widestBehind [.ref 0, .int (nI b)] sz h (fun r h' => r = some (.int (nI (vw_wb Y law lf sf b))) ∧ vf 18 21 h h' ∧ hW0 h') := by
  refine ok_V_widestBehind [some (.ref 0), some (.int (nI b)), none, none] (Nat.le_of_ble_eq_true rfl) rfl (fun lim z X hX => ?_)
  have u0 := u
  obtain ⟨y', tr, fa, fg, fk, fp, t, u1, ⟨u20, u2, u2a⟩, u3, u4, u5, u6⟩ := u
  unfold hV at u1
  have hN := u4.2.1
  unfold vw_wb at hX
  have hfl : ∀ p, vw_wd Y (vw_ps Y law (fun s => lf s ||| (1 <<< (nI b &&& 31))) (fun s => sf s ||| (1 <<< (nI p &&& 31))) 50) 0 ≤ 30 := fun p => vw_wd_le u4 (by omega) _ _ _ _ _ (by omega)
  generalize hF : (fun p => vw_wd Y (vw_ps Y law (fun s => lf s ||| (1 <<< (nI b &&& 31))) (fun s => sf s ||| (1 <<< (nI p &&& 31))) 50) 0) = F at hX
  have eF : ∀ p, F p = vw_wd Y (vw_ps Y law (fun s => lf s ||| (1 <<< (nI b &&& 31))) (fun s => sf s ||| (1 <<< (nI p &&& 31))) 50) 0 := fun p => by rw [← hF]
  have hml : ∀ n, vw_mx F n ≤ 30 := vw_mx_le (fun p => by rw [eF]; exact hfl p)
  have loop : ∀ (k p : Nat) (hs : vx_H), p + k = yN Y → vf 18 21 h hs → hW0 hs → X 4 [some (.ref 0), some (.int (nI b)), some (.int (nI (vw_mx F p))), some (.int (nI p))] [] z hs := by
    intro k
    induction k with
    | zero =>
      intro p hs hp hv h0
      have e : p = yN Y := by omega
      subst e
      have u1' : hs 0 = _ := (hv 0 (by omega)).trans u1
      have u2' : hs y = _ := (hv y (by omega)).trans u2
      refine vx_go hX [] 9 ?_
      simp only [e_nil, e_iconst, e_bipush, e_sipush, e_lconst, e_ldc_w, e_ldc2_w, e_iload, e_iload_n, e_lload, e_lload_n, e_aload, e_aload_n, e_istore, e_istore_n, e_astore, e_astore_n, e_lstore, e_iinc, e_iadd, e_isub, e_imul, e_iand, e_ior, e_ishl, e_ishr, e_iushr, e_idiv, e_irem, e_ldiv, e_lrem, e_ineg, e_lshl, e_lcmp, e_i2l, e_i2b, e_i2s, e_dup_i, e_dup_r, e_dup2, e_if_eq, e_if_ne, e_if_lt, e_if_ge, e_if_gt, e_if_le, e_icmp_eq, e_icmp_ne, e_icmp_lt, e_icmp_ge, e_icmp_gt, e_icmp_le, e_ifnull_r, e_ifnull_n, e_goto, e_tsw, e_lsw, e_getf, e_puti, e_putz, e_puta, e_new, e_newa, e_anew, e_iald, e_sald, e_iast, e_aald, e_aast, e_alen, e_slen, e_inv, e_acp, e_min, e_max, e_abs, e_ins, e_oinit, e_inx, e_iret, e_lret, e_vret, vx_run_s, List.getElem?_cons_succ, List.getElem?_cons_zero, List.set_cons_succ, List.set_cons_zero, List.mem_cons, List.not_mem_nil, or_false, false_or, if_true, if_false, ite_true, ite_false, ↓reduceIte, reduceCtorEq, List.take_succ_cons, List.take_zero, List.drop_succ_cons, List.drop_zero, List.reverse_cons, List.reverse_nil, List.nil_append, List.cons_append, List.append_nil, List.length_cons, List.length_nil, Option.toList_some, Option.toList_none, vx_nl, vx_isob, true_and, and_true, Nat.reduceAdd, Nat.reduceEqDiff, Nat.reduceLeDiff, Nat.zero_add, Nat.add_zero, not_false_eq_true, not_true_eq_false, Nat.reduceLT, Nat.reduceMul, Nat.reduceSub, Nat.zero_le, vx_up_s, false_implies, true_implies, forall_const, implies_true, imp_self, Nat.le_refl, forall_eq, forall_eq_apply_imp_iff, and_imp, exists_and_left, exists_eq_left, Nat.one_ne_zero, eq_self, true_or, or_true, Option.some.injEq, Value.int.injEq, Value.long.injEq, bk_V_widestBehind_0, bk_V_widestBehind_4, bk_V_widestBehind_48, u1', u2']
      exact ⟨fun _ => ⟨hv, h0⟩, fun q => absurd (Int32.le_refl _) q⟩
    | succ k ih =>
      intro p hs hp hv h0
      have u1' : hs 0 = _ := (hv 0 (by omega)).trans u1
      have u2' : hs y = _ := (hv y (by omega)).trans u2
      refine vx_go hX [4] 9 ?_
      simp only [e_nil, e_iconst, e_bipush, e_sipush, e_lconst, e_ldc_w, e_ldc2_w, e_iload, e_iload_n, e_lload, e_lload_n, e_aload, e_aload_n, e_istore, e_istore_n, e_astore, e_astore_n, e_lstore, e_iinc, e_iadd, e_isub, e_imul, e_iand, e_ior, e_ishl, e_ishr, e_iushr, e_idiv, e_irem, e_ldiv, e_lrem, e_ineg, e_lshl, e_lcmp, e_i2l, e_i2b, e_i2s, e_dup_i, e_dup_r, e_dup2, e_if_eq, e_if_ne, e_if_lt, e_if_ge, e_if_gt, e_if_le, e_icmp_eq, e_icmp_ne, e_icmp_lt, e_icmp_ge, e_icmp_gt, e_icmp_le, e_ifnull_r, e_ifnull_n, e_goto, e_tsw, e_lsw, e_getf, e_puti, e_putz, e_puta, e_new, e_newa, e_anew, e_iald, e_sald, e_iast, e_aald, e_aast, e_alen, e_slen, e_inv, e_acp, e_min, e_max, e_abs, e_ins, e_oinit, e_inx, e_iret, e_lret, e_vret, vx_run_s, List.getElem?_cons_succ, List.getElem?_cons_zero, List.set_cons_succ, List.set_cons_zero, List.mem_cons, List.not_mem_nil, or_false, false_or, if_true, if_false, ite_true, ite_false, ↓reduceIte, reduceCtorEq, List.take_succ_cons, List.take_zero, List.drop_succ_cons, List.drop_zero, List.reverse_cons, List.reverse_nil, List.nil_append, List.cons_append, List.append_nil, List.length_cons, List.length_nil, Option.toList_some, Option.toList_none, vx_nl, vx_isob, true_and, and_true, Nat.reduceAdd, Nat.reduceEqDiff, Nat.reduceLeDiff, Nat.zero_add, Nat.add_zero, not_false_eq_true, not_true_eq_false, Nat.reduceLT, Nat.reduceMul, Nat.reduceSub, Nat.zero_le, vx_up_s, false_implies, true_implies, forall_const, implies_true, imp_self, Nat.le_refl, forall_eq, forall_eq_apply_imp_iff, and_imp, exists_and_left, exists_eq_left, Nat.one_ne_zero, eq_self, true_or, or_true, Option.some.injEq, Value.int.injEq, Value.long.injEq, bk_V_widestBehind_0, bk_V_widestBehind_4, bk_V_widestBehind_48, u1', u2']
      refine ⟨fun q => absurd q (nI_ge (by omega) (by omega)), fun _ => ?_⟩
      refine ⟨_, vw_reckonWith hs _ (u0.mv hv h0) (1 <<< (nI b &&& 31)) (1 <<< (nI p &&& 31)) (vw_set.bit (by omega)) 50 (Nat.le_refl _), ?_⟩
      rintro _ h' ⟨rfl, hr, hv'⟩
      have hvv := hv.tr hv'
      have u1'' : h' 0 = _ := (hvv 0 (by omega)).trans u1
      obtain ⟨bo, inn, lr, lm, rows, gf, vb, w1, w2, w3, w4⟩ := hr.w0
      simp only [e_nil, e_iconst, e_bipush, e_sipush, e_lconst, e_ldc_w, e_ldc2_w, e_iload, e_iload_n, e_lload, e_lload_n, e_aload, e_aload_n, e_istore, e_istore_n, e_astore, e_astore_n, e_lstore, e_iinc, e_iadd, e_isub, e_imul, e_iand, e_ior, e_ishl, e_ishr, e_iushr, e_idiv, e_irem, e_ldiv, e_lrem, e_ineg, e_lshl, e_lcmp, e_i2l, e_i2b, e_i2s, e_dup_i, e_dup_r, e_dup2, e_if_eq, e_if_ne, e_if_lt, e_if_ge, e_if_gt, e_if_le, e_icmp_eq, e_icmp_ne, e_icmp_lt, e_icmp_ge, e_icmp_gt, e_icmp_le, e_ifnull_r, e_ifnull_n, e_goto, e_tsw, e_lsw, e_getf, e_puti, e_putz, e_puta, e_new, e_newa, e_anew, e_iald, e_sald, e_iast, e_aald, e_aast, e_alen, e_slen, e_inv, e_acp, e_min, e_max, e_abs, e_ins, e_oinit, e_inx, e_iret, e_lret, e_vret, vx_run_s, List.getElem?_cons_succ, List.getElem?_cons_zero, List.set_cons_succ, List.set_cons_zero, List.mem_cons, List.not_mem_nil, or_false, false_or, if_true, if_false, ite_true, ite_false, ↓reduceIte, reduceCtorEq, List.take_succ_cons, List.take_zero, List.drop_succ_cons, List.drop_zero, List.reverse_cons, List.reverse_nil, List.nil_append, List.cons_append, List.append_nil, List.length_cons, List.length_nil, Option.toList_some, Option.toList_none, vx_nl, vx_isob, true_and, and_true, Nat.reduceAdd, Nat.reduceEqDiff, Nat.reduceLeDiff, Nat.zero_add, Nat.add_zero, not_false_eq_true, not_true_eq_false, Nat.reduceLT, Nat.reduceMul, Nat.reduceSub, Nat.zero_le, vx_up_s, false_implies, true_implies, forall_const, implies_true, imp_self, Nat.le_refl, forall_eq, forall_eq_apply_imp_iff, and_imp, exists_and_left, exists_eq_left, Nat.one_ne_zero, eq_self, true_or, or_true, Option.some.injEq, Value.int.injEq, Value.long.injEq, bk_V_widestBehind_0, bk_V_widestBehind_4, bk_V_widestBehind_48, u1'', w1]
      refine vx_cl1 (vw_widthAt h' _ Y law _ _ 50 hr (Nat.le_refl _) u4 0 50 (Nat.zero_le _) (by omega) (Nat.le_refl _)) ?_
      simp only [e_nil, e_iconst, e_bipush, e_sipush, e_lconst, e_ldc_w, e_ldc2_w, e_iload, e_iload_n, e_lload, e_lload_n, e_aload, e_aload_n, e_istore, e_istore_n, e_astore, e_astore_n, e_lstore, e_iinc, e_iadd, e_isub, e_imul, e_iand, e_ior, e_ishl, e_ishr, e_iushr, e_idiv, e_irem, e_ldiv, e_lrem, e_ineg, e_lshl, e_lcmp, e_i2l, e_i2b, e_i2s, e_dup_i, e_dup_r, e_dup2, e_if_eq, e_if_ne, e_if_lt, e_if_ge, e_if_gt, e_if_le, e_icmp_eq, e_icmp_ne, e_icmp_lt, e_icmp_ge, e_icmp_gt, e_icmp_le, e_ifnull_r, e_ifnull_n, e_goto, e_tsw, e_lsw, e_getf, e_puti, e_putz, e_puta, e_new, e_newa, e_anew, e_iald, e_sald, e_iast, e_aald, e_aast, e_alen, e_slen, e_inv, e_acp, e_min, e_max, e_abs, e_ins, e_oinit, e_inx, e_iret, e_lret, e_vret, vx_run_s, List.getElem?_cons_succ, List.getElem?_cons_zero, List.set_cons_succ, List.set_cons_zero, List.mem_cons, List.not_mem_nil, or_false, false_or, if_true, if_false, ite_true, ite_false, ↓reduceIte, reduceCtorEq, List.take_succ_cons, List.take_zero, List.drop_succ_cons, List.drop_zero, List.reverse_cons, List.reverse_nil, List.nil_append, List.cons_append, List.append_nil, List.length_cons, List.length_nil, Option.toList_some, Option.toList_none, vx_nl, vx_isob, true_and, and_true, Nat.reduceAdd, Nat.reduceEqDiff, Nat.reduceLeDiff, Nat.zero_add, Nat.add_zero, not_false_eq_true, not_true_eq_false, Nat.reduceLT, Nat.reduceMul, Nat.reduceSub, Nat.zero_le, vx_up_s, false_implies, true_implies, forall_const, implies_true, imp_self, Nat.le_refl, forall_eq, forall_eq_apply_imp_iff, and_imp, exists_and_left, exists_eq_left, Nat.one_ne_zero, eq_self, true_or, or_true, Option.some.injEq, Value.int.injEq, Value.long.injEq, bk_V_widestBehind_0, bk_V_widestBehind_4, bk_V_widestBehind_48, nI_1]
      have := ih (p + 1) h' (by omega) hvv hr.w0
      rw [vw_mx] at this
      rw [← eF p]
      have l1 := hml p
      have l2 : F p ≤ 30 := by rw [eF]; exact hfl p
      by_cases hlt : vw_mx F p < F p
      · rw [if_pos (nI_lt hlt (by omega))]
        rw [if_pos hlt] at this
        exact this
      · rw [if_neg (nI_nlt (by omega) (by omega))]
        rw [if_neg hlt] at this
        exact this
  refine vx_go hX [4] 9 ?_
  simp only [e_nil, e_iconst, e_bipush, e_sipush, e_lconst, e_ldc_w, e_ldc2_w, e_iload, e_iload_n, e_lload, e_lload_n, e_aload, e_aload_n, e_istore, e_istore_n, e_astore, e_astore_n, e_lstore, e_iinc, e_iadd, e_isub, e_imul, e_iand, e_ior, e_ishl, e_ishr, e_iushr, e_idiv, e_irem, e_ldiv, e_lrem, e_ineg, e_lshl, e_lcmp, e_i2l, e_i2b, e_i2s, e_dup_i, e_dup_r, e_dup2, e_if_eq, e_if_ne, e_if_lt, e_if_ge, e_if_gt, e_if_le, e_icmp_eq, e_icmp_ne, e_icmp_lt, e_icmp_ge, e_icmp_gt, e_icmp_le, e_ifnull_r, e_ifnull_n, e_goto, e_tsw, e_lsw, e_getf, e_puti, e_putz, e_puta, e_new, e_newa, e_anew, e_iald, e_sald, e_iast, e_aald, e_aast, e_alen, e_slen, e_inv, e_acp, e_min, e_max, e_abs, e_ins, e_oinit, e_inx, e_iret, e_lret, e_vret, vx_run_s, List.getElem?_cons_succ, List.getElem?_cons_zero, List.set_cons_succ, List.set_cons_zero, List.mem_cons, List.not_mem_nil, or_false, false_or, if_true, if_false, ite_true, ite_false, ↓reduceIte, reduceCtorEq, List.take_succ_cons, List.take_zero, List.drop_succ_cons, List.drop_zero, List.reverse_cons, List.reverse_nil, List.nil_append, List.cons_append, List.append_nil, List.length_cons, List.length_nil, Option.toList_some, Option.toList_none, vx_nl, vx_isob, true_and, and_true, Nat.reduceAdd, Nat.reduceEqDiff, Nat.reduceLeDiff, Nat.zero_add, Nat.add_zero, not_false_eq_true, not_true_eq_false, Nat.reduceLT, Nat.reduceMul, Nat.reduceSub, Nat.zero_le, vx_up_s, false_implies, true_implies, forall_const, implies_true, imp_self, Nat.le_refl, forall_eq, forall_eq_apply_imp_iff, and_imp, exists_and_left, exists_eq_left, Nat.one_ne_zero, eq_self, true_or, or_true, Option.some.injEq, Value.int.injEq, Value.long.injEq, bk_V_widestBehind_0, bk_V_widestBehind_4, bk_V_widestBehind_48]
  exact loop (yN Y) 0 h (by omega) vf.rf u5
/-- the board, how wide, of the first n + 1 boards -/
def vw_gm (w : Nat → Nat) : Nat → Nat × Nat
  | 0 => (0, w 0)
  | n + 1 => if w (n + 1) < (vw_gm w n).2 then (n + 1, w (n + 1)) else vw_gm w n
def a_game (Y : vw_Y) (law : Int32) (lf sf : Nat → Int32) (what : Int32) : Int32 := if what = 0 ∨ what = 1 then (if 0 < yB Y then (if what = 0 then nI (vw_gm (vw_wb Y law lf sf) (yB Y - 1)).2 else nI (vw_gm (vw_wb Y law lf sf) (yB Y - 1)).1) else -3) else -2
theorem vw_gm_le {w : Nat → Nat} {c : Nat} : ∀ n, (∀ b, b ≤ n → w b ≤ c) → (vw_gm w n).2 ≤ c
  | 0, h => h 0 (Nat.le_refl _)
  | n + 1, h => by
    unfold vw_gm
    split
    · exact h (n + 1) (Nat.le_refl _)
    · exact vw_gm_le n (fun b hb => h b (by omega))
theorem vw_wb_le {Y : vw_Y} (ho : yOk Y) (h0 : 0 < yB Y) (law : Int32) (lf sf : Nat → Int32) (b : Nat) : vw_wb Y law lf sf b ≤ 30 := vw_mx_le (fun p => vw_wd_le ho h0 _ _ _ _ _ (Nat.zero_le _)) _
theorem vw_game (h : vx_H) (sz : Nat) {y : Nat} {Y : vw_Y} {law : Int32} {lf sf : Nat → Int32} (u : hQ h y Y law lf sf) (w : Int32) : vx_Ok m_V_game [.ref 0, .int w] sz h (fun r h' => r = some (.int (a_game Y law lf sf w)) ∧ vf 18 21 h h' ∧ hW0 h') := by
  refine ok_V_game [some (.ref 0), some (.int w), none, none, none, none] (Nat.le_of_ble_eq_true rfl) rfl (fun lim z X hX => ?_)
  have u0 := u
  obtain ⟨y', tr, fa, fg, fk, fp, t, u1, ⟨u20, u2, u2a⟩, u3, u4, u5, u6⟩ := u
  unfold hV at u1
  have hB := u4.1
  unfold a_game at hX
  have h12 : (w = 0 ∨ w = 1) → X 12 [some (.ref 0), some (.int w), none, none, none, none] [] z h := by
    intro hw
    rw [if_pos hw] at hX
    refine vx_go hX [33] 9 ?_
    simp only [e_nil, e_iconst, e_bipush, e_sipush, e_lconst, e_ldc_w, e_ldc2_w, e_iload, e_iload_n, e_lload, e_lload_n, e_aload, e_aload_n, e_istore, e_istore_n, e_astore, e_astore_n, e_lstore, e_iinc, e_iadd, e_isub, e_imul, e_iand, e_ior, e_ishl, e_ishr, e_iushr, e_idiv, e_irem, e_ldiv, e_lrem, e_ineg, e_lshl, e_lcmp, e_i2l, e_i2b, e_i2s, e_dup_i, e_dup_r, e_dup2, e_if_eq, e_if_ne, e_if_lt, e_if_ge, e_if_gt, e_if_le, e_icmp_eq, e_icmp_ne, e_icmp_lt, e_icmp_ge, e_icmp_gt, e_icmp_le, e_ifnull_r, e_ifnull_n, e_goto, e_tsw, e_lsw, e_getf, e_puti, e_putz, e_puta, e_new, e_newa, e_anew, e_iald, e_sald, e_iast, e_aald, e_aast, e_alen, e_slen, e_inv, e_acp, e_min, e_max, e_abs, e_ins, e_oinit, e_inx, e_iret, e_lret, e_vret, vx_run_s, List.getElem?_cons_succ, List.getElem?_cons_zero, List.set_cons_succ, List.set_cons_zero, List.mem_cons, List.not_mem_nil, or_false, false_or, if_true, if_false, ite_true, ite_false, ↓reduceIte, reduceCtorEq, List.take_succ_cons, List.take_zero, List.drop_succ_cons, List.drop_zero, List.reverse_cons, List.reverse_nil, List.nil_append, List.cons_append, List.append_nil, List.length_cons, List.length_nil, Option.toList_some, Option.toList_none, vx_nl, vx_isob, true_and, and_true, Nat.reduceAdd, Nat.reduceEqDiff, Nat.reduceLeDiff, Nat.zero_add, Nat.add_zero, not_false_eq_true, not_true_eq_false, Nat.reduceLT, Nat.reduceMul, Nat.reduceSub, Nat.zero_le, vx_up_s, false_implies, true_implies, forall_const, implies_true, imp_self, Nat.le_refl, forall_eq, forall_eq_apply_imp_iff, and_imp, exists_and_left, exists_eq_left, Nat.one_ne_zero, eq_self, true_or, or_true, Option.some.injEq, Value.int.injEq, Value.long.injEq, bk_V_game_0, bk_V_game_12, bk_V_game_22, bk_V_game_33, bk_V_game_65, bk_V_game_71, bk_V_game_79, bk_V_game_80, u1]
    refine vx_cl1 (vw_hasYard h _ u0) ?_
    simp only [e_nil, e_iconst, e_bipush, e_sipush, e_lconst, e_ldc_w, e_ldc2_w, e_iload, e_iload_n, e_lload, e_lload_n, e_aload, e_aload_n, e_istore, e_istore_n, e_astore, e_astore_n, e_lstore, e_iinc, e_iadd, e_isub, e_imul, e_iand, e_ior, e_ishl, e_ishr, e_iushr, e_idiv, e_irem, e_ldiv, e_lrem, e_ineg, e_lshl, e_lcmp, e_i2l, e_i2b, e_i2s, e_dup_i, e_dup_r, e_dup2, e_if_eq, e_if_ne, e_if_lt, e_if_ge, e_if_gt, e_if_le, e_icmp_eq, e_icmp_ne, e_icmp_lt, e_icmp_ge, e_icmp_gt, e_icmp_le, e_ifnull_r, e_ifnull_n, e_goto, e_tsw, e_lsw, e_getf, e_puti, e_putz, e_puta, e_new, e_newa, e_anew, e_iald, e_sald, e_iast, e_aald, e_aast, e_alen, e_slen, e_inv, e_acp, e_min, e_max, e_abs, e_ins, e_oinit, e_inx, e_iret, e_lret, e_vret, vx_run_s, List.getElem?_cons_succ, List.getElem?_cons_zero, List.set_cons_succ, List.set_cons_zero, List.mem_cons, List.not_mem_nil, or_false, false_or, if_true, if_false, ite_true, ite_false, ↓reduceIte, reduceCtorEq, List.take_succ_cons, List.take_zero, List.drop_succ_cons, List.drop_zero, List.reverse_cons, List.reverse_nil, List.nil_append, List.cons_append, List.append_nil, List.length_cons, List.length_nil, Option.toList_some, Option.toList_none, vx_nl, vx_isob, true_and, and_true, Nat.reduceAdd, Nat.reduceEqDiff, Nat.reduceLeDiff, Nat.zero_add, Nat.add_zero, not_false_eq_true, not_true_eq_false, Nat.reduceLT, Nat.reduceMul, Nat.reduceSub, Nat.zero_le, vx_up_s, false_implies, true_implies, forall_const, implies_true, imp_self, Nat.le_refl, forall_eq, forall_eq_apply_imp_iff, and_imp, exists_and_left, exists_eq_left, Nat.one_ne_zero, eq_self, true_or, or_true, Option.some.injEq, Value.int.injEq, Value.long.injEq, bk_V_game_0, bk_V_game_12, bk_V_game_22, bk_V_game_33, bk_V_game_65, bk_V_game_71, bk_V_game_79, bk_V_game_80, vx_bI_0, u1]
    refine ⟨fun q => ?_, fun q => ⟨by rw [if_neg q], vf.rf, u5⟩⟩
    rw [Classical.not_not] at q
    rw [if_pos q] at hX
    have hml : ∀ n, (vw_gm (vw_wb Y law lf sf) n).2 ≤ 30 := fun n => vw_gm_le n (fun b _ => vw_wb_le u4 q _ _ _ _)
    have loop : ∀ (k n : Nat) (hs : vx_H) (w5 : Option Value), n + 1 + k = yB Y → vf 18 21 h hs → hW0 hs → X 33 [some (.ref 0), some (.int w), some (.int (nI (vw_gm (vw_wb Y law lf sf) n).1)), some (.int (nI (vw_gm (vw_wb Y law lf sf) n).2)), some (.int (nI (n + 1))), w5] [] z hs := by
      intro k
      induction k with
      | zero =>
        intro n hs w5 hn hv h0
        have e : n = yB Y - 1 := by omega
        have u1' : hs 0 = _ := (hv 0 (by omega)).trans u1
        have u2' : hs y = _ := (hv y (by omega)).trans u2
        refine vx_go hX [] 9 ?_
        simp only [e_nil, e_iconst, e_bipush, e_sipush, e_lconst, e_ldc_w, e_ldc2_w, e_iload, e_iload_n, e_lload, e_lload_n, e_aload, e_aload_n, e_istore, e_istore_n, e_astore, e_astore_n, e_lstore, e_iinc, e_iadd, e_isub, e_imul, e_iand, e_ior, e_ishl, e_ishr, e_iushr, e_idiv, e_irem, e_ldiv, e_lrem, e_ineg, e_lshl, e_lcmp, e_i2l, e_i2b, e_i2s, e_dup_i, e_dup_r, e_dup2, e_if_eq, e_if_ne, e_if_lt, e_if_ge, e_if_gt, e_if_le, e_icmp_eq, e_icmp_ne, e_icmp_lt, e_icmp_ge, e_icmp_gt, e_icmp_le, e_ifnull_r, e_ifnull_n, e_goto, e_tsw, e_lsw, e_getf, e_puti, e_putz, e_puta, e_new, e_newa, e_anew, e_iald, e_sald, e_iast, e_aald, e_aast, e_alen, e_slen, e_inv, e_acp, e_min, e_max, e_abs, e_ins, e_oinit, e_inx, e_iret, e_lret, e_vret, vx_run_s, List.getElem?_cons_succ, List.getElem?_cons_zero, List.set_cons_succ, List.set_cons_zero, List.mem_cons, List.not_mem_nil, or_false, false_or, if_true, if_false, ite_true, ite_false, ↓reduceIte, reduceCtorEq, List.take_succ_cons, List.take_zero, List.drop_succ_cons, List.drop_zero, List.reverse_cons, List.reverse_nil, List.nil_append, List.cons_append, List.append_nil, List.length_cons, List.length_nil, Option.toList_some, Option.toList_none, vx_nl, vx_isob, true_and, and_true, Nat.reduceAdd, Nat.reduceEqDiff, Nat.reduceLeDiff, Nat.zero_add, Nat.add_zero, not_false_eq_true, not_true_eq_false, Nat.reduceLT, Nat.reduceMul, Nat.reduceSub, Nat.zero_le, vx_up_s, false_implies, true_implies, forall_const, implies_true, imp_self, Nat.le_refl, forall_eq, forall_eq_apply_imp_iff, and_imp, exists_and_left, exists_eq_left, Nat.one_ne_zero, eq_self, true_or, or_true, Option.some.injEq, Value.int.injEq, Value.long.injEq, bk_V_game_0, bk_V_game_12, bk_V_game_22, bk_V_game_33, bk_V_game_65, bk_V_game_71, bk_V_game_79, bk_V_game_80, u1', u2']
        have e2 : n + 1 = yB Y := by omega
        rw [e2]
        refine ⟨fun _ => ?_, fun q => absurd (Int32.le_refl _) q⟩
        rw [← e]
        exact ⟨fun q2 => ⟨by rw [if_neg q2], hv, h0⟩, fun q2 => ⟨by rw [if_pos q2], hv, h0⟩⟩
      | succ k ih =>
        intro n hs w5 hn hv h0
        have u1' : hs 0 = _ := (hv 0 (by omega)).trans u1
        have u2' : hs y = _ := (hv y (by omega)).trans u2
        refine vx_go hX [33] 9 ?_
        simp only [e_nil, e_iconst, e_bipush, e_sipush, e_lconst, e_ldc_w, e_ldc2_w, e_iload, e_iload_n, e_lload, e_lload_n, e_aload, e_aload_n, e_istore, e_istore_n, e_astore, e_astore_n, e_lstore, e_iinc, e_iadd, e_isub, e_imul, e_iand, e_ior, e_ishl, e_ishr, e_iushr, e_idiv, e_irem, e_ldiv, e_lrem, e_ineg, e_lshl, e_lcmp, e_i2l, e_i2b, e_i2s, e_dup_i, e_dup_r, e_dup2, e_if_eq, e_if_ne, e_if_lt, e_if_ge, e_if_gt, e_if_le, e_icmp_eq, e_icmp_ne, e_icmp_lt, e_icmp_ge, e_icmp_gt, e_icmp_le, e_ifnull_r, e_ifnull_n, e_goto, e_tsw, e_lsw, e_getf, e_puti, e_putz, e_puta, e_new, e_newa, e_anew, e_iald, e_sald, e_iast, e_aald, e_aast, e_alen, e_slen, e_inv, e_acp, e_min, e_max, e_abs, e_ins, e_oinit, e_inx, e_iret, e_lret, e_vret, vx_run_s, List.getElem?_cons_succ, List.getElem?_cons_zero, List.set_cons_succ, List.set_cons_zero, List.mem_cons, List.not_mem_nil, or_false, false_or, if_true, if_false, ite_true, ite_false, ↓reduceIte, reduceCtorEq, List.take_succ_cons, List.take_zero, List.drop_succ_cons, List.drop_zero, List.reverse_cons, List.reverse_nil, List.nil_append, List.cons_append, List.append_nil, List.length_cons, List.length_nil, Option.toList_some, Option.toList_none, vx_nl, vx_isob, true_and, and_true, Nat.reduceAdd, Nat.reduceEqDiff, Nat.reduceLeDiff, Nat.zero_add, Nat.add_zero, not_false_eq_true, not_true_eq_false, Nat.reduceLT, Nat.reduceMul, Nat.reduceSub, Nat.zero_le, vx_up_s, false_implies, true_implies, forall_const, implies_true, imp_self, Nat.le_refl, forall_eq, forall_eq_apply_imp_iff, and_imp, exists_and_left, exists_eq_left, Nat.one_ne_zero, eq_self, true_or, or_true, Option.some.injEq, Value.int.injEq, Value.long.injEq, bk_V_game_0, bk_V_game_12, bk_V_game_22, bk_V_game_33, bk_V_game_65, bk_V_game_71, bk_V_game_79, bk_V_game_80, u1', u2']
        refine ⟨fun q => absurd q (nI_ge (by omega) (by omega)), fun _ => ?_⟩
        refine ⟨_, vw_widestBehind hs _ (u0.mv hv h0) (n + 1) (by omega), ?_⟩
        rintro _ h' ⟨rfl, hv', h0'⟩
        simp only [e_nil, e_iconst, e_bipush, e_sipush, e_lconst, e_ldc_w, e_ldc2_w, e_iload, e_iload_n, e_lload, e_lload_n, e_aload, e_aload_n, e_istore, e_istore_n, e_astore, e_astore_n, e_lstore, e_iinc, e_iadd, e_isub, e_imul, e_iand, e_ior, e_ishl, e_ishr, e_iushr, e_idiv, e_irem, e_ldiv, e_lrem, e_ineg, e_lshl, e_lcmp, e_i2l, e_i2b, e_i2s, e_dup_i, e_dup_r, e_dup2, e_if_eq, e_if_ne, e_if_lt, e_if_ge, e_if_gt, e_if_le, e_icmp_eq, e_icmp_ne, e_icmp_lt, e_icmp_ge, e_icmp_gt, e_icmp_le, e_ifnull_r, e_ifnull_n, e_goto, e_tsw, e_lsw, e_getf, e_puti, e_putz, e_puta, e_new, e_newa, e_anew, e_iald, e_sald, e_iast, e_aald, e_aast, e_alen, e_slen, e_inv, e_acp, e_min, e_max, e_abs, e_ins, e_oinit, e_inx, e_iret, e_lret, e_vret, vx_run_s, List.getElem?_cons_succ, List.getElem?_cons_zero, List.set_cons_succ, List.set_cons_zero, List.mem_cons, List.not_mem_nil, or_false, false_or, if_true, if_false, ite_true, ite_false, ↓reduceIte, reduceCtorEq, List.take_succ_cons, List.take_zero, List.drop_succ_cons, List.drop_zero, List.reverse_cons, List.reverse_nil, List.nil_append, List.cons_append, List.append_nil, List.length_cons, List.length_nil, Option.toList_some, Option.toList_none, vx_nl, vx_isob, true_and, and_true, Nat.reduceAdd, Nat.reduceEqDiff, Nat.reduceLeDiff, Nat.zero_add, Nat.add_zero, not_false_eq_true, not_true_eq_false, Nat.reduceLT, Nat.reduceMul, Nat.reduceSub, Nat.zero_le, vx_up_s, false_implies, true_implies, forall_const, implies_true, imp_self, Nat.le_refl, forall_eq, forall_eq_apply_imp_iff, and_imp, exists_and_left, exists_eq_left, Nat.one_ne_zero, eq_self, true_or, or_true, Option.some.injEq, Value.int.injEq, Value.long.injEq, bk_V_game_0, bk_V_game_12, bk_V_game_22, bk_V_game_33, bk_V_game_65, bk_V_game_71, bk_V_game_79, bk_V_game_80, nI_1]
        have := ih (n + 1) h' (some (.int (nI (vw_wb Y law lf sf (n + 1))))) (by omega) (hv.tr hv') h0'
        rw [vw_gm] at this
        have l1 := hml n
        have l2 := vw_wb_le u4 q law lf sf (n + 1)
        rw [nI_leI (by omega) (by omega)]
        refine ⟨fun q2 => ?_, fun q2 => ?_⟩
        · rw [if_neg (by omega)] at this
          exact this
        · rw [if_pos (by omega)] at this
          exact this
    refine ⟨_, vw_widestBehind h _ u0 0 q, ?_⟩
    rintro _ h' ⟨rfl, hv', h0'⟩
    simp only [e_nil, e_iconst, e_bipush, e_sipush, e_lconst, e_ldc_w, e_ldc2_w, e_iload, e_iload_n, e_lload, e_lload_n, e_aload, e_aload_n, e_istore, e_istore_n, e_astore, e_astore_n, e_lstore, e_iinc, e_iadd, e_isub, e_imul, e_iand, e_ior, e_ishl, e_ishr, e_iushr, e_idiv, e_irem, e_ldiv, e_lrem, e_ineg, e_lshl, e_lcmp, e_i2l, e_i2b, e_i2s, e_dup_i, e_dup_r, e_dup2, e_if_eq, e_if_ne, e_if_lt, e_if_ge, e_if_gt, e_if_le, e_icmp_eq, e_icmp_ne, e_icmp_lt, e_icmp_ge, e_icmp_gt, e_icmp_le, e_ifnull_r, e_ifnull_n, e_goto, e_tsw, e_lsw, e_getf, e_puti, e_putz, e_puta, e_new, e_newa, e_anew, e_iald, e_sald, e_iast, e_aald, e_aast, e_alen, e_slen, e_inv, e_acp, e_min, e_max, e_abs, e_ins, e_oinit, e_inx, e_iret, e_lret, e_vret, vx_run_s, List.getElem?_cons_succ, List.getElem?_cons_zero, List.set_cons_succ, List.set_cons_zero, List.mem_cons, List.not_mem_nil, or_false, false_or, if_true, if_false, ite_true, ite_false, ↓reduceIte, reduceCtorEq, List.take_succ_cons, List.take_zero, List.drop_succ_cons, List.drop_zero, List.reverse_cons, List.reverse_nil, List.nil_append, List.cons_append, List.append_nil, List.length_cons, List.length_nil, Option.toList_some, Option.toList_none, vx_nl, vx_isob, true_and, and_true, Nat.reduceAdd, Nat.reduceEqDiff, Nat.reduceLeDiff, Nat.zero_add, Nat.add_zero, not_false_eq_true, not_true_eq_false, Nat.reduceLT, Nat.reduceMul, Nat.reduceSub, Nat.zero_le, vx_up_s, false_implies, true_implies, forall_const, implies_true, imp_self, Nat.le_refl, forall_eq, forall_eq_apply_imp_iff, and_imp, exists_and_left, exists_eq_left, Nat.one_ne_zero, eq_self, true_or, or_true, Option.some.injEq, Value.int.injEq, Value.long.injEq, bk_V_game_0, bk_V_game_12, bk_V_game_22, bk_V_game_33, bk_V_game_65, bk_V_game_71, bk_V_game_79, bk_V_game_80]
    exact loop (yB Y - 1) 0 h' none (by omega) hv' h0'
  refine vx_go hX [12] 9 ?_
  simp only [e_nil, e_iconst, e_bipush, e_sipush, e_lconst, e_ldc_w, e_ldc2_w, e_iload, e_iload_n, e_lload, e_lload_n, e_aload, e_aload_n, e_istore, e_istore_n, e_astore, e_astore_n, e_lstore, e_iinc, e_iadd, e_isub, e_imul, e_iand, e_ior, e_ishl, e_ishr, e_iushr, e_idiv, e_irem, e_ldiv, e_lrem, e_ineg, e_lshl, e_lcmp, e_i2l, e_i2b, e_i2s, e_dup_i, e_dup_r, e_dup2, e_if_eq, e_if_ne, e_if_lt, e_if_ge, e_if_gt, e_if_le, e_icmp_eq, e_icmp_ne, e_icmp_lt, e_icmp_ge, e_icmp_gt, e_icmp_le, e_ifnull_r, e_ifnull_n, e_goto, e_tsw, e_lsw, e_getf, e_puti, e_putz, e_puta, e_new, e_newa, e_anew, e_iald, e_sald, e_iast, e_aald, e_aast, e_alen, e_slen, e_inv, e_acp, e_min, e_max, e_abs, e_ins, e_oinit, e_inx, e_iret, e_lret, e_vret, vx_run_s, List.getElem?_cons_succ, List.getElem?_cons_zero, List.set_cons_succ, List.set_cons_zero, List.mem_cons, List.not_mem_nil, or_false, false_or, if_true, if_false, ite_true, ite_false, ↓reduceIte, reduceCtorEq, List.take_succ_cons, List.take_zero, List.drop_succ_cons, List.drop_zero, List.reverse_cons, List.reverse_nil, List.nil_append, List.cons_append, List.append_nil, List.length_cons, List.length_nil, Option.toList_some, Option.toList_none, vx_nl, vx_isob, true_and, and_true, Nat.reduceAdd, Nat.reduceEqDiff, Nat.reduceLeDiff, Nat.zero_add, Nat.add_zero, not_false_eq_true, not_true_eq_false, Nat.reduceLT, Nat.reduceMul, Nat.reduceSub, Nat.zero_le, vx_up_s, false_implies, true_implies, forall_const, implies_true, imp_self, Nat.le_refl, forall_eq, forall_eq_apply_imp_iff, and_imp, exists_and_left, exists_eq_left, Nat.one_ne_zero, eq_self, true_or, or_true, Option.some.injEq, Value.int.injEq, Value.long.injEq, bk_V_game_0, bk_V_game_12, bk_V_game_22, bk_V_game_33, bk_V_game_65, bk_V_game_71, bk_V_game_79, bk_V_game_80, u1]
  refine ⟨fun q => h12 (Or.inl q), fun q => ⟨fun q2 => h12 (Or.inr q2), fun q2 => ⟨by rw [if_neg (by rintro (h1 | h1); exact q h1; exact q2 h1)], vf.rf, u5⟩⟩⟩
