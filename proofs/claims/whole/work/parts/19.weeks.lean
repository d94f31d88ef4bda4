/-! Weeks: the reckoning of a Sunday -/
/-- Weeks stands at cell 18 -/
def hW (h : vx_H) (Y : vw_Y) (rows gf vb : Nat → Int32) (lr lm : Int32) : Prop := h 18 = some (.inr (.inr (4, [.ref 19, .ref 20, .ref 21, .int (nI (yB Y)), .int (nI (yI Y)), .int lr, .int lm]))) ∧ h 19 = some (.inl (255, rows)) ∧ h 20 = some (.inl (5, gf)) ∧ h 21 = some (.inl (31, vb))
/-- the limits of a yard -/
def yOk (Y : vw_Y) : Prop := yB Y ≤ 5 ∧ yN Y ≤ 8 ∧ yI Y ≤ 30 ∧ (∀ p, p < yN Y → yP Y p < yI Y ∧ yK Y p ≤ 2) ∧ vw_inc Y (yG Y) ∧ (yB Y = 0 ↔ yN Y = 0)
theorem vw_votesFromTo (h : vx_H) (sz : Nat) (Y : vw_Y) (rows gf vb : Nat → Int32) (lr lm : Int32) (hw : hW h Y rows gf vb lr lm) (lo hi : Nat) (h1 : lo ≤ 30) (h2 : hi ≤ 30) :
    vx_Ok m_Wk_votesFromTo [.ref 18, .int (nI lo), .int (nI hi)] sz h (fun r h' => r = some (.int (vb hi - vb lo)) ∧ h' = h) := by
  refine ok_Wk_votesFromTo [some (.ref 18), some (.int (nI lo)), some (.int (nI hi))] (Nat.le_of_ble_eq_true rfl) rfl (fun lim z X hX => ?_)
  obtain ⟨w1, w2, w3, w4⟩ := hw
  have b1 : lo < 2 ^ 31 := by omega
  have b2 : hi < 2 ^ 31 := by omega
  have a1 := nI_toInt b1
  have a2 := nI_toInt b2
  refine vx_go hX [] 9 ?_
  simp only [e_nil, e_iconst, e_bipush, e_sipush, e_lconst, e_ldc_w, e_ldc2_w, e_iload, e_iload_n, e_lload, e_lload_n, e_aload, e_aload_n, e_istore, e_istore_n, e_astore, e_astore_n, e_lstore, e_iinc, e_iadd, e_isub, e_imul, e_iand, e_ior, e_ishl, e_ishr, e_iushr, e_idiv, e_irem, e_ldiv, e_lrem, e_ineg, e_lshl, e_lcmp, e_i2l, e_i2b, e_i2s, e_dup_i, e_dup_r, e_dup2, e_if_eq, e_if_ne, e_if_lt, e_if_ge, e_if_gt, e_if_le, e_icmp_eq, e_icmp_ne, e_icmp_lt, e_icmp_ge, e_icmp_gt, e_icmp_le, e_ifnull_r, e_ifnull_n, e_goto, e_tsw, e_lsw, e_getf, e_puti, e_putz, e_puta, e_new, e_newa, e_anew, e_iald, e_sald, e_iast, e_aald, e_aast, e_alen, e_slen, e_inv, e_acp, e_min, e_max, e_abs, e_ins, e_oinit, e_inx, e_iret, e_lret, e_vret, vx_run_s, List.getElem?_cons_succ, List.getElem?_cons_zero, List.set_cons_succ, List.set_cons_zero, List.mem_cons, List.not_mem_nil, or_false, false_or, if_true, if_false, ite_true, ite_false, ↓reduceIte, reduceCtorEq, List.take_succ_cons, List.take_zero, List.drop_succ_cons, List.drop_zero, List.reverse_cons, List.reverse_nil, List.nil_append, List.cons_append, List.append_nil, List.length_cons, List.length_nil, Option.toList_some, Option.toList_none, vx_nl, vx_isob, true_and, and_true, Nat.reduceAdd, Nat.reduceEqDiff, Nat.reduceLeDiff, Nat.zero_add, Nat.add_zero, not_false_eq_true, not_true_eq_false, Nat.reduceLT, Nat.reduceMul, Nat.reduceSub, Nat.zero_le, vx_up_s, false_implies, true_implies, forall_const, implies_true, imp_self, Nat.le_refl, forall_eq, forall_eq_apply_imp_iff, and_imp, exists_and_left, exists_eq_left, Nat.one_ne_zero, eq_self, true_or, or_true, Option.some.injEq, Value.int.injEq, Value.long.injEq, bk_Wk_votesFromTo_0, bk_Wk_votesFromTo_20, bk_Wk_votesFromTo_22, w1, w4, nI_clamp, b1, b2]
  refine ⟨fun q => by (exfalso; simp only [Int32.lt_iff_toInt_lt, Int32.le_iff_toInt_le, ← Int32.toInt_inj, Int32.reduceToInt] at q; omega), fun _ => ⟨fun q => by (exfalso; simp only [Int32.lt_iff_toInt_lt, Int32.le_iff_toInt_le, ← Int32.toInt_inj, Int32.reduceToInt] at q; omega), fun _ => ⟨fun q => by (exfalso; simp only [Int32.lt_iff_toInt_lt, Int32.le_iff_toInt_le, ← Int32.toInt_inj, Int32.reduceToInt] at q; omega), fun _ => ⟨fun _ => ⟨vp_in_nI (by omega) (by decide), vp_in_nI (by omega) (by decide)⟩, fun q => by (exfalso; simp only [Int32.lt_iff_toInt_lt, Int32.le_iff_toInt_le, ← Int32.toInt_inj, Int32.reduceToInt] at q; omega)⟩⟩⟩⟩
theorem nI_sub {a b : Nat} (h : b ≤ a) : nI a - nI b = nI (a - b) := pk_sub h
theorem upd_self (f : Nat → Int32) (k : Nat) : upd f k (f k) = f := by
  funext j
  by_cases h : j = k
  · subst h; simp [upd]
  · simp [upd, h]
/-- Integer.compare of two small numbers, added to a third -/
def vw_cmp (a b : Nat) : Int32 := if nI a < nI b then -1 else if nI a = nI b then 0 else 1
theorem vw_pushOne (h : vx_H) (sz : Nat) (Y : vw_Y) (q : Int32) (g : Nat → Nat) (rows gf vb : Nat → Int32) (lr lm : Int32) (hw : hW h Y rows gf vb lr lm) (hy : yB Y ≤ 5 ∧ yN Y ≤ 8 ∧ yI Y ≤ 30) (hi : vw_inc Y g) (hg : ∀ b, b < yB Y → gf b = nI (g b)) (hv : ∀ x, x ≤ 30 → vb x = nI (vw_bt Y q 0 x)) (b : Nat) (hb : b < yB Y) :
    vx_Ok m_Wk_pushOne [.ref 18, .int (nI b)] sz h (fun r h' => r = some (.int (vx_bI (¬ vw_nx Y q g b = g b))) ∧ h' = vx_up h 20 (.inl (5, upd gf b (nI (vw_nx Y q g b))))) := by
  refine ok_Wk_pushOne [some (.ref 18), some (.int (nI b)), none, none, none, none, none, none] (Nat.le_of_ble_eq_true rfl) rfl (fun lim z X hX => ?_)
  have hw0 := hw
  obtain ⟨w1, w2, w3, w4⟩ := hw
  have b1 : b < 2 ^ 31 := by omega
  have hpos := vw_inc_pos hi
  have hgb := hpos b hb
  obtain ⟨y1, y2, y3⟩ := hy
  have hlt := hi b hb
  have hhi : vw_hi Y g b ≤ 30 := by
    unfold vw_hi
    split
    · exact y3
    · have := hpos (b + 1) (by omega); omega
  generalize elo : vw_lo g b = lo at hlt
  generalize ehi : vw_hi Y g b = hi' at hlt hhi
  have hL : vb (g b) - vb lo = nI (vw_bt Y q lo (g b)) := by
    rw [hv _ (by omega), hv _ (by omega), vw_bt_split Y q (Nat.zero_le lo) (by omega : lo ≤ g b), nI_sub (by omega)]
    congr 1; omega
  have hR : vb hi' - vb (g b) = nI (vw_bt Y q (g b) hi') := by
    rw [hv _ (by omega), hv _ (by omega), vw_bt_split Y q (Nat.zero_le (g b)) (by omega : g b ≤ hi'), nI_sub (by omega)]
    congr 1; omega
  have lL := vw_bt_le Y q lo (g b)
  have lR := vw_bt_le Y q (g b) hi'
  have hnx : vw_nx Y q g b = if vw_bt Y q (g b) hi' < vw_bt Y q lo (g b) ∧ g b + 1 < hi' then g b + 1 else if vw_bt Y q lo (g b) < vw_bt Y q (g b) hi' ∧ lo + 1 < g b then g b - 1 else g b := by
    unfold vw_nx; rw [elo, ehi]
  generalize vw_bt Y q lo (g b) = cL at hL lL hnx
  generalize vw_bt Y q (g b) hi' = cR at hR lR hnx
  have hgb' : gf b = nI (g b) := hg b hb
  have h42 : X 42 [some (.ref 18), some (.int (nI b)), some (.int (nI lo)), none, none, none, none, none] [.int (nI hi')] z h := by
    refine vx_go hX [] 9 ?_
    simp only [e_nil, e_iconst, e_bipush, e_sipush, e_lconst, e_ldc_w, e_ldc2_w, e_iload, e_iload_n, e_lload, e_lload_n, e_aload, e_aload_n, e_istore, e_istore_n, e_astore, e_astore_n, e_lstore, e_iinc, e_iadd, e_isub, e_imul, e_iand, e_ior, e_ishl, e_ishr, e_iushr, e_idiv, e_irem, e_ldiv, e_lrem, e_ineg, e_lshl, e_lcmp, e_i2l, e_i2b, e_i2s, e_dup_i, e_dup_r, e_dup2, e_if_eq, e_if_ne, e_if_lt, e_if_ge, e_if_gt, e_if_le, e_icmp_eq, e_icmp_ne, e_icmp_lt, e_icmp_ge, e_icmp_gt, e_icmp_le, e_ifnull_r, e_ifnull_n, e_goto, e_tsw, e_lsw, e_getf, e_puti, e_putz, e_puta, e_new, e_newa, e_anew, e_iald, e_sald, e_iast, e_aald, e_aast, e_alen, e_slen, e_inv, e_acp, e_min, e_max, e_abs, e_ins, e_oinit, e_inx, e_iret, e_lret, e_vret, vx_run_s, List.getElem?_cons_succ, List.getElem?_cons_zero, List.set_cons_succ, List.set_cons_zero, List.mem_cons, List.not_mem_nil, or_false, false_or, if_true, if_false, ite_true, ite_false, ↓reduceIte, reduceCtorEq, List.take_succ_cons, List.take_zero, List.drop_succ_cons, List.drop_zero, List.reverse_cons, List.reverse_nil, List.nil_append, List.cons_append, List.append_nil, List.length_cons, List.length_nil, Option.toList_some, Option.toList_none, vx_nl, vx_isob, true_and, and_true, Nat.reduceAdd, Nat.reduceEqDiff, Nat.reduceLeDiff, Nat.zero_add, Nat.add_zero, not_false_eq_true, not_true_eq_false, Nat.reduceLT, Nat.reduceMul, Nat.reduceSub, Nat.zero_le, vx_up_s, false_implies, true_implies, forall_const, implies_true, imp_self, Nat.le_refl, forall_eq, forall_eq_apply_imp_iff, and_imp, exists_and_left, exists_eq_left, Nat.one_ne_zero, eq_self, true_or, or_true, Option.some.injEq, Value.int.injEq, Value.long.injEq, bk_Wk_pushOne_0, bk_Wk_pushOne_8, bk_Wk_pushOne_16, bk_Wk_pushOne_34, bk_Wk_pushOne_42, bk_Wk_pushOne_100, bk_Wk_pushOne_102, w1, w3, nI_clamp, b1]
    refine ⟨vp_in_nI (by omega) (by decide), ?_⟩
    rw [hgb']
    refine vx_cl1 (vw_votesFromTo h _ Y rows gf vb lr lm hw0 lo (g b) (by omega) (by omega)) ?_
    simp only [e_nil, e_iconst, e_bipush, e_sipush, e_lconst, e_ldc_w, e_ldc2_w, e_iload, e_iload_n, e_lload, e_lload_n, e_aload, e_aload_n, e_istore, e_istore_n, e_astore, e_astore_n, e_lstore, e_iinc, e_iadd, e_isub, e_imul, e_iand, e_ior, e_ishl, e_ishr, e_iushr, e_idiv, e_irem, e_ldiv, e_lrem, e_ineg, e_lshl, e_lcmp, e_i2l, e_i2b, e_i2s, e_dup_i, e_dup_r, e_dup2, e_if_eq, e_if_ne, e_if_lt, e_if_ge, e_if_gt, e_if_le, e_icmp_eq, e_icmp_ne, e_icmp_lt, e_icmp_ge, e_icmp_gt, e_icmp_le, e_ifnull_r, e_ifnull_n, e_goto, e_tsw, e_lsw, e_getf, e_puti, e_putz, e_puta, e_new, e_newa, e_anew, e_iald, e_sald, e_iast, e_aald, e_aast, e_alen, e_slen, e_inv, e_acp, e_min, e_max, e_abs, e_ins, e_oinit, e_inx, e_iret, e_lret, e_vret, vx_run_s, List.getElem?_cons_succ, List.getElem?_cons_zero, List.set_cons_succ, List.set_cons_zero, List.mem_cons, List.not_mem_nil, or_false, false_or, if_true, if_false, ite_true, ite_false, ↓reduceIte, reduceCtorEq, List.take_succ_cons, List.take_zero, List.drop_succ_cons, List.drop_zero, List.reverse_cons, List.reverse_nil, List.nil_append, List.cons_append, List.append_nil, List.length_cons, List.length_nil, Option.toList_some, Option.toList_none, vx_nl, vx_isob, true_and, and_true, Nat.reduceAdd, Nat.reduceEqDiff, Nat.reduceLeDiff, Nat.zero_add, Nat.add_zero, not_false_eq_true, not_true_eq_false, Nat.reduceLT, Nat.reduceMul, Nat.reduceSub, Nat.zero_le, vx_up_s, false_implies, true_implies, forall_const, implies_true, imp_self, Nat.le_refl, forall_eq, forall_eq_apply_imp_iff, and_imp, exists_and_left, exists_eq_left, Nat.one_ne_zero, eq_self, true_or, or_true, Option.some.injEq, Value.int.injEq, Value.long.injEq, bk_Wk_pushOne_0, bk_Wk_pushOne_8, bk_Wk_pushOne_16, bk_Wk_pushOne_34, bk_Wk_pushOne_42, bk_Wk_pushOne_100, bk_Wk_pushOne_102, w1, w3, nI_clamp, b1, hL]
    refine vx_cl1 (vw_votesFromTo h _ Y rows gf vb lr lm hw0 (g b) hi' (by omega) (by omega)) ?_
    simp only [e_nil, e_iconst, e_bipush, e_sipush, e_lconst, e_ldc_w, e_ldc2_w, e_iload, e_iload_n, e_lload, e_lload_n, e_aload, e_aload_n, e_istore, e_istore_n, e_astore, e_astore_n, e_lstore, e_iinc, e_iadd, e_isub, e_imul, e_iand, e_ior, e_ishl, e_ishr, e_iushr, e_idiv, e_irem, e_ldiv, e_lrem, e_ineg, e_lshl, e_lcmp, e_i2l, e_i2b, e_i2s, e_dup_i, e_dup_r, e_dup2, e_if_eq, e_if_ne, e_if_lt, e_if_ge, e_if_gt, e_if_le, e_icmp_eq, e_icmp_ne, e_icmp_lt, e_icmp_ge, e_icmp_gt, e_icmp_le, e_ifnull_r, e_ifnull_n, e_goto, e_tsw, e_lsw, e_getf, e_puti, e_putz, e_puta, e_new, e_newa, e_anew, e_iald, e_sald, e_iast, e_aald, e_aast, e_alen, e_slen, e_inv, e_acp, e_min, e_max, e_abs, e_ins, e_oinit, e_inx, e_iret, e_lret, e_vret, vx_run_s, List.getElem?_cons_succ, List.getElem?_cons_zero, List.set_cons_succ, List.set_cons_zero, List.mem_cons, List.not_mem_nil, or_false, false_or, if_true, if_false, ite_true, ite_false, ↓reduceIte, reduceCtorEq, List.take_succ_cons, List.take_zero, List.drop_succ_cons, List.drop_zero, List.reverse_cons, List.reverse_nil, List.nil_append, List.cons_append, List.append_nil, List.length_cons, List.length_nil, Option.toList_some, Option.toList_none, vx_nl, vx_isob, true_and, and_true, Nat.reduceAdd, Nat.reduceEqDiff, Nat.reduceLeDiff, Nat.zero_add, Nat.add_zero, not_false_eq_true, not_true_eq_false, Nat.reduceLT, Nat.reduceMul, Nat.reduceSub, Nat.zero_le, vx_up_s, false_implies, true_implies, forall_const, implies_true, imp_self, Nat.le_refl, forall_eq, forall_eq_apply_imp_iff, and_imp, exists_and_left, exists_eq_left, Nat.one_ne_zero, eq_self, true_or, or_true, Option.some.injEq, Value.int.injEq, Value.long.injEq, bk_Wk_pushOne_0, bk_Wk_pushOne_8, bk_Wk_pushOne_16, bk_Wk_pushOne_34, bk_Wk_pushOne_42, bk_Wk_pushOne_100, bk_Wk_pushOne_102, w1, w3, nI_clamp, b1, hR]
    refine vx_cl1 (vw_compare h _ _ _) ?_
    simp only [e_nil, e_iconst, e_bipush, e_sipush, e_lconst, e_ldc_w, e_ldc2_w, e_iload, e_iload_n, e_lload, e_lload_n, e_aload, e_aload_n, e_istore, e_istore_n, e_astore, e_astore_n, e_lstore, e_iinc, e_iadd, e_isub, e_imul, e_iand, e_ior, e_ishl, e_ishr, e_iushr, e_idiv, e_irem, e_ldiv, e_lrem, e_ineg, e_lshl, e_lcmp, e_i2l, e_i2b, e_i2s, e_dup_i, e_dup_r, e_dup2, e_if_eq, e_if_ne, e_if_lt, e_if_ge, e_if_gt, e_if_le, e_icmp_eq, e_icmp_ne, e_icmp_lt, e_icmp_ge, e_icmp_gt, e_icmp_le, e_ifnull_r, e_ifnull_n, e_goto, e_tsw, e_lsw, e_getf, e_puti, e_putz, e_puta, e_new, e_newa, e_anew, e_iald, e_sald, e_iast, e_aald, e_aast, e_alen, e_slen, e_inv, e_acp, e_min, e_max, e_abs, e_ins, e_oinit, e_inx, e_iret, e_lret, e_vret, vx_run_s, List.getElem?_cons_succ, List.getElem?_cons_zero, List.set_cons_succ, List.set_cons_zero, List.mem_cons, List.not_mem_nil, or_false, false_or, if_true, if_false, ite_true, ite_false, ↓reduceIte, reduceCtorEq, List.take_succ_cons, List.take_zero, List.drop_succ_cons, List.drop_zero, List.reverse_cons, List.reverse_nil, List.nil_append, List.cons_append, List.append_nil, List.length_cons, List.length_nil, Option.toList_some, Option.toList_none, vx_nl, vx_isob, true_and, and_true, Nat.reduceAdd, Nat.reduceEqDiff, Nat.reduceLeDiff, Nat.zero_add, Nat.add_zero, not_false_eq_true, not_true_eq_false, Nat.reduceLT, Nat.reduceMul, Nat.reduceSub, Nat.zero_le, vx_up_s, false_implies, true_implies, forall_const, implies_true, imp_self, Nat.le_refl, forall_eq, forall_eq_apply_imp_iff, and_imp, exists_and_left, exists_eq_left, Nat.one_ne_zero, eq_self, true_or, or_true, Option.some.injEq, Value.int.injEq, Value.long.injEq, bk_Wk_pushOne_0, bk_Wk_pushOne_8, bk_Wk_pushOne_16, bk_Wk_pushOne_34, bk_Wk_pushOne_42, bk_Wk_pushOne_100, bk_Wk_pushOne_102, w1, w3, nI_clamp, b1]
    have stay : vw_nx Y q g b = g b → 0 = vx_bI (¬ vw_nx Y q g b = g b) ∧ h = vx_up h 20 (Sum.inl (5, upd gf b (nI (vw_nx Y q g b)))) := by
      intro e
      rw [e]
      refine ⟨(vx_bI_f (fun q => q rfl)).symm, ?_⟩
      rw [← hgb', upd_self, vx_up_id w3]
    rcases Nat.lt_trichotomy cL cR with hc | hc | hc
    · rw [if_pos (nI_lt hc (by omega)), sb_m1 hgb.1]
      simp only [nI_eq (a := g b - 1) (b := g b) (by omega) (by omega), nI_leI (a := g b - 1) (b := lo) (by omega) (by omega), nI_ltI (a := g b - 1) (b := hi') (by omega) (by omega)]
      rw [if_neg (by omega)] at hnx
      refine ⟨fun q => by omega, fun _ => ⟨fun q => stay (by rw [hnx, if_neg (by omega)]), fun q => ⟨fun _ => ?_, fun q => by omega⟩⟩⟩
      rw [if_pos (by omega)] at hnx
      rw [hnx]
      exact ⟨vp_in_nI (by omega) (by decide), (vx_bI_t (by omega)).symm, rfl⟩
    · subst hc
      rw [if_neg (by simp), if_pos rfl, Int32.add_zero]
      exact ⟨fun _ => stay (by rw [hnx, if_neg (by omega), if_neg (by omega)]), fun q => absurd rfl q⟩
    · rw [if_neg (nI_nlt (by omega) (by omega)), if_neg (by rw [nI_eq (by omega) (by omega)]; omega), nI_1]
      simp only [nI_eq (a := g b + 1) (b := g b) (by omega) (by omega), nI_leI (a := g b + 1) (b := lo) (by omega) (by omega), nI_ltI (a := g b + 1) (b := hi') (by omega) (by omega)]
      refine ⟨fun q => by omega, fun _ => ⟨fun q => by omega, fun q => ⟨fun q2 => ?_, fun q2 => stay (by rw [hnx, if_neg (by omega), if_neg (by omega)])⟩⟩⟩
      rw [if_pos (by omega)] at hnx
      rw [hnx]
      exact ⟨vp_in_nI (by omega) (by decide), (vx_bI_t (by omega)).symm, rfl⟩
  have h16 : X 16 [some (.ref 18), some (.int (nI b)), none, none, none, none, none, none] [.int (nI lo)] z h := by
    refine vx_go hX [42] 9 ?_
    simp only [e_nil, e_iconst, e_bipush, e_sipush, e_lconst, e_ldc_w, e_ldc2_w, e_iload, e_iload_n, e_lload, e_lload_n, e_aload, e_aload_n, e_istore, e_istore_n, e_astore, e_astore_n, e_lstore, e_iinc, e_iadd, e_isub, e_imul, e_iand, e_ior, e_ishl, e_ishr, e_iushr, e_idiv, e_irem, e_ldiv, e_lrem, e_ineg, e_lshl, e_lcmp, e_i2l, e_i2b, e_i2s, e_dup_i, e_dup_r, e_dup2, e_if_eq, e_if_ne, e_if_lt, e_if_ge, e_if_gt, e_if_le, e_icmp_eq, e_icmp_ne, e_icmp_lt, e_icmp_ge, e_icmp_gt, e_icmp_le, e_ifnull_r, e_ifnull_n, e_goto, e_tsw, e_lsw, e_getf, e_puti, e_putz, e_puta, e_new, e_newa, e_anew, e_iald, e_sald, e_iast, e_aald, e_aast, e_alen, e_slen, e_inv, e_acp, e_min, e_max, e_abs, e_ins, e_oinit, e_inx, e_iret, e_lret, e_vret, vx_run_s, List.getElem?_cons_succ, List.getElem?_cons_zero, List.set_cons_succ, List.set_cons_zero, List.mem_cons, List.not_mem_nil, or_false, false_or, if_true, if_false, ite_true, ite_false, ↓reduceIte, reduceCtorEq, List.take_succ_cons, List.take_zero, List.drop_succ_cons, List.drop_zero, List.reverse_cons, List.reverse_nil, List.nil_append, List.cons_append, List.append_nil, List.length_cons, List.length_nil, Option.toList_some, Option.toList_none, vx_nl, vx_isob, true_and, and_true, Nat.reduceAdd, Nat.reduceEqDiff, Nat.reduceLeDiff, Nat.zero_add, Nat.add_zero, not_false_eq_true, not_true_eq_false, Nat.reduceLT, Nat.reduceMul, Nat.reduceSub, Nat.zero_le, vx_up_s, false_implies, true_implies, forall_const, implies_true, imp_self, Nat.le_refl, forall_eq, forall_eq_apply_imp_iff, and_imp, exists_and_left, exists_eq_left, Nat.one_ne_zero, eq_self, true_or, or_true, Option.some.injEq, Value.int.injEq, Value.long.injEq, bk_Wk_pushOne_0, bk_Wk_pushOne_8, bk_Wk_pushOne_16, bk_Wk_pushOne_34, bk_Wk_pushOne_42, bk_Wk_pushOne_100, bk_Wk_pushOne_102, w1, w3, nI_clamp, b1]
    refine ⟨fun q => ?_, fun q => ?_⟩
    · have hne : b + 1 ≠ yB Y := by
        intro e
        apply q
        rw [← e, nI_succ]
        simp
      unfold vw_hi at ehi
      rw [if_neg hne] at ehi
      refine ⟨by rw [nI_1]; exact vp_in_nI (by omega) (by decide), ?_⟩
      rw [nI_1, nI_clamp (by omega), hg _ (by omega), ehi]
      exact h42
    · have he : b + 1 = yB Y := by
        have e1 : nI b + 1 = nI (yB Y) := by rw [q]; simp
        rw [nI_1] at e1
        exact (nI_eq (by omega) (by omega)).mp e1
      unfold vw_hi at ehi
      rw [if_pos he] at ehi
      rw [ehi]
      exact h42
  refine vx_go hX [16] 9 ?_
  simp only [e_nil, e_iconst, e_bipush, e_sipush, e_lconst, e_ldc_w, e_ldc2_w, e_iload, e_iload_n, e_lload, e_lload_n, e_aload, e_aload_n, e_istore, e_istore_n, e_astore, e_astore_n, e_lstore, e_iinc, e_iadd, e_isub, e_imul, e_iand, e_ior, e_ishl, e_ishr, e_iushr, e_idiv, e_irem, e_ldiv, e_lrem, e_ineg, e_lshl, e_lcmp, e_i2l, e_i2b, e_i2s, e_dup_i, e_dup_r, e_dup2, e_if_eq, e_if_ne, e_if_lt, e_if_ge, e_if_gt, e_if_le, e_icmp_eq, e_icmp_ne, e_icmp_lt, e_icmp_ge, e_icmp_gt, e_icmp_le, e_ifnull_r, e_ifnull_n, e_goto, e_tsw, e_lsw, e_getf, e_puti, e_putz, e_puta, e_new, e_newa, e_anew, e_iald, e_sald, e_iast, e_aald, e_aast, e_alen, e_slen, e_inv, e_acp, e_min, e_max, e_abs, e_ins, e_oinit, e_inx, e_iret, e_lret, e_vret, vx_run_s, List.getElem?_cons_succ, List.getElem?_cons_zero, List.set_cons_succ, List.set_cons_zero, List.mem_cons, List.not_mem_nil, or_false, false_or, if_true, if_false, ite_true, ite_false, ↓reduceIte, reduceCtorEq, List.take_succ_cons, List.take_zero, List.drop_succ_cons, List.drop_zero, List.reverse_cons, List.reverse_nil, List.nil_append, List.cons_append, List.append_nil, List.length_cons, List.length_nil, Option.toList_some, Option.toList_none, vx_nl, vx_isob, true_and, and_true, Nat.reduceAdd, Nat.reduceEqDiff, Nat.reduceLeDiff, Nat.zero_add, Nat.add_zero, not_false_eq_true, not_true_eq_false, Nat.reduceLT, Nat.reduceMul, Nat.reduceSub, Nat.zero_le, vx_up_s, false_implies, true_implies, forall_const, implies_true, imp_self, Nat.le_refl, forall_eq, forall_eq_apply_imp_iff, and_imp, exists_and_left, exists_eq_left, Nat.one_ne_zero, eq_self, true_or, or_true, Option.some.injEq, Value.int.injEq, Value.long.injEq, bk_Wk_pushOne_0, bk_Wk_pushOne_8, bk_Wk_pushOne_16, bk_Wk_pushOne_34, bk_Wk_pushOne_42, bk_Wk_pushOne_100, bk_Wk_pushOne_102, w1, w3, nI_clamp, b1]
  refine ⟨fun q => ?_, fun q => ?_⟩
  · have hne : b ≠ 0 := fun e => q (by rw [e]; rfl)
    unfold vw_lo at elo
    rw [if_neg hne] at elo
    have e1 : nI b - 1 = nI (b - 1) := nI_sub (b := 1) (by omega)
    rw [e1]
    refine ⟨vp_in_nI (by omega) (by decide), ?_⟩
    rw [nI_clamp (by omega), hg _ (by omega), elo]
    exact h16
  · have he : b = 0 := (nI_eq b1 (by omega)).mp q
    unfold vw_lo at elo
    rw [if_pos he] at elo
    subst elo
    exact h16
theorem hW_g {h : vx_H} {Y : vw_Y} {rows gf vb : Nat → Int32} {lr lm : Int32} (hw : hW h Y rows gf vb lr lm) (gf' : Nat → Int32) : hW (vx_up h 20 (.inl (5, gf'))) Y rows gf' vb lr lm := by
  obtain ⟨w1, w2, w3, w4⟩ := hw
  exact ⟨by simp [vx_up_a, w1], by simp [vx_up_a, w2], by simp [vx_up_a], by simp [vx_up_a, w4]⟩
theorem vw_upd_g {Y : vw_Y} {g : Nat → Nat} {gf : Nat → Int32} {b x : Nat} (hg : ∀ c, c < yB Y → gf c = nI (g c)) : ∀ c, c < yB Y → upd gf b (nI x) c = nI (vw_u g b x c) := by
  intro c hc
  by_cases e : c = b
  · subst e; simp [upd, vw_u]
  · simp [upd, vw_u, e, hg c hc]
theorem vw_pushAll (h : vx_H) (sz : Nat) (Y : vw_Y) (q law lk : Int32) (g : Nat → Nat) (rows gf vb : Nat → Int32) (lr lm : Int32) (hw : hW h Y rows gf vb lr lm) (hy : yB Y ≤ 5 ∧ yN Y ≤ 8 ∧ yI Y ≤ 30) (hi : vw_inc Y g) (hg : ∀ b, b < yB Y → gf b = nI (g b)) (hv : ∀ x, x ≤ 30 → vb x = nI (vw_bt Y q 0 x)) :
    vx_Ok m_Wk_pushAll [.ref 18, .int law, .int lk] sz h (fun r h' => r = some (.int (vx_bI ((vw_go Y law lk q (yB Y) g).2 = true))) ∧ ∃ gf', (∀ b, b < yB Y → gf' b = nI ((vw_go Y law lk q (yB Y) g).1 b)) ∧ h' = vx_up h 20 (.inl (5, gf'))) := by
  refine ok_Wk_pushAll [some (.ref 18), some (.int law), some (.int lk), none, none, none] (Nat.le_of_ble_eq_true rfl) rfl (fun lim z X hX => ?_)
  obtain ⟨y1, y2, y3⟩ := id hy
  have loop : ∀ (n k : Nat) (w : Option Value) (gk : Nat → Int32), k + n = yB Y → (∀ b, b < yB Y → gk b = nI ((vw_go Y law lk q k g).1 b)) → X 5 [some (.ref 18), some (.int law), some (.int lk), some (.int (vx_bI ((vw_go Y law lk q k g).2 = true))), some (.int (nI k)), w] [] z (vx_up h 20 (.inl (5, gk))) := by
    intro n
    induction n with
    | zero =>
      intro k w gk hk hgk
      have e : k = yB Y := by omega
      subst e
      obtain ⟨w1, w2, w3, w4⟩ := hW_g hw gk
      refine vx_go hX [] 9 ?_
      simp only [e_nil, e_iconst, e_bipush, e_sipush, e_lconst, e_ldc_w, e_ldc2_w, e_iload, e_iload_n, e_lload, e_lload_n, e_aload, e_aload_n, e_istore, e_istore_n, e_astore, e_astore_n, e_lstore, e_iinc, e_iadd, e_isub, e_imul, e_iand, e_ior, e_ishl, e_ishr, e_iushr, e_idiv, e_irem, e_ldiv, e_lrem, e_ineg, e_lshl, e_lcmp, e_i2l, e_i2b, e_i2s, e_dup_i, e_dup_r, e_dup2, e_if_eq, e_if_ne, e_if_lt, e_if_ge, e_if_gt, e_if_le, e_icmp_eq, e_icmp_ne, e_icmp_lt, e_icmp_ge, e_icmp_gt, e_icmp_le, e_ifnull_r, e_ifnull_n, e_goto, e_tsw, e_lsw, e_getf, e_puti, e_putz, e_puta, e_new, e_newa, e_anew, e_iald, e_sald, e_iast, e_aald, e_aast, e_alen, e_slen, e_inv, e_acp, e_min, e_max, e_abs, e_ins, e_oinit, e_inx, e_iret, e_lret, e_vret, vx_run_s, List.getElem?_cons_succ, List.getElem?_cons_zero, List.set_cons_succ, List.set_cons_zero, List.mem_cons, List.not_mem_nil, or_false, false_or, if_true, if_false, ite_true, ite_false, ↓reduceIte, reduceCtorEq, List.take_succ_cons, List.take_zero, List.drop_succ_cons, List.drop_zero, List.reverse_cons, List.reverse_nil, List.nil_append, List.cons_append, List.append_nil, List.length_cons, List.length_nil, Option.toList_some, Option.toList_none, vx_nl, vx_isob, true_and, and_true, Nat.reduceAdd, Nat.reduceEqDiff, Nat.reduceLeDiff, Nat.zero_add, Nat.add_zero, not_false_eq_true, not_true_eq_false, Nat.reduceLT, Nat.reduceMul, Nat.reduceSub, Nat.zero_le, vx_up_s, false_implies, true_implies, forall_const, implies_true, imp_self, Nat.le_refl, forall_eq, forall_eq_apply_imp_iff, and_imp, exists_and_left, exists_eq_left, Nat.one_ne_zero, eq_self, true_or, or_true, Option.some.injEq, Value.int.injEq, Value.long.injEq, bk_Wk_pushAll_0, bk_Wk_pushAll_5, bk_Wk_pushAll_23, bk_Wk_pushAll_32, bk_Wk_pushAll_54, bk_Wk_pushAll_60, w1]
      exact ⟨fun _ => ⟨vx_bI_01, gk, hgk, rfl⟩, fun q => absurd (Int32.le_refl _) q⟩
    | succ n ih =>
      intro k w gk hk hgk
      have hwk := hW_g hw gk
      obtain ⟨w1, w2, w3, w4⟩ := hwk
      have hixl : vw_ix Y law k < yB Y := vw_ix_lt (by omega)
      have h54 : ∀ gk' : Nat → Int32, (∀ b, b < yB Y → gk' b = nI ((vw_go Y law lk q (k + 1) g).1 b)) → X 54 [some (.ref 18), some (.int law), some (.int lk), some (.int (vx_bI ((vw_go Y law lk q (k + 1) g).2 = true))), some (.int (nI k)), some (.int (nI (vw_ix Y law k)))] [] z (vx_up h 20 (.inl (5, gk'))) := by
        intro gk' hgk'
        refine vx_go hX [5] 9 ?_
        simp only [e_nil, e_iconst, e_bipush, e_sipush, e_lconst, e_ldc_w, e_ldc2_w, e_iload, e_iload_n, e_lload, e_lload_n, e_aload, e_aload_n, e_istore, e_istore_n, e_astore, e_astore_n, e_lstore, e_iinc, e_iadd, e_isub, e_imul, e_iand, e_ior, e_ishl, e_ishr, e_iushr, e_idiv, e_irem, e_ldiv, e_lrem, e_ineg, e_lshl, e_lcmp, e_i2l, e_i2b, e_i2s, e_dup_i, e_dup_r, e_dup2, e_if_eq, e_if_ne, e_if_lt, e_if_ge, e_if_gt, e_if_le, e_icmp_eq, e_icmp_ne, e_icmp_lt, e_icmp_ge, e_icmp_gt, e_icmp_le, e_ifnull_r, e_ifnull_n, e_goto, e_tsw, e_lsw, e_getf, e_puti, e_putz, e_puta, e_new, e_newa, e_anew, e_iald, e_sald, e_iast, e_aald, e_aast, e_alen, e_slen, e_inv, e_acp, e_min, e_max, e_abs, e_ins, e_oinit, e_inx, e_iret, e_lret, e_vret, vx_run_s, List.getElem?_cons_succ, List.getElem?_cons_zero, List.set_cons_succ, List.set_cons_zero, List.mem_cons, List.not_mem_nil, or_false, false_or, if_true, if_false, ite_true, ite_false, ↓reduceIte, reduceCtorEq, List.take_succ_cons, List.take_zero, List.drop_succ_cons, List.drop_zero, List.reverse_cons, List.reverse_nil, List.nil_append, List.cons_append, List.append_nil, List.length_cons, List.length_nil, Option.toList_some, Option.toList_none, vx_nl, vx_isob, true_and, and_true, Nat.reduceAdd, Nat.reduceEqDiff, Nat.reduceLeDiff, Nat.zero_add, Nat.add_zero, not_false_eq_true, not_true_eq_false, Nat.reduceLT, Nat.reduceMul, Nat.reduceSub, Nat.zero_le, vx_up_s, false_implies, true_implies, forall_const, implies_true, imp_self, Nat.le_refl, forall_eq, forall_eq_apply_imp_iff, and_imp, exists_and_left, exists_eq_left, Nat.one_ne_zero, eq_self, true_or, or_true, Option.some.injEq, Value.int.injEq, Value.long.injEq, bk_Wk_pushAll_0, bk_Wk_pushAll_5, bk_Wk_pushAll_23, bk_Wk_pushAll_32, bk_Wk_pushAll_54, bk_Wk_pushAll_60, nI_1]
        exact ih (k + 1) _ gk' (by omega) hgk'
      have h32 : X 32 [some (.ref 18), some (.int law), some (.int lk), some (.int (vx_bI ((vw_go Y law lk q k g).2 = true))), some (.int (nI k)), w] [.int (nI (vw_ix Y law k))] z (vx_up h 20 (.inl (5, gk))) := by
        refine vx_go hX [54] 9 ?_
        simp only [e_nil, e_iconst, e_bipush, e_sipush, e_lconst, e_ldc_w, e_ldc2_w, e_iload, e_iload_n, e_lload, e_lload_n, e_aload, e_aload_n, e_istore, e_istore_n, e_astore, e_astore_n, e_lstore, e_iinc, e_iadd, e_isub, e_imul, e_iand, e_ior, e_ishl, e_ishr, e_iushr, e_idiv, e_irem, e_ldiv, e_lrem, e_ineg, e_lshl, e_lcmp, e_i2l, e_i2b, e_i2s, e_dup_i, e_dup_r, e_dup2, e_if_eq, e_if_ne, e_if_lt, e_if_ge, e_if_gt, e_if_le, e_icmp_eq, e_icmp_ne, e_icmp_lt, e_icmp_ge, e_icmp_gt, e_icmp_le, e_ifnull_r, e_ifnull_n, e_goto, e_tsw, e_lsw, e_getf, e_puti, e_putz, e_puta, e_new, e_newa, e_anew, e_iald, e_sald, e_iast, e_aald, e_aast, e_alen, e_slen, e_inv, e_acp, e_min, e_max, e_abs, e_ins, e_oinit, e_inx, e_iret, e_lret, e_vret, vx_run_s, List.getElem?_cons_succ, List.getElem?_cons_zero, List.set_cons_succ, List.set_cons_zero, List.mem_cons, List.not_mem_nil, or_false, false_or, if_true, if_false, ite_true, ite_false, ↓reduceIte, reduceCtorEq, List.take_succ_cons, List.take_zero, List.drop_succ_cons, List.drop_zero, List.reverse_cons, List.reverse_nil, List.nil_append, List.cons_append, List.append_nil, List.length_cons, List.length_nil, Option.toList_some, Option.toList_none, vx_nl, vx_isob, true_and, and_true, Nat.reduceAdd, Nat.reduceEqDiff, Nat.reduceLeDiff, Nat.zero_add, Nat.add_zero, not_false_eq_true, not_true_eq_false, Nat.reduceLT, Nat.reduceMul, Nat.reduceSub, Nat.zero_le, vx_up_s, false_implies, true_implies, forall_const, implies_true, imp_self, Nat.le_refl, forall_eq, forall_eq_apply_imp_iff, and_imp, exists_and_left, exists_eq_left, Nat.one_ne_zero, eq_self, true_or, or_true, Option.some.injEq, Value.int.injEq, Value.long.injEq, bk_Wk_pushAll_0, bk_Wk_pushAll_5, bk_Wk_pushAll_23, bk_Wk_pushAll_32, bk_Wk_pushAll_54, bk_Wk_pushAll_60, w1]
        refine vx_cl1 (vw_isIn _ _ _ _) ?_
        simp only [e_nil, e_iconst, e_bipush, e_sipush, e_lconst, e_ldc_w, e_ldc2_w, e_iload, e_iload_n, e_lload, e_lload_n, e_aload, e_aload_n, e_istore, e_istore_n, e_astore, e_astore_n, e_lstore, e_iinc, e_iadd, e_isub, e_imul, e_iand, e_ior, e_ishl, e_ishr, e_iushr, e_idiv, e_irem, e_ldiv, e_lrem, e_ineg, e_lshl, e_lcmp, e_i2l, e_i2b, e_i2s, e_dup_i, e_dup_r, e_dup2, e_if_eq, e_if_ne, e_if_lt, e_if_ge, e_if_gt, e_if_le, e_icmp_eq, e_icmp_ne, e_icmp_lt, e_icmp_ge, e_icmp_gt, e_icmp_le, e_ifnull_r, e_ifnull_n, e_goto, e_tsw, e_lsw, e_getf, e_puti, e_putz, e_puta, e_new, e_newa, e_anew, e_iald, e_sald, e_iast, e_aald, e_aast, e_alen, e_slen, e_inv, e_acp, e_min, e_max, e_abs, e_ins, e_oinit, e_inx, e_iret, e_lret, e_vret, vx_run_s, List.getElem?_cons_succ, List.getElem?_cons_zero, List.set_cons_succ, List.set_cons_zero, List.mem_cons, List.not_mem_nil, or_false, false_or, if_true, if_false, ite_true, ite_false, ↓reduceIte, reduceCtorEq, List.take_succ_cons, List.take_zero, List.drop_succ_cons, List.drop_zero, List.reverse_cons, List.reverse_nil, List.nil_append, List.cons_append, List.append_nil, List.length_cons, List.length_nil, Option.toList_some, Option.toList_none, vx_nl, vx_isob, true_and, and_true, Nat.reduceAdd, Nat.reduceEqDiff, Nat.reduceLeDiff, Nat.zero_add, Nat.add_zero, not_false_eq_true, not_true_eq_false, Nat.reduceLT, Nat.reduceMul, Nat.reduceSub, Nat.zero_le, vx_up_s, false_implies, true_implies, forall_const, implies_true, imp_self, Nat.le_refl, forall_eq, forall_eq_apply_imp_iff, and_imp, exists_and_left, exists_eq_left, Nat.one_ne_zero, eq_self, true_or, or_true, Option.some.injEq, Value.int.injEq, Value.long.injEq, bk_Wk_pushAll_0, bk_Wk_pushAll_5, bk_Wk_pushAll_23, bk_Wk_pushAll_32, bk_Wk_pushAll_54, bk_Wk_pushAll_60, w1, vx_bI_0]
        refine ⟨fun q1 => ?_, fun q1 => ?_⟩
        · have hl : vw_in lk (nI (vw_ix Y law k)) = true := by simpa using q1
          have e : vw_go Y law lk q (k + 1) g = vw_go Y law lk q k g := if_pos hl
          have := h54 gk (by rw [e]; exact hgk)
          rw [e] at this
          exact this
        · refine vx_cl1 (vw_pushOne _ _ Y q (vw_go Y law lk q k g).1 rows gk vb lr lm (hW_g hw gk) hy (vw_go_inc hi k (by omega)) hgk hv _ hixl) ?_
          simp only [e_nil, e_iconst, e_bipush, e_sipush, e_lconst, e_ldc_w, e_ldc2_w, e_iload, e_iload_n, e_lload, e_lload_n, e_aload, e_aload_n, e_istore, e_istore_n, e_astore, e_astore_n, e_lstore, e_iinc, e_iadd, e_isub, e_imul, e_iand, e_ior, e_ishl, e_ishr, e_iushr, e_idiv, e_irem, e_ldiv, e_lrem, e_ineg, e_lshl, e_lcmp, e_i2l, e_i2b, e_i2s, e_dup_i, e_dup_r, e_dup2, e_if_eq, e_if_ne, e_if_lt, e_if_ge, e_if_gt, e_if_le, e_icmp_eq, e_icmp_ne, e_icmp_lt, e_icmp_ge, e_icmp_gt, e_icmp_le, e_ifnull_r, e_ifnull_n, e_goto, e_tsw, e_lsw, e_getf, e_puti, e_putz, e_puta, e_new, e_newa, e_anew, e_iald, e_sald, e_iast, e_aald, e_aast, e_alen, e_slen, e_inv, e_acp, e_min, e_max, e_abs, e_ins, e_oinit, e_inx, e_iret, e_lret, e_vret, vx_run_s, List.getElem?_cons_succ, List.getElem?_cons_zero, List.set_cons_succ, List.set_cons_zero, List.mem_cons, List.not_mem_nil, or_false, false_or, if_true, if_false, ite_true, ite_false, ↓reduceIte, reduceCtorEq, List.take_succ_cons, List.take_zero, List.drop_succ_cons, List.drop_zero, List.reverse_cons, List.reverse_nil, List.nil_append, List.cons_append, List.append_nil, List.length_cons, List.length_nil, Option.toList_some, Option.toList_none, vx_nl, vx_isob, true_and, and_true, Nat.reduceAdd, Nat.reduceEqDiff, Nat.reduceLeDiff, Nat.zero_add, Nat.add_zero, not_false_eq_true, not_true_eq_false, Nat.reduceLT, Nat.reduceMul, Nat.reduceSub, Nat.zero_le, vx_up_s, false_implies, true_implies, forall_const, implies_true, imp_self, Nat.le_refl, forall_eq, forall_eq_apply_imp_iff, and_imp, exists_and_left, exists_eq_left, Nat.one_ne_zero, eq_self, true_or, or_true, Option.some.injEq, Value.int.injEq, Value.long.injEq, bk_Wk_pushAll_0, bk_Wk_pushAll_5, bk_Wk_pushAll_23, bk_Wk_pushAll_32, bk_Wk_pushAll_54, bk_Wk_pushAll_60, w1, vx_bI_0, vx_up_up]
          have e : vw_go Y law lk q (k + 1) g = _ := if_neg q1
          have hgk' : ∀ b, b < yB Y → upd gk (vw_ix Y law k) (nI (vw_nx Y q (vw_go Y law lk q k g).1 (vw_ix Y law k))) b = nI ((vw_go Y law lk q (k + 1) g).1 b) := by
            rw [e]
            exact vw_upd_g hgk
          have h1 := h54 _ hgk'
          rw [e] at h1
          refine ⟨fun q2 => ?_, fun q2 => ?_⟩
          · simp only [Classical.not_not] at q2
            simp only [q2, not_true_eq_false, decide_false, Bool.or_false] at h1 ⊢
            exact h1
          · simp only [Classical.not_not] at q2
            simp only [q2, not_false_eq_true, decide_true, Bool.or_true] at h1
            rw [vx_bI_t (c := True) trivial] at h1
            exact h1
      refine vx_go hX [32] 9 ?_
      simp only [e_nil, e_iconst, e_bipush, e_sipush, e_lconst, e_ldc_w, e_ldc2_w, e_iload, e_iload_n, e_lload, e_lload_n, e_aload, e_aload_n, e_istore, e_istore_n, e_astore, e_astore_n, e_lstore, e_iinc, e_iadd, e_isub, e_imul, e_iand, e_ior, e_ishl, e_ishr, e_iushr, e_idiv, e_irem, e_ldiv, e_lrem, e_ineg, e_lshl, e_lcmp, e_i2l, e_i2b, e_i2s, e_dup_i, e_dup_r, e_dup2, e_if_eq, e_if_ne, e_if_lt, e_if_ge, e_if_gt, e_if_le, e_icmp_eq, e_icmp_ne, e_icmp_lt, e_icmp_ge, e_icmp_gt, e_icmp_le, e_ifnull_r, e_ifnull_n, e_goto, e_tsw, e_lsw, e_getf, e_puti, e_putz, e_puta, e_new, e_newa, e_anew, e_iald, e_sald, e_iast, e_aald, e_aast, e_alen, e_slen, e_inv, e_acp, e_min, e_max, e_abs, e_ins, e_oinit, e_inx, e_iret, e_lret, e_vret, vx_run_s, List.getElem?_cons_succ, List.getElem?_cons_zero, List.set_cons_succ, List.set_cons_zero, List.mem_cons, List.not_mem_nil, or_false, false_or, if_true, if_false, ite_true, ite_false, ↓reduceIte, reduceCtorEq, List.take_succ_cons, List.take_zero, List.drop_succ_cons, List.drop_zero, List.reverse_cons, List.reverse_nil, List.nil_append, List.cons_append, List.append_nil, List.length_cons, List.length_nil, Option.toList_some, Option.toList_none, vx_nl, vx_isob, true_and, and_true, Nat.reduceAdd, Nat.reduceEqDiff, Nat.reduceLeDiff, Nat.zero_add, Nat.add_zero, not_false_eq_true, not_true_eq_false, Nat.reduceLT, Nat.reduceMul, Nat.reduceSub, Nat.zero_le, vx_up_s, false_implies, true_implies, forall_const, implies_true, imp_self, Nat.le_refl, forall_eq, forall_eq_apply_imp_iff, and_imp, exists_and_left, exists_eq_left, Nat.one_ne_zero, eq_self, true_or, or_true, Option.some.injEq, Value.int.injEq, Value.long.injEq, bk_Wk_pushAll_0, bk_Wk_pushAll_5, bk_Wk_pushAll_23, bk_Wk_pushAll_32, bk_Wk_pushAll_54, bk_Wk_pushAll_60, w1]
      refine ⟨fun q1 => absurd q1 (nI_ge (by omega) (by omega)), fun _ => ⟨fun q1 => ?_, fun q1 => ?_⟩⟩
      · have e : vw_ix Y law k = yB Y - 1 - k := if_neg q1
        rw [e] at h32
        rw [show nI (yB Y) - 1 = nI (yB Y - 1) from nI_sub (b := 1) (by omega), nI_sub (by omega)]
        exact h32
      · have e : vw_ix Y law k = k := if_pos q1
        rw [e] at h32
        exact h32
  obtain ⟨w1, w2, w3, w4⟩ := id hw
  refine vx_go hX [5] 9 ?_
  simp only [e_nil, e_iconst, e_bipush, e_sipush, e_lconst, e_ldc_w, e_ldc2_w, e_iload, e_iload_n, e_lload, e_lload_n, e_aload, e_aload_n, e_istore, e_istore_n, e_astore, e_astore_n, e_lstore, e_iinc, e_iadd, e_isub, e_imul, e_iand, e_ior, e_ishl, e_ishr, e_iushr, e_idiv, e_irem, e_ldiv, e_lrem, e_ineg, e_lshl, e_lcmp, e_i2l, e_i2b, e_i2s, e_dup_i, e_dup_r, e_dup2, e_if_eq, e_if_ne, e_if_lt, e_if_ge, e_if_gt, e_if_le, e_icmp_eq, e_icmp_ne, e_icmp_lt, e_icmp_ge, e_icmp_gt, e_icmp_le, e_ifnull_r, e_ifnull_n, e_goto, e_tsw, e_lsw, e_getf, e_puti, e_putz, e_puta, e_new, e_newa, e_anew, e_iald, e_sald, e_iast, e_aald, e_aast, e_alen, e_slen, e_inv, e_acp, e_min, e_max, e_abs, e_ins, e_oinit, e_inx, e_iret, e_lret, e_vret, vx_run_s, List.getElem?_cons_succ, List.getElem?_cons_zero, List.set_cons_succ, List.set_cons_zero, List.mem_cons, List.not_mem_nil, or_false, false_or, if_true, if_false, ite_true, ite_false, ↓reduceIte, reduceCtorEq, List.take_succ_cons, List.take_zero, List.drop_succ_cons, List.drop_zero, List.reverse_cons, List.reverse_nil, List.nil_append, List.cons_append, List.append_nil, List.length_cons, List.length_nil, Option.toList_some, Option.toList_none, vx_nl, vx_isob, true_and, and_true, Nat.reduceAdd, Nat.reduceEqDiff, Nat.reduceLeDiff, Nat.zero_add, Nat.add_zero, not_false_eq_true, not_true_eq_false, Nat.reduceLT, Nat.reduceMul, Nat.reduceSub, Nat.zero_le, vx_up_s, false_implies, true_implies, forall_const, implies_true, imp_self, Nat.le_refl, forall_eq, forall_eq_apply_imp_iff, and_imp, exists_and_left, exists_eq_left, Nat.one_ne_zero, eq_self, true_or, or_true, Option.some.injEq, Value.int.injEq, Value.long.injEq, bk_Wk_pushAll_0, bk_Wk_pushAll_5, bk_Wk_pushAll_23, bk_Wk_pushAll_32, bk_Wk_pushAll_54, bk_Wk_pushAll_60, w1]
  have := loop (yB Y) 0 none gf (by omega) hg
  rw [vx_up_id w3] at this
  exact this
