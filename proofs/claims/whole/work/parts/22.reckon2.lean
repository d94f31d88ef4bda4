/-! Weeks: reckon, and what is read off it -/
/-- n Sundays are reckoned -/
def hRk (h : vx_H) (Y : vw_Y) (law : Int32) (lk st : Nat → Int32) (n : Nat) : Prop := ∃ (m : Nat) (rows gf vb : Nat → Int32), m ≤ n ∧ (n = 0 ∨ 1 ≤ m) ∧ hW h Y rows gf vb (nI m - 1) (nI (vw_lm Y law lk st n) - 1) ∧ ∀ j, j ≤ n → ∀ b, b < yB Y → rows (min j m * 5 + b) = nI (vw_ps Y law lk st j b)
theorem hRk.w0 {h : vx_H} {Y : vw_Y} {law : Int32} {lk st : Nat → Int32} {n : Nat} (u : hRk h Y law lk st n) : hW0 h := by
  obtain ⟨m, rows, gf, vb, -, -, hw, -⟩ := u
  exact hw.w0
theorem nI_s1 (n : Nat) : nI (n + 1) - 1 = nI n := nI_pred n
theorem nI_lt1 {n s : Nat} (hn : n < 2 ^ 30) (hs : s < 2 ^ 30) : nI n - 1 < nI s ↔ n ≤ s := by
  have e1 := pk_sub_toInt (a := n) (b := 1) hn (by decide)
  have e2 := nI_toInt (n := s) (by omega)
  rw [Int32.lt_iff_toInt_lt, show (1 : Int32) = nI 1 from rfl, e1, e2]
  omega
theorem vw_reckon (h : vx_H) (sz : Nat) (y : Nat) (Y : vw_Y) (fg fk fp lf sf : Nat → Int32) (t : Nat) (law lx sx : Int32) (n : Nat) (hn : n ≤ 50) (hw : hW0 h) (hd : hYd h y Y fg fk fp) (hc : hC h lf sf t) (ho : yOk Y) (hq : ∀ s, s < 50 → ¬ sf s ||| sx = -1) :
    vx_Ok m_Wk_reckon [.ref 18, .ref y, .ref 15, .int law, .int lx, .int sx, .int (nI n - 1)] sz h (fun r h' => r = none ∧ hRk h' Y law (fun s => lf s ||| lx) (fun s => sf s ||| sx) n ∧ vf 18 21 h h') := by
  refine ok_Wk_reckon [some (.ref 18), some (.ref y), some (.ref 15), some (.int law), some (.int lx), some (.int sx), some (.int (nI n - 1)), none, none, none, none] (Nat.le_of_ble_eq_true rfl) rfl (fun lim z X hX => ?_)
  generalize hlk : (fun s => lf s ||| lx) = lk at hX
  generalize hst : (fun s => sf s ||| sx) = st at hX
  have hinc : ∀ j, vw_inc Y (vw_ps Y law lk st j) := vw_ps_inc ho.2.2.2.2.1
  have loop : ∀ (k s : Nat) (cnt : Int32) (w9 w10 : Option Value) (hs : vx_H) (rows gf vb : Nat → Int32), s + k = n → hW hs Y rows gf vb (nI s - 1) (nI (vw_lm Y law lk st s) - 1) → vf 18 21 h hs → (∀ b, b < yB Y → gf b = nI (vw_ps Y law lk st s b)) → (∀ j, j ≤ s → ∀ b, b < yB Y → rows (j * 5 + b) = nI (vw_ps Y law lk st j b)) →
      (cnt = -1 ∨ ∀ x, x ≤ 30 → vb x = nI (vw_bt Y cnt 0 x)) → X 11 [some (.ref 18), some (.ref y), some (.ref 15), some (.int law), some (.int lx), some (.int sx), some (.int (nI n - 1)), some (.int cnt), some (.int (nI s)), w9, w10] [] z hs := by
    intro k
    induction k with
    | zero =>
      intro s cnt w9 w10 hs rows gf vb hk hws hv hg hr hcn
      have e : s = n := by omega
      subst e
      refine vx_go hX [] 9 ?_
      simp only [e_nil, e_iconst, e_bipush, e_sipush, e_lconst, e_ldc_w, e_ldc2_w, e_iload, e_iload_n, e_lload, e_lload_n, e_aload, e_aload_n, e_istore, e_istore_n, e_astore, e_astore_n, e_lstore, e_iinc, e_iadd, e_isub, e_imul, e_iand, e_ior, e_ishl, e_ishr, e_iushr, e_idiv, e_irem, e_ldiv, e_lrem, e_ineg, e_lshl, e_lcmp, e_i2l, e_i2b, e_i2s, e_dup_i, e_dup_r, e_dup2, e_if_eq, e_if_ne, e_if_lt, e_if_ge, e_if_gt, e_if_le, e_icmp_eq, e_icmp_ne, e_icmp_lt, e_icmp_ge, e_icmp_gt, e_icmp_le, e_ifnull_r, e_ifnull_n, e_goto, e_tsw, e_lsw, e_getf, e_puti, e_putz, e_puta, e_new, e_newa, e_anew, e_iald, e_sald, e_iast, e_aald, e_aast, e_alen, e_slen, e_inv, e_acp, e_min, e_max, e_abs, e_ins, e_oinit, e_inx, e_iret, e_lret, e_vret, vx_run_s, List.getElem?_cons_succ, List.getElem?_cons_zero, List.set_cons_succ, List.set_cons_zero, List.mem_cons, List.not_mem_nil, or_false, false_or, if_true, if_false, ite_true, ite_false, ↓reduceIte, reduceCtorEq, List.take_succ_cons, List.take_zero, List.drop_succ_cons, List.drop_zero, List.reverse_cons, List.reverse_nil, List.nil_append, List.cons_append, List.append_nil, List.length_cons, List.length_nil, Option.toList_some, Option.toList_none, vx_nl, vx_isob, true_and, and_true, Nat.reduceAdd, Nat.reduceEqDiff, Nat.reduceLeDiff, Nat.zero_add, Nat.add_zero, not_false_eq_true, not_true_eq_false, Nat.reduceLT, Nat.reduceMul, Nat.reduceSub, Nat.zero_le, vx_up_s, false_implies, true_implies, forall_const, implies_true, imp_self, Nat.le_refl, forall_eq, forall_eq_apply_imp_iff, and_imp, exists_and_left, exists_eq_left, Nat.one_ne_zero, eq_self, true_or, or_true, Option.some.injEq, Value.int.injEq, Value.long.injEq, bk_Wk_reckon_0, bk_Wk_reckon_11, bk_Wk_reckon_55, bk_Wk_reckon_111, bk_Wk_reckon_123, bk_Wk_reckon_129]
      refine ⟨fun _ => ⟨⟨s, rows, gf, vb, Nat.le_refl _, by omega, hws, fun j hj b hb => by rw [Nat.min_eq_left hj]; exact hr j hj b hb⟩, hv⟩, fun q => absurd ((nI_lt1 (by omega) (by omega)).mpr (Nat.le_refl s)) q⟩
    | succ k ih =>
      intro s cnt w9 w10 hs rows gf vb hk hws hv hg hr hcn
      have b1 : s < 2 ^ 31 := by omega
      obtain ⟨lf0, sf0, c1, c2, c3, c30, c4, c5⟩ := hc.mv hv
      obtain ⟨w1, w2, w3, w4⟩ := id hws
      have eq1 : sf0 s ||| sx = st s := by rw [← hst, (c30 s (by omega)).2]
      have hne : ¬ st s = -1 := by rw [← hst]; exact hq s (by omega)
      have h123 : ∀ (cnt' : Int32) (w10' : Option Value) (hs' : vx_H) (rows' gf' vb' : Nat → Int32), hW hs' Y rows' gf' vb' (nI (s + 1) - 1) (nI (vw_lm Y law lk st (s + 1)) - 1) → vf 18 21 h hs' → (∀ b, b < yB Y → gf' b = nI (vw_ps Y law lk st (s + 1) b)) → (∀ j, j ≤ s + 1 → ∀ b, b < yB Y → rows' (j * 5 + b) = nI (vw_ps Y law lk st j b)) → (∀ x, x ≤ 30 → vb' x = nI (vw_bt Y cnt' 0 x)) →
          X 123 [some (.ref 18), some (.ref y), some (.ref 15), some (.int law), some (.int lx), some (.int sx), some (.int (nI n - 1)), some (.int cnt'), some (.int (nI s)), some (.int (st s)), w10'] [] z hs' := by
        intro cnt' w10' hs' rows' gf' vb' a1 a2 a3 a4 a5
        refine vx_go hX [11] 9 ?_
        simp only [e_nil, e_iconst, e_bipush, e_sipush, e_lconst, e_ldc_w, e_ldc2_w, e_iload, e_iload_n, e_lload, e_lload_n, e_aload, e_aload_n, e_istore, e_istore_n, e_astore, e_astore_n, e_lstore, e_iinc, e_iadd, e_isub, e_imul, e_iand, e_ior, e_ishl, e_ishr, e_iushr, e_idiv, e_irem, e_ldiv, e_lrem, e_ineg, e_lshl, e_lcmp, e_i2l, e_i2b, e_i2s, e_dup_i, e_dup_r, e_dup2, e_if_eq, e_if_ne, e_if_lt, e_if_ge, e_if_gt, e_if_le, e_icmp_eq, e_icmp_ne, e_icmp_lt, e_icmp_ge, e_icmp_gt, e_icmp_le, e_ifnull_r, e_ifnull_n, e_goto, e_tsw, e_lsw, e_getf, e_puti, e_putz, e_puta, e_new, e_newa, e_anew, e_iald, e_sald, e_iast, e_aald, e_aast, e_alen, e_slen, e_inv, e_acp, e_min, e_max, e_abs, e_ins, e_oinit, e_inx, e_iret, e_lret, e_vret, vx_run_s, List.getElem?_cons_succ, List.getElem?_cons_zero, List.set_cons_succ, List.set_cons_zero, List.mem_cons, List.not_mem_nil, or_false, false_or, if_true, if_false, ite_true, ite_false, ↓reduceIte, reduceCtorEq, List.take_succ_cons, List.take_zero, List.drop_succ_cons, List.drop_zero, List.reverse_cons, List.reverse_nil, List.nil_append, List.cons_append, List.append_nil, List.length_cons, List.length_nil, Option.toList_some, Option.toList_none, vx_nl, vx_isob, true_and, and_true, Nat.reduceAdd, Nat.reduceEqDiff, Nat.reduceLeDiff, Nat.zero_add, Nat.add_zero, not_false_eq_true, not_true_eq_false, Nat.reduceLT, Nat.reduceMul, Nat.reduceSub, Nat.zero_le, vx_up_s, false_implies, true_implies, forall_const, implies_true, imp_self, Nat.le_refl, forall_eq, forall_eq_apply_imp_iff, and_imp, exists_and_left, exists_eq_left, Nat.one_ne_zero, eq_self, true_or, or_true, Option.some.injEq, Value.int.injEq, Value.long.injEq, bk_Wk_reckon_0, bk_Wk_reckon_11, bk_Wk_reckon_55, bk_Wk_reckon_111, bk_Wk_reckon_123, bk_Wk_reckon_129, nI_1]
        exact ih (s + 1) cnt' _ _ hs' rows' gf' vb' (by omega) a1 a2 a3 a4 (Or.inr a5)
      have h55 : ∀ (hs' : vx_H) (vb' : Nat → Int32), hW hs' Y rows gf vb' (nI s - 1) (nI (vw_lm Y law lk st s) - 1) → vf 18 21 h hs' → (∀ x, x ≤ 30 → vb' x = nI (vw_bt Y (st s) 0 x)) → X 55 [some (.ref 18), some (.ref y), some (.ref 15), some (.int law), some (.int lx), some (.int sx), some (.int (nI n - 1)), some (.int (st s)), some (.int (nI s)), some (.int (st s)), w10] [] z hs' := by
        intro hs' vb' hws' hv' hvb'
        obtain ⟨lf1, sf1, d1, d2, d3, d30, d4, d5⟩ := hc.mv hv'
        have el1 : lf1 s ||| lx = lk s := by rw [← hlk, (d30 s (by omega)).1]
        obtain ⟨x1, x2, x3, x4⟩ := id hws'
        refine vx_go hX [123] 9 ?_
        simp only [e_nil, e_iconst, e_bipush, e_sipush, e_lconst, e_ldc_w, e_ldc2_w, e_iload, e_iload_n, e_lload, e_lload_n, e_aload, e_aload_n, e_istore, e_istore_n, e_astore, e_astore_n, e_lstore, e_iinc, e_iadd, e_isub, e_imul, e_iand, e_ior, e_ishl, e_ishr, e_iushr, e_idiv, e_irem, e_ldiv, e_lrem, e_ineg, e_lshl, e_lcmp, e_i2l, e_i2b, e_i2s, e_dup_i, e_dup_r, e_dup2, e_if_eq, e_if_ne, e_if_lt, e_if_ge, e_if_gt, e_if_le, e_icmp_eq, e_icmp_ne, e_icmp_lt, e_icmp_ge, e_icmp_gt, e_icmp_le, e_ifnull_r, e_ifnull_n, e_goto, e_tsw, e_lsw, e_getf, e_puti, e_putz, e_puta, e_new, e_newa, e_anew, e_iald, e_sald, e_iast, e_aald, e_aast, e_alen, e_slen, e_inv, e_acp, e_min, e_max, e_abs, e_ins, e_oinit, e_inx, e_iret, e_lret, e_vret, vx_run_s, List.getElem?_cons_succ, List.getElem?_cons_zero, List.set_cons_succ, List.set_cons_zero, List.mem_cons, List.not_mem_nil, or_false, false_or, if_true, if_false, ite_true, ite_false, ↓reduceIte, reduceCtorEq, List.take_succ_cons, List.take_zero, List.drop_succ_cons, List.drop_zero, List.reverse_cons, List.reverse_nil, List.nil_append, List.cons_append, List.append_nil, List.length_cons, List.length_nil, Option.toList_some, Option.toList_none, vx_nl, vx_isob, true_and, and_true, Nat.reduceAdd, Nat.reduceEqDiff, Nat.reduceLeDiff, Nat.zero_add, Nat.add_zero, not_false_eq_true, not_true_eq_false, Nat.reduceLT, Nat.reduceMul, Nat.reduceSub, Nat.zero_le, vx_up_s, false_implies, true_implies, forall_const, implies_true, imp_self, Nat.le_refl, forall_eq, forall_eq_apply_imp_iff, and_imp, exists_and_left, exists_eq_left, Nat.one_ne_zero, eq_self, true_or, or_true, Option.some.injEq, Value.int.injEq, Value.long.injEq, bk_Wk_reckon_0, bk_Wk_reckon_11, bk_Wk_reckon_55, bk_Wk_reckon_111, bk_Wk_reckon_123, bk_Wk_reckon_129, d1, d2, x1]
        refine ⟨vp_in_nI (by omega) (by decide), ?_⟩
        rw [nI_clamp b1, el1]
        refine ⟨_, vw_pushAll hs' _ Y (st s) law (lk s) (vw_ps Y law lk st s) rows gf vb' _ _ hws' ⟨ho.1, ho.2.1, ho.2.2.1⟩ (hinc s) hg hvb', ?_⟩
        rintro _ _ ⟨rfl, gf', hgf', rfl⟩
        obtain ⟨x1, x2, x3, x4⟩ := hW_g hws' gf'
        have d1' : vx_up hs' 20 (.inl (5, gf')) 15 = _ := (vx_up_n hs' _ (by decide)).trans d1
        have eg : ∀ b, b < yB Y → gf' b = nI (vw_ps Y law lk st (s + 1) b) := hgf'
        have em : (vw_go Y law (lk s) (st s) (yB Y) (vw_ps Y law lk st s)).2 = vw_mv Y law lk st s := rfl
        rw [em]
        have e5 : (5 : Int32).toNatClampNeg = 5 := rfl
        have e0 : (0 : Int32).toNatClampNeg = 0 := rfl
        have ei : (nI s + 1) * 5 = nI ((s + 1) * 5) := by rw [nI_1, show (5 : Int32) = nI 5 from rfl, pk_mul]
        have b3 : (s + 1) * 5 < 2 ^ 31 := by omega
        simp only [e_nil, e_iconst, e_bipush, e_sipush, e_lconst, e_ldc_w, e_ldc2_w, e_iload, e_iload_n, e_lload, e_lload_n, e_aload, e_aload_n, e_istore, e_istore_n, e_astore, e_astore_n, e_lstore, e_iinc, e_iadd, e_isub, e_imul, e_iand, e_ior, e_ishl, e_ishr, e_iushr, e_idiv, e_irem, e_ldiv, e_lrem, e_ineg, e_lshl, e_lcmp, e_i2l, e_i2b, e_i2s, e_dup_i, e_dup_r, e_dup2, e_if_eq, e_if_ne, e_if_lt, e_if_ge, e_if_gt, e_if_le, e_icmp_eq, e_icmp_ne, e_icmp_lt, e_icmp_ge, e_icmp_gt, e_icmp_le, e_ifnull_r, e_ifnull_n, e_goto, e_tsw, e_lsw, e_getf, e_puti, e_putz, e_puta, e_new, e_newa, e_anew, e_iald, e_sald, e_iast, e_aald, e_aast, e_alen, e_slen, e_inv, e_acp, e_min, e_max, e_abs, e_ins, e_oinit, e_inx, e_iret, e_lret, e_vret, vx_run_s, List.getElem?_cons_succ, List.getElem?_cons_zero, List.set_cons_succ, List.set_cons_zero, List.mem_cons, List.not_mem_nil, or_false, false_or, if_true, if_false, ite_true, ite_false, ↓reduceIte, reduceCtorEq, List.take_succ_cons, List.take_zero, List.drop_succ_cons, List.drop_zero, List.reverse_cons, List.reverse_nil, List.nil_append, List.cons_append, List.append_nil, List.length_cons, List.length_nil, Option.toList_some, Option.toList_none, vx_nl, vx_isob, true_and, and_true, Nat.reduceAdd, Nat.reduceEqDiff, Nat.reduceLeDiff, Nat.zero_add, Nat.add_zero, not_false_eq_true, not_true_eq_false, Nat.reduceLT, Nat.reduceMul, Nat.reduceSub, Nat.zero_le, vx_up_s, false_implies, true_implies, forall_const, implies_true, imp_self, Nat.le_refl, forall_eq, forall_eq_apply_imp_iff, and_imp, exists_and_left, exists_eq_left, Nat.one_ne_zero, eq_self, true_or, or_true, Option.some.injEq, Value.int.injEq, Value.long.injEq, bk_Wk_reckon_0, bk_Wk_reckon_11, bk_Wk_reckon_55, bk_Wk_reckon_111, bk_Wk_reckon_123, bk_Wk_reckon_129, x1, x2, x3, d1', vx_up_a, vx_bI_0, ei, e5, e0, nI_clamp, b3]
        refine ⟨by decide, nI_pos (by omega), by decide, by omega, ?_⟩
        generalize hhs : vx_up (vx_up (vx_up hs' 20 (.inl (5, gf'))) 18 (.inr (.inr (4, [.ref 19, .ref 20, .ref 21, .int (nI (yB Y)), .int (nI (yI Y)), .int (nI s), .int (nI (vw_lm Y law lk st s) - 1)])))) 19 (.inl (255, va_cpy gf' rows 0 ((s + 1) * 5) 5)) = hs2
        have hv2 : vf 18 21 h hs2 := by
          rw [← hhs]
          exact ((hv'.tr (vf.up (by omega) (by omega))).tr (vf.up (by omega) (by omega))).tr (vf.up (by omega) (by omega))
        have hr2 : ∀ j, j ≤ s + 1 → ∀ b, b < yB Y → va_cpy gf' rows 0 ((s + 1) * 5) 5 (j * 5 + b) = nI (vw_ps Y law lk st j b) := by
          intro j hj b hb
          have hB := ho.1
          by_cases ej : j = s + 1
          · subst ej
            rw [va_cpy_in (by omega), Nat.zero_add]
            exact eg b hb
          · rw [va_cpy_out (by omega)]
            exact hr j (by omega) b hb
        have hws2 : hW hs2 Y (va_cpy gf' rows 0 ((s + 1) * 5) 5) gf' vb' (nI s) (nI (vw_lm Y law lk st s) - 1) := by
          rw [← hhs]
          exact ⟨by simp [vx_up_a], by simp [vx_up_a], by simp [vx_up_a], by simp only [vx_up_a]; exact x4⟩
        refine ⟨fun q => ?_, fun q => ?_⟩
        · have hm : vw_mv Y law lk st s = false := by simpa using q
          have elm : vw_lm Y law lk st (s + 1) = vw_lm Y law lk st s := by
            show (if _ then _ else _) = _
            rw [if_neg q]
          refine ⟨fun q2 => ?_, fun q2 => ?_⟩
          · refine h123 (st s) _ hs2 _ gf' vb' ?_ hv2 eg hr2 hvb'
            rw [nI_s1, elm]
            exact hws2
          · have hts : t ≤ s := by
              rw [nI_ltI (by omega) (by omega)] at q2
              omega
            have hsame : ∀ j, s ≤ j → j < 50 → lk j = lk s ∧ st j = st s := by
              intro j h1 h2
              have f1 := c5 j (by omega) h2
              have f2 := c5 s hts (by omega)
              rw [← hlk, ← hst]
              exact ⟨by show lf j ||| lx = lf s ||| lx; rw [f1.1, f2.1], by show sf j ||| sx = sf s ||| sx; rw [f1.2, f2.2]⟩
            have hst2 := vw_steady hm hsame
            refine ⟨⟨s + 1, va_cpy gf' rows 0 ((s + 1) * 5) 5, gf', vb', by omega, by omega, ?_, fun j hj b hb => ?_⟩, hv2⟩
            · rw [nI_s1, vw_lm_stay n (m := s) (by omega) (fun j h1 h2 => (hst2 j h1 (by omega)).1)]
              exact hws2
            · by_cases hjs : j ≤ s + 1
              · rw [Nat.min_eq_left hjs]
                exact hr2 j hjs b hb
              · rw [Nat.min_eq_right (by omega), hr2 (s + 1) (Nat.le_refl _) b hb]
                have e1 := (hst2 (j - 1) (by omega) (by omega)).2
                rw [show j - 1 + 1 = j by omega] at e1
                rw [e1, (hst2 s (Nat.le_refl _) (by omega)).2]
        · have hm : vw_mv Y law lk st s = true := by simpa using q
          have elm : vw_lm Y law lk st (s + 1) = s + 1 := by
            show (if _ then _ else _) = _
            rw [if_pos hm]
          refine h123 (st s) _ _ _ gf' vb' ?_ (hv2.tr (vf.up (by omega) (by omega))) eg hr2 hvb'
          rw [elm, nI_s1]
          obtain ⟨z1, z2, z3, z4⟩ := hws2
          exact ⟨by simp [vx_up_a], by simp [vx_up_a, z2], by simp [vx_up_a, z3], by simp [vx_up_a, z4]⟩
      refine vx_go hX [55] 9 ?_
      simp only [e_nil, e_iconst, e_bipush, e_sipush, e_lconst, e_ldc_w, e_ldc2_w, e_iload, e_iload_n, e_lload, e_lload_n, e_aload, e_aload_n, e_istore, e_istore_n, e_astore, e_astore_n, e_lstore, e_iinc, e_iadd, e_isub, e_imul, e_iand, e_ior, e_ishl, e_ishr, e_iushr, e_idiv, e_irem, e_ldiv, e_lrem, e_ineg, e_lshl, e_lcmp, e_i2l, e_i2b, e_i2s, e_dup_i, e_dup_r, e_dup2, e_if_eq, e_if_ne, e_if_lt, e_if_ge, e_if_gt, e_if_le, e_icmp_eq, e_icmp_ne, e_icmp_lt, e_icmp_ge, e_icmp_gt, e_icmp_le, e_ifnull_r, e_ifnull_n, e_goto, e_tsw, e_lsw, e_getf, e_puti, e_putz, e_puta, e_new, e_newa, e_anew, e_iald, e_sald, e_iast, e_aald, e_aast, e_alen, e_slen, e_inv, e_acp, e_min, e_max, e_abs, e_ins, e_oinit, e_inx, e_iret, e_lret, e_vret, vx_run_s, List.getElem?_cons_succ, List.getElem?_cons_zero, List.set_cons_succ, List.set_cons_zero, List.mem_cons, List.not_mem_nil, or_false, false_or, if_true, if_false, ite_true, ite_false, ↓reduceIte, reduceCtorEq, List.take_succ_cons, List.take_zero, List.drop_succ_cons, List.drop_zero, List.reverse_cons, List.reverse_nil, List.nil_append, List.cons_append, List.append_nil, List.length_cons, List.length_nil, Option.toList_some, Option.toList_none, vx_nl, vx_isob, true_and, and_true, Nat.reduceAdd, Nat.reduceEqDiff, Nat.reduceLeDiff, Nat.zero_add, Nat.add_zero, not_false_eq_true, not_true_eq_false, Nat.reduceLT, Nat.reduceMul, Nat.reduceSub, Nat.zero_le, vx_up_s, false_implies, true_implies, forall_const, implies_true, imp_self, Nat.le_refl, forall_eq, forall_eq_apply_imp_iff, and_imp, exists_and_left, exists_eq_left, Nat.one_ne_zero, eq_self, true_or, or_true, Option.some.injEq, Value.int.injEq, Value.long.injEq, bk_Wk_reckon_0, bk_Wk_reckon_11, bk_Wk_reckon_55, bk_Wk_reckon_111, bk_Wk_reckon_123, bk_Wk_reckon_129, c1, c3, nI_clamp, b1, eq1]
      refine ⟨fun q => absurd ((nI_lt1 (by omega) (by omega)).mp q) (by omega), fun _ => ⟨fun q => absurd q (nI_ge (b := 50) (by omega) (by omega)), fun _ => ⟨vp_in_nI (by omega) (by decide), fun q => ?_, fun q => ?_⟩⟩⟩
      · subst q
        rcases hcn with hcn | hcn
        · exact absurd hcn hne
        · exact h55 hs vb hws hv hcn
      · simp only [e_nil, e_iconst, e_bipush, e_sipush, e_lconst, e_ldc_w, e_ldc2_w, e_iload, e_iload_n, e_lload, e_lload_n, e_aload, e_aload_n, e_istore, e_istore_n, e_astore, e_astore_n, e_lstore, e_iinc, e_iadd, e_isub, e_imul, e_iand, e_ior, e_ishl, e_ishr, e_iushr, e_idiv, e_irem, e_ldiv, e_lrem, e_ineg, e_lshl, e_lcmp, e_i2l, e_i2b, e_i2s, e_dup_i, e_dup_r, e_dup2, e_if_eq, e_if_ne, e_if_lt, e_if_ge, e_if_gt, e_if_le, e_icmp_eq, e_icmp_ne, e_icmp_lt, e_icmp_ge, e_icmp_gt, e_icmp_le, e_ifnull_r, e_ifnull_n, e_goto, e_tsw, e_lsw, e_getf, e_puti, e_putz, e_puta, e_new, e_newa, e_anew, e_iald, e_sald, e_iast, e_aald, e_aast, e_alen, e_slen, e_inv, e_acp, e_min, e_max, e_abs, e_ins, e_oinit, e_inx, e_iret, e_lret, e_vret, vx_run_s, List.getElem?_cons_succ, List.getElem?_cons_zero, List.set_cons_succ, List.set_cons_zero, List.mem_cons, List.not_mem_nil, or_false, false_or, if_true, if_false, ite_true, ite_false, ↓reduceIte, reduceCtorEq, List.take_succ_cons, List.take_zero, List.drop_succ_cons, List.drop_zero, List.reverse_cons, List.reverse_nil, List.nil_append, List.cons_append, List.append_nil, List.length_cons, List.length_nil, Option.toList_some, Option.toList_none, vx_nl, vx_isob, true_and, and_true, Nat.reduceAdd, Nat.reduceEqDiff, Nat.reduceLeDiff, Nat.zero_add, Nat.add_zero, not_false_eq_true, not_true_eq_false, Nat.reduceLT, Nat.reduceMul, Nat.reduceSub, Nat.zero_le, vx_up_s, false_implies, true_implies, forall_const, implies_true, imp_self, Nat.le_refl, forall_eq, forall_eq_apply_imp_iff, and_imp, exists_and_left, exists_eq_left, Nat.one_ne_zero, eq_self, true_or, or_true, Option.some.injEq, Value.int.injEq, Value.long.injEq, bk_Wk_reckon_0, bk_Wk_reckon_11, bk_Wk_reckon_55, bk_Wk_reckon_111, bk_Wk_reckon_123, bk_Wk_reckon_129, w1]
        refine ⟨_, vw_countVotes hs _ y Y (st s) fg fk fp rows gf vb _ _ _ _ w1 w4 (hd.mv hv) ho, ?_⟩
        rintro _ _ ⟨rfl, vb', hvb', rfl⟩
        simp only [e_nil, e_iconst, e_bipush, e_sipush, e_lconst, e_ldc_w, e_ldc2_w, e_iload, e_iload_n, e_lload, e_lload_n, e_aload, e_aload_n, e_istore, e_istore_n, e_astore, e_astore_n, e_lstore, e_iinc, e_iadd, e_isub, e_imul, e_iand, e_ior, e_ishl, e_ishr, e_iushr, e_idiv, e_irem, e_ldiv, e_lrem, e_ineg, e_lshl, e_lcmp, e_i2l, e_i2b, e_i2s, e_dup_i, e_dup_r, e_dup2, e_if_eq, e_if_ne, e_if_lt, e_if_ge, e_if_gt, e_if_le, e_icmp_eq, e_icmp_ne, e_icmp_lt, e_icmp_ge, e_icmp_gt, e_icmp_le, e_ifnull_r, e_ifnull_n, e_goto, e_tsw, e_lsw, e_getf, e_puti, e_putz, e_puta, e_new, e_newa, e_anew, e_iald, e_sald, e_iast, e_aald, e_aast, e_alen, e_slen, e_inv, e_acp, e_min, e_max, e_abs, e_ins, e_oinit, e_inx, e_iret, e_lret, e_vret, vx_run_s, List.getElem?_cons_succ, List.getElem?_cons_zero, List.set_cons_succ, List.set_cons_zero, List.mem_cons, List.not_mem_nil, or_false, false_or, if_true, if_false, ite_true, ite_false, ↓reduceIte, reduceCtorEq, List.take_succ_cons, List.take_zero, List.drop_succ_cons, List.drop_zero, List.reverse_cons, List.reverse_nil, List.nil_append, List.cons_append, List.append_nil, List.length_cons, List.length_nil, Option.toList_some, Option.toList_none, vx_nl, vx_isob, true_and, and_true, Nat.reduceAdd, Nat.reduceEqDiff, Nat.reduceLeDiff, Nat.zero_add, Nat.add_zero, not_false_eq_true, not_true_eq_false, Nat.reduceLT, Nat.reduceMul, Nat.reduceSub, Nat.zero_le, vx_up_s, false_implies, true_implies, forall_const, implies_true, imp_self, Nat.le_refl, forall_eq, forall_eq_apply_imp_iff, and_imp, exists_and_left, exists_eq_left, Nat.one_ne_zero, eq_self, true_or, or_true, Option.some.injEq, Value.int.injEq, Value.long.injEq, bk_Wk_reckon_0, bk_Wk_reckon_11, bk_Wk_reckon_55, bk_Wk_reckon_111, bk_Wk_reckon_123, bk_Wk_reckon_129]
        refine h55 _ vb' ⟨?_, ?_, ?_, ?_⟩ (hv.tr (vf.up (by omega) (by omega))) hvb'
        · rw [vx_up_n _ _ (by decide)]; exact w1
        · rw [vx_up_n _ _ (by decide)]; exact w2
        · rw [vx_up_n _ _ (by decide)]; exact w3
        · exact vx_up_s _ _ _
  obtain ⟨bo, inn, lr, lm, rows, gf, vb, w1, w2, w3, w4⟩ := hw
  refine vx_go hX [11] 9 ?_
  simp only [e_nil, e_iconst, e_bipush, e_sipush, e_lconst, e_ldc_w, e_ldc2_w, e_iload, e_iload_n, e_lload, e_lload_n, e_aload, e_aload_n, e_istore, e_istore_n, e_astore, e_astore_n, e_lstore, e_iinc, e_iadd, e_isub, e_imul, e_iand, e_ior, e_ishl, e_ishr, e_iushr, e_idiv, e_irem, e_ldiv, e_lrem, e_ineg, e_lshl, e_lcmp, e_i2l, e_i2b, e_i2s, e_dup_i, e_dup_r, e_dup2, e_if_eq, e_if_ne, e_if_lt, e_if_ge, e_if_gt, e_if_le, e_icmp_eq, e_icmp_ne, e_icmp_lt, e_icmp_ge, e_icmp_gt, e_icmp_le, e_ifnull_r, e_ifnull_n, e_goto, e_tsw, e_lsw, e_getf, e_puti, e_putz, e_puta, e_new, e_newa, e_anew, e_iald, e_sald, e_iast, e_aald, e_aast, e_alen, e_slen, e_inv, e_acp, e_min, e_max, e_abs, e_ins, e_oinit, e_inx, e_iret, e_lret, e_vret, vx_run_s, List.getElem?_cons_succ, List.getElem?_cons_zero, List.set_cons_succ, List.set_cons_zero, List.mem_cons, List.not_mem_nil, or_false, false_or, if_true, if_false, ite_true, ite_false, ↓reduceIte, reduceCtorEq, List.take_succ_cons, List.take_zero, List.drop_succ_cons, List.drop_zero, List.reverse_cons, List.reverse_nil, List.nil_append, List.cons_append, List.append_nil, List.length_cons, List.length_nil, Option.toList_some, Option.toList_none, vx_nl, vx_isob, true_and, and_true, Nat.reduceAdd, Nat.reduceEqDiff, Nat.reduceLeDiff, Nat.zero_add, Nat.add_zero, not_false_eq_true, not_true_eq_false, Nat.reduceLT, Nat.reduceMul, Nat.reduceSub, Nat.zero_le, vx_up_s, false_implies, true_implies, forall_const, implies_true, imp_self, Nat.le_refl, forall_eq, forall_eq_apply_imp_iff, and_imp, exists_and_left, exists_eq_left, Nat.one_ne_zero, eq_self, true_or, or_true, Option.some.injEq, Value.int.injEq, Value.long.injEq, bk_Wk_reckon_0, bk_Wk_reckon_11, bk_Wk_reckon_55, bk_Wk_reckon_111, bk_Wk_reckon_123, bk_Wk_reckon_129, w1]
  refine ⟨_, vw_begin h _ y Y fg fk fp rows gf vb bo inn lr lm w1 w2 w3 w4 hd, ?_⟩
  rintro _ hs ⟨rfl, rows', gf', hgr, hws, hv⟩
  simp only [e_nil, e_iconst, e_bipush, e_sipush, e_lconst, e_ldc_w, e_ldc2_w, e_iload, e_iload_n, e_lload, e_lload_n, e_aload, e_aload_n, e_istore, e_istore_n, e_astore, e_astore_n, e_lstore, e_iinc, e_iadd, e_isub, e_imul, e_iand, e_ior, e_ishl, e_ishr, e_iushr, e_idiv, e_irem, e_ldiv, e_lrem, e_ineg, e_lshl, e_lcmp, e_i2l, e_i2b, e_i2s, e_dup_i, e_dup_r, e_dup2, e_if_eq, e_if_ne, e_if_lt, e_if_ge, e_if_gt, e_if_le, e_icmp_eq, e_icmp_ne, e_icmp_lt, e_icmp_ge, e_icmp_gt, e_icmp_le, e_ifnull_r, e_ifnull_n, e_goto, e_tsw, e_lsw, e_getf, e_puti, e_putz, e_puta, e_new, e_newa, e_anew, e_iald, e_sald, e_iast, e_aald, e_aast, e_alen, e_slen, e_inv, e_acp, e_min, e_max, e_abs, e_ins, e_oinit, e_inx, e_iret, e_lret, e_vret, vx_run_s, List.getElem?_cons_succ, List.getElem?_cons_zero, List.set_cons_succ, List.set_cons_zero, List.mem_cons, List.not_mem_nil, or_false, false_or, if_true, if_false, ite_true, ite_false, ↓reduceIte, reduceCtorEq, List.take_succ_cons, List.take_zero, List.drop_succ_cons, List.drop_zero, List.reverse_cons, List.reverse_nil, List.nil_append, List.cons_append, List.append_nil, List.length_cons, List.length_nil, Option.toList_some, Option.toList_none, vx_nl, vx_isob, true_and, and_true, Nat.reduceAdd, Nat.reduceEqDiff, Nat.reduceLeDiff, Nat.zero_add, Nat.add_zero, not_false_eq_true, not_true_eq_false, Nat.reduceLT, Nat.reduceMul, Nat.reduceSub, Nat.zero_le, vx_up_s, false_implies, true_implies, forall_const, implies_true, imp_self, Nat.le_refl, forall_eq, forall_eq_apply_imp_iff, and_imp, exists_and_left, exists_eq_left, Nat.one_ne_zero, eq_self, true_or, or_true, Option.some.injEq, Value.int.injEq, Value.long.injEq, bk_Wk_reckon_0, bk_Wk_reckon_11, bk_Wk_reckon_55, bk_Wk_reckon_111, bk_Wk_reckon_123, bk_Wk_reckon_129]
  have e01 : nI 0 - 1 = (-1 : Int32) := by decide
  have hws0 : hW hs Y rows' gf' vb (nI 0 - 1) (nI (vw_lm Y law lk st 0) - 1) := by
    show hW hs Y rows' gf' vb (nI 0 - 1) (nI 0 - 1)
    rw [e01]
    exact hws
  refine loop n 0 (-1) none none hs rows' gf' vb (by omega) hws0 hv (fun b hb => ?_) (fun j hj b hb => ?_) (Or.inl rfl)
  · rw [(hgr b (by have := ho.1; omega)).1, hd.2.2.2.2.2.1 b hb]; rfl
  · have e : j = 0 := by omega
    subst e
    rw [Nat.zero_mul, Nat.zero_add, (hgr b (by have := ho.1; omega)).2, hd.2.2.2.2.2.1 b hb]; rfl
