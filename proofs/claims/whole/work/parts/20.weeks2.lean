/-! Weeks: votes, and all Sundays -/
def hYd (h : vx_H) (y : Nat) (Y : vw_Y) (fg fk fp : Nat → Int32) : Prop := (y = 22 ∨ y = 26) ∧ h y = some (.inr (.inr (5, [.ref (y + 1), .ref (y + 2), .ref (y + 3), .int (nI (yI Y)), .int (nI (yB Y)), .int (nI (yN Y))]))) ∧ h (y + 1) = some (.inl (5, fg)) ∧ h (y + 2) = some (.inl (8, fk)) ∧ h (y + 3) = some (.inl (8, fp)) ∧
  (∀ b, b < yB Y → fg b = nI (yG Y b)) ∧ (∀ p, p < yN Y → fk p = nI (yK Y p)) ∧ (∀ p, p < yN Y → fp p = nI (yP Y p))
/-- nothing has changed but from a on to b -/
def vf (a b : Nat) (h h' : vx_H) : Prop := ∀ k, k < a ∨ b < k → h' k = h k
theorem vf.rf {a b : Nat} {h : vx_H} : vf a b h h := fun _ _ => rfl
theorem vf.tr {a b : Nat} {h h1 h2 : vx_H} (u : vf a b h h1) (w : vf a b h1 h2) : vf a b h h2 := fun k hk => (w k hk).trans (u k hk)
theorem vf.up {a b k : Nat} {h : vx_H} {c : vx_C} (h1 : a ≤ k) (h2 : k ≤ b) : vf a b h (vx_up h k c) := fun j hj => vx_up_n h c (by omega)
theorem vf.wk {a b a' b' : Nat} {h h' : vx_H} (u : vf a b h h') (h1 : a' ≤ a) (h2 : b ≤ b') : vf a' b' h h' := fun k hk => u k (by omega)
theorem hYd.mv {h h' : vx_H} {y : Nat} {Y : vw_Y} {fg fk fp : Nat → Int32} (u : hYd h y Y fg fk fp) (w : vf 18 21 h h') : hYd h' y Y fg fk fp := by
  obtain ⟨u0, u1, u2, u3, u4, u5⟩ := u
  exact ⟨u0, by rw [w y (by omega)]; exact u1, by rw [w (y + 1) (by omega)]; exact u2, by rw [w (y + 2) (by omega)]; exact u3, by rw [w (y + 3) (by omega)]; exact u4, u5⟩
/-- votes of those who stand just there -/
def vw_c1 (Y : vw_Y) (q : Int32) (x n : Nat) : Nat := vw_sum (fun i => if vw_in q (nI i) = false ∧ yP Y i + 1 = x then vw_vt (yK Y i) else 0) n
theorem vw_c1_le (Y : vw_Y) (q : Int32) (x n : Nat) : vw_c1 Y q x n ≤ 4 * n := vw_sum_le (fun p => by split; exact vw_vt_le _; omega) _
theorem vw_bt_s (Y : vw_Y) (q : Int32) (x : Nat) : vw_bt Y q 0 (x + 1) = vw_bt Y q 0 x + vw_c1 Y q (x + 1) (yN Y) := by
  unfold vw_bt vw_c1
  rw [← vw_sum_add]
  refine vw_sum_congr (fun p _ => ?_)
  by_cases hq : vw_in q (nI p) = false
  · rcases Nat.lt_trichotomy (yP Y p) x with a | a | a
    · simp [hq, a, show yP Y p < x + 1 by omega, show ¬ yP Y p = x by omega]
    · simp [hq, a]
    · simp [hq, show ¬ yP Y p < x + 1 by omega, show ¬ yP Y p < x by omega, show ¬ yP Y p = x by omega]
  · simp [hq]
theorem vw_bt_0 (Y : vw_Y) (q : Int32) : vw_bt Y q 0 0 = 0 := vw_sum_0 (fun p _ => by simp)
theorem vw_vt_I {k : Nat} (h : k ≤ 2) : (if nI k = 2 then (4 : Int32) else if nI k = 1 then 2 else 1) = nI (vw_vt k) := by
  have : k = 0 ∨ k = 1 ∨ k = 2 := by omega
  rcases this with rfl | rfl | rfl <;> decide
theorem vw_countVotes (h : vx_H) (sz : Nat) (y : Nat) (Y : vw_Y) (q : Int32) (fg fk fp rows gf vb : Nat → Int32) (bo inn lr lm : Int32) (w1 : h 18 = some (.inr (.inr (4, [.ref 19, .ref 20, .ref 21, .int bo, .int inn, .int lr, .int lm])))) (w4 : h 21 = some (.inl (31, vb))) (hd : hYd h y Y fg fk fp) (ho : yOk Y) :
    vx_Ok m_Wk_countVotes [.ref 18, .ref y, .int q] sz h (fun r h' => r = none ∧ ∃ vb', (∀ x, x ≤ 30 → vb' x = nI (vw_bt Y q 0 x)) ∧ h' = vx_up h 21 (.inl (31, vb'))) := by
  refine ok_Wk_countVotes [some (.ref 18), some (.ref y), some (.int q), none, none] (Nat.le_of_ble_eq_true rfl) rfl (fun lim z X hX => ?_)
  obtain ⟨o1, o2, o3, o4, o5⟩ := ho
  have loop2 : ∀ (n x : Nat) (w : Option Value) (vx : Nat → Int32), x + n = 31 → 1 ≤ x → (∀ j, j < x → vx j = nI (vw_bt Y q 0 j)) → (∀ j, x ≤ j → j ≤ 30 → vx j = nI (vw_c1 Y q j (yN Y))) →
      X 75 [some (.ref 18), some (.ref y), some (.int q), some (.int (nI x)), w] [] z (vx_up h 21 (.inl (31, vx))) := by
    intro n
    induction n with
    | zero =>
      intro x w vx hx h1 hlo hhi
      have e : x = 31 := by omega
      subst e
      refine vx_go hX [] 9 ?_
      simp only [e_nil, e_iconst, e_bipush, e_sipush, e_lconst, e_ldc_w, e_ldc2_w, e_iload, e_iload_n, e_lload, e_lload_n, e_aload, e_aload_n, e_istore, e_istore_n, e_astore, e_astore_n, e_lstore, e_iinc, e_iadd, e_isub, e_imul, e_iand, e_ior, e_ishl, e_ishr, e_iushr, e_idiv, e_irem, e_ldiv, e_lrem, e_ineg, e_lshl, e_lcmp, e_i2l, e_i2b, e_i2s, e_dup_i, e_dup_r, e_dup2, e_if_eq, e_if_ne, e_if_lt, e_if_ge, e_if_gt, e_if_le, e_icmp_eq, e_icmp_ne, e_icmp_lt, e_icmp_ge, e_icmp_gt, e_icmp_le, e_ifnull_r, e_ifnull_n, e_goto, e_tsw, e_lsw, e_getf, e_puti, e_putz, e_puta, e_new, e_newa, e_anew, e_iald, e_sald, e_iast, e_aald, e_aast, e_alen, e_slen, e_inv, e_acp, e_min, e_max, e_abs, e_ins, e_oinit, e_inx, e_iret, e_lret, e_vret, vx_run_s, List.getElem?_cons_succ, List.getElem?_cons_zero, List.set_cons_succ, List.set_cons_zero, List.mem_cons, List.not_mem_nil, or_false, false_or, if_true, if_false, ite_true, ite_false, ↓reduceIte, reduceCtorEq, List.take_succ_cons, List.take_zero, List.drop_succ_cons, List.drop_zero, List.reverse_cons, List.reverse_nil, List.nil_append, List.cons_append, List.append_nil, List.length_cons, List.length_nil, Option.toList_some, Option.toList_none, vx_nl, vx_isob, true_and, and_true, Nat.reduceAdd, Nat.reduceEqDiff, Nat.reduceLeDiff, Nat.zero_add, Nat.add_zero, not_false_eq_true, not_true_eq_false, Nat.reduceLT, Nat.reduceMul, Nat.reduceSub, Nat.zero_le, vx_up_s, false_implies, true_implies, forall_const, implies_true, imp_self, Nat.le_refl, forall_eq, forall_eq_apply_imp_iff, and_imp, exists_and_left, exists_eq_left, Nat.one_ne_zero, eq_self, true_or, or_true, Option.some.injEq, Value.int.injEq, Value.long.injEq, bk_Wk_countVotes_0, bk_Wk_countVotes_10, bk_Wk_countVotes_67, bk_Wk_countVotes_73, bk_Wk_countVotes_75, bk_Wk_countVotes_104]
      exact ⟨fun _ => ⟨vx, fun j hj => hlo j (by omega), rfl⟩, fun q => absurd (by decide) q⟩
    | succ n ih =>
      intro x w vx hx h1 hlo hhi
      have b1 : x < 2 ^ 31 := by omega
      have a1 := nI_toInt b1
      have em : nI x - 1 = nI (x - 1) := nI_sub (b := 1) h1
      have b2 : x - 1 < 2 ^ 31 := by omega
      refine vx_go hX [75] 9 ?_
      simp only [e_nil, e_iconst, e_bipush, e_sipush, e_lconst, e_ldc_w, e_ldc2_w, e_iload, e_iload_n, e_lload, e_lload_n, e_aload, e_aload_n, e_istore, e_istore_n, e_astore, e_astore_n, e_lstore, e_iinc, e_iadd, e_isub, e_imul, e_iand, e_ior, e_ishl, e_ishr, e_iushr, e_idiv, e_irem, e_ldiv, e_lrem, e_ineg, e_lshl, e_lcmp, e_i2l, e_i2b, e_i2s, e_dup_i, e_dup_r, e_dup2, e_if_eq, e_if_ne, e_if_lt, e_if_ge, e_if_gt, e_if_le, e_icmp_eq, e_icmp_ne, e_icmp_lt, e_icmp_ge, e_icmp_gt, e_icmp_le, e_ifnull_r, e_ifnull_n, e_goto, e_tsw, e_lsw, e_getf, e_puti, e_putz, e_puta, e_new, e_newa, e_anew, e_iald, e_sald, e_iast, e_aald, e_aast, e_alen, e_slen, e_inv, e_acp, e_min, e_max, e_abs, e_ins, e_oinit, e_inx, e_iret, e_lret, e_vret, vx_run_s, List.getElem?_cons_succ, List.getElem?_cons_zero, List.set_cons_succ, List.set_cons_zero, List.mem_cons, List.not_mem_nil, or_false, false_or, if_true, if_false, ite_true, ite_false, ↓reduceIte, reduceCtorEq, List.take_succ_cons, List.take_zero, List.drop_succ_cons, List.drop_zero, List.reverse_cons, List.reverse_nil, List.nil_append, List.cons_append, List.append_nil, List.length_cons, List.length_nil, Option.toList_some, Option.toList_none, vx_nl, vx_isob, true_and, and_true, Nat.reduceAdd, Nat.reduceEqDiff, Nat.reduceLeDiff, Nat.zero_add, Nat.add_zero, not_false_eq_true, not_true_eq_false, Nat.reduceLT, Nat.reduceMul, Nat.reduceSub, Nat.zero_le, vx_up_s, false_implies, true_implies, forall_const, implies_true, imp_self, Nat.le_refl, forall_eq, forall_eq_apply_imp_iff, and_imp, exists_and_left, exists_eq_left, Nat.one_ne_zero, eq_self, true_or, or_true, Option.some.injEq, Value.int.injEq, Value.long.injEq, bk_Wk_countVotes_0, bk_Wk_countVotes_10, bk_Wk_countVotes_67, bk_Wk_countVotes_73, bk_Wk_countVotes_75, bk_Wk_countVotes_104, vx_up_a, w1, em, nI_clamp, b1, b2, nI_1]
      refine ⟨fun q => by (exfalso; simp only [Int32.lt_iff_toInt_lt, Int32.le_iff_toInt_le, ← Int32.toInt_inj, Int32.reduceToInt] at q; omega), fun _ => ⟨vp_in_nI (by omega) (by decide), vp_in_nI (by omega) (by decide), vp_in_nI (by omega) (by decide), ?_⟩⟩
      have e1 : vx x + vx (x - 1) = nI (vw_bt Y q 0 x) := by
        rw [hhi x (Nat.le_refl _) (by omega), hlo (x - 1) (by omega), nI_add]
        have := vw_bt_s Y q (x - 1)
        rw [show x - 1 + 1 = x by omega] at this
        rw [this, Nat.add_comm]
      rw [vx_up_up, e1]
      refine ih (x + 1) w _ (by omega) (by omega) (fun j hj => ?_) (fun j h2 h3 => ?_)
      · by_cases ej : j = x
        · subst ej; simp [upd]
        · simp [upd, ej, hlo j (by omega)]
      · simp [upd, show ¬ j = x by omega, hhi j (by omega) h3]
  have loop1 : ∀ (n p : Nat) (w : Option Value) (vx : Nat → Int32), p + n = yN Y → (∀ j, j ≤ 30 → vx j = nI (vw_c1 Y q j p)) →
      X 10 [some (.ref 18), some (.ref y), some (.int q), some (.int (nI p)), w] [] z (vx_up h 21 (.inl (31, vx))) := by
    intro n
    induction n with
    | zero =>
      intro p w vx hp hv
      have e : p = yN Y := by omega
      subst e
      obtain ⟨u0, u1, u2, u3, u4, u5, u6, u7⟩ := hd.mv (vf.up (c := .inl (31, vx)) (k := 21) (by omega) (by omega))
      refine vx_go hX [75] 9 ?_
      simp only [e_nil, e_iconst, e_bipush, e_sipush, e_lconst, e_ldc_w, e_ldc2_w, e_iload, e_iload_n, e_lload, e_lload_n, e_aload, e_aload_n, e_istore, e_istore_n, e_astore, e_astore_n, e_lstore, e_iinc, e_iadd, e_isub, e_imul, e_iand, e_ior, e_ishl, e_ishr, e_iushr, e_idiv, e_irem, e_ldiv, e_lrem, e_ineg, e_lshl, e_lcmp, e_i2l, e_i2b, e_i2s, e_dup_i, e_dup_r, e_dup2, e_if_eq, e_if_ne, e_if_lt, e_if_ge, e_if_gt, e_if_le, e_icmp_eq, e_icmp_ne, e_icmp_lt, e_icmp_ge, e_icmp_gt, e_icmp_le, e_ifnull_r, e_ifnull_n, e_goto, e_tsw, e_lsw, e_getf, e_puti, e_putz, e_puta, e_new, e_newa, e_anew, e_iald, e_sald, e_iast, e_aald, e_aast, e_alen, e_slen, e_inv, e_acp, e_min, e_max, e_abs, e_ins, e_oinit, e_inx, e_iret, e_lret, e_vret, vx_run_s, List.getElem?_cons_succ, List.getElem?_cons_zero, List.set_cons_succ, List.set_cons_zero, List.mem_cons, List.not_mem_nil, or_false, false_or, if_true, if_false, ite_true, ite_false, ↓reduceIte, reduceCtorEq, List.take_succ_cons, List.take_zero, List.drop_succ_cons, List.drop_zero, List.reverse_cons, List.reverse_nil, List.nil_append, List.cons_append, List.append_nil, List.length_cons, List.length_nil, Option.toList_some, Option.toList_none, vx_nl, vx_isob, true_and, and_true, Nat.reduceAdd, Nat.reduceEqDiff, Nat.reduceLeDiff, Nat.zero_add, Nat.add_zero, not_false_eq_true, not_true_eq_false, Nat.reduceLT, Nat.reduceMul, Nat.reduceSub, Nat.zero_le, vx_up_s, false_implies, true_implies, forall_const, implies_true, imp_self, Nat.le_refl, forall_eq, forall_eq_apply_imp_iff, and_imp, exists_and_left, exists_eq_left, Nat.one_ne_zero, eq_self, true_or, or_true, Option.some.injEq, Value.int.injEq, Value.long.injEq, bk_Wk_countVotes_0, bk_Wk_countVotes_10, bk_Wk_countVotes_67, bk_Wk_countVotes_73, bk_Wk_countVotes_75, bk_Wk_countVotes_104, u1]
      refine ⟨fun _ => ?_, fun q => absurd (Int32.le_refl _) q⟩
      exact loop2 30 1 w vx (by omega) (by omega) (fun j hj => by
        have : j = 0 := by omega
        subst this
        rw [hv 0 (by omega), vw_bt_0]
        congr 1
        exact vw_sum_0 (fun p _ => by simp)) (fun j h1 h2 => hv j h2)
    | succ n ih =>
      intro p w vx hp hv
      obtain ⟨u0, u1, u2, u3, u4, u5, u6, u7⟩ := hd.mv (vf.up (c := .inl (31, vx)) (k := 21) (by omega) (by omega))
      have w1' : vx_up h 21 (.inl (31, vx)) 18 = _ := (vx_up_n h _ (by decide)).trans w1
      have b1 : p < 2 ^ 31 := by omega
      obtain ⟨p1, p2⟩ := o4 p (by omega)
      have ep : fp p = nI (yP Y p) := u7 p (by omega)
      have ek : fk p = nI (yK Y p) := u6 p (by omega)
      have h67 : ∀ vx' : Nat → Int32, (∀ j, j ≤ 30 → vx' j = nI (vw_c1 Y q j (p + 1))) → X 67 [some (.ref 18), some (.ref y), some (.int q), some (.int (nI p)), some (.int (nI (yP Y p)))] [] z (vx_up h 21 (.inl (31, vx'))) := by
        intro vx' hv'
        refine vx_go hX [10] 9 ?_
        simp only [e_nil, e_iconst, e_bipush, e_sipush, e_lconst, e_ldc_w, e_ldc2_w, e_iload, e_iload_n, e_lload, e_lload_n, e_aload, e_aload_n, e_istore, e_istore_n, e_astore, e_astore_n, e_lstore, e_iinc, e_iadd, e_isub, e_imul, e_iand, e_ior, e_ishl, e_ishr, e_iushr, e_idiv, e_irem, e_ldiv, e_lrem, e_ineg, e_lshl, e_lcmp, e_i2l, e_i2b, e_i2s, e_dup_i, e_dup_r, e_dup2, e_if_eq, e_if_ne, e_if_lt, e_if_ge, e_if_gt, e_if_le, e_icmp_eq, e_icmp_ne, e_icmp_lt, e_icmp_ge, e_icmp_gt, e_icmp_le, e_ifnull_r, e_ifnull_n, e_goto, e_tsw, e_lsw, e_getf, e_puti, e_putz, e_puta, e_new, e_newa, e_anew, e_iald, e_sald, e_iast, e_aald, e_aast, e_alen, e_slen, e_inv, e_acp, e_min, e_max, e_abs, e_ins, e_oinit, e_inx, e_iret, e_lret, e_vret, vx_run_s, List.getElem?_cons_succ, List.getElem?_cons_zero, List.set_cons_succ, List.set_cons_zero, List.mem_cons, List.not_mem_nil, or_false, false_or, if_true, if_false, ite_true, ite_false, ↓reduceIte, reduceCtorEq, List.take_succ_cons, List.take_zero, List.drop_succ_cons, List.drop_zero, List.reverse_cons, List.reverse_nil, List.nil_append, List.cons_append, List.append_nil, List.length_cons, List.length_nil, Option.toList_some, Option.toList_none, vx_nl, vx_isob, true_and, and_true, Nat.reduceAdd, Nat.reduceEqDiff, Nat.reduceLeDiff, Nat.zero_add, Nat.add_zero, not_false_eq_true, not_true_eq_false, Nat.reduceLT, Nat.reduceMul, Nat.reduceSub, Nat.zero_le, vx_up_s, false_implies, true_implies, forall_const, implies_true, imp_self, Nat.le_refl, forall_eq, forall_eq_apply_imp_iff, and_imp, exists_and_left, exists_eq_left, Nat.one_ne_zero, eq_self, true_or, or_true, Option.some.injEq, Value.int.injEq, Value.long.injEq, bk_Wk_countVotes_0, bk_Wk_countVotes_10, bk_Wk_countVotes_67, bk_Wk_countVotes_73, bk_Wk_countVotes_75, bk_Wk_countVotes_104, nI_1]
        exact ih (p + 1) _ vx' (by omega) hv'
      have skip : vw_in q (nI p) = true → ∀ j, j ≤ 30 → vx j = nI (vw_c1 Y q j (p + 1)) := by
        intro e j hj
        rw [hv j hj]
        unfold vw_c1
        rw [vw_sum]
        simp [e]
      refine vx_go hX [67] 9 ?_
      simp only [e_nil, e_iconst, e_bipush, e_sipush, e_lconst, e_ldc_w, e_ldc2_w, e_iload, e_iload_n, e_lload, e_lload_n, e_aload, e_aload_n, e_istore, e_istore_n, e_astore, e_astore_n, e_lstore, e_iinc, e_iadd, e_isub, e_imul, e_iand, e_ior, e_ishl, e_ishr, e_iushr, e_idiv, e_irem, e_ldiv, e_lrem, e_ineg, e_lshl, e_lcmp, e_i2l, e_i2b, e_i2s, e_dup_i, e_dup_r, e_dup2, e_if_eq, e_if_ne, e_if_lt, e_if_ge, e_if_gt, e_if_le, e_icmp_eq, e_icmp_ne, e_icmp_lt, e_icmp_ge, e_icmp_gt, e_icmp_le, e_ifnull_r, e_ifnull_n, e_goto, e_tsw, e_lsw, e_getf, e_puti, e_putz, e_puta, e_new, e_newa, e_anew, e_iald, e_sald, e_iast, e_aald, e_aast, e_alen, e_slen, e_inv, e_acp, e_min, e_max, e_abs, e_ins, e_oinit, e_inx, e_iret, e_lret, e_vret, vx_run_s, List.getElem?_cons_succ, List.getElem?_cons_zero, List.set_cons_succ, List.set_cons_zero, List.mem_cons, List.not_mem_nil, or_false, false_or, if_true, if_false, ite_true, ite_false, ↓reduceIte, reduceCtorEq, List.take_succ_cons, List.take_zero, List.drop_succ_cons, List.drop_zero, List.reverse_cons, List.reverse_nil, List.nil_append, List.cons_append, List.append_nil, List.length_cons, List.length_nil, Option.toList_some, Option.toList_none, vx_nl, vx_isob, true_and, and_true, Nat.reduceAdd, Nat.reduceEqDiff, Nat.reduceLeDiff, Nat.zero_add, Nat.add_zero, not_false_eq_true, not_true_eq_false, Nat.reduceLT, Nat.reduceMul, Nat.reduceSub, Nat.zero_le, vx_up_s, false_implies, true_implies, forall_const, implies_true, imp_self, Nat.le_refl, forall_eq, forall_eq_apply_imp_iff, and_imp, exists_and_left, exists_eq_left, Nat.one_ne_zero, eq_self, true_or, or_true, Option.some.injEq, Value.int.injEq, Value.long.injEq, bk_Wk_countVotes_0, bk_Wk_countVotes_10, bk_Wk_countVotes_67, bk_Wk_countVotes_73, bk_Wk_countVotes_75, bk_Wk_countVotes_104, u1, u4, nI_clamp, b1, ep]
      refine ⟨fun q1 => absurd q1 (nI_ge (by omega) (by omega)), fun _ => ⟨vp_in_nI (by omega) (by decide), ?_⟩⟩
      refine vx_cl1 (vw_isIn _ _ _ _) ?_
      simp only [e_nil, e_iconst, e_bipush, e_sipush, e_lconst, e_ldc_w, e_ldc2_w, e_iload, e_iload_n, e_lload, e_lload_n, e_aload, e_aload_n, e_istore, e_istore_n, e_astore, e_astore_n, e_lstore, e_iinc, e_iadd, e_isub, e_imul, e_iand, e_ior, e_ishl, e_ishr, e_iushr, e_idiv, e_irem, e_ldiv, e_lrem, e_ineg, e_lshl, e_lcmp, e_i2l, e_i2b, e_i2s, e_dup_i, e_dup_r, e_dup2, e_if_eq, e_if_ne, e_if_lt, e_if_ge, e_if_gt, e_if_le, e_icmp_eq, e_icmp_ne, e_icmp_lt, e_icmp_ge, e_icmp_gt, e_icmp_le, e_ifnull_r, e_ifnull_n, e_goto, e_tsw, e_lsw, e_getf, e_puti, e_putz, e_puta, e_new, e_newa, e_anew, e_iald, e_sald, e_iast, e_aald, e_aast, e_alen, e_slen, e_inv, e_acp, e_min, e_max, e_abs, e_ins, e_oinit, e_inx, e_iret, e_lret, e_vret, vx_run_s, List.getElem?_cons_succ, List.getElem?_cons_zero, List.set_cons_succ, List.set_cons_zero, List.mem_cons, List.not_mem_nil, or_false, false_or, if_true, if_false, ite_true, ite_false, ↓reduceIte, reduceCtorEq, List.take_succ_cons, List.take_zero, List.drop_succ_cons, List.drop_zero, List.reverse_cons, List.reverse_nil, List.nil_append, List.cons_append, List.append_nil, List.length_cons, List.length_nil, Option.toList_some, Option.toList_none, vx_nl, vx_isob, true_and, and_true, Nat.reduceAdd, Nat.reduceEqDiff, Nat.reduceLeDiff, Nat.zero_add, Nat.add_zero, not_false_eq_true, not_true_eq_false, Nat.reduceLT, Nat.reduceMul, Nat.reduceSub, Nat.zero_le, vx_up_s, false_implies, true_implies, forall_const, implies_true, imp_self, Nat.le_refl, forall_eq, forall_eq_apply_imp_iff, and_imp, exists_and_left, exists_eq_left, Nat.one_ne_zero, eq_self, true_or, or_true, Option.some.injEq, Value.int.injEq, Value.long.injEq, bk_Wk_countVotes_0, bk_Wk_countVotes_10, bk_Wk_countVotes_67, bk_Wk_countVotes_73, bk_Wk_countVotes_75, bk_Wk_countVotes_104, vx_bI_0, w1', u1, u3, nI_clamp, b1, ek, nI_1]
      refine ⟨fun q1 => h67 vx (skip (by simpa using q1)), fun q1 => ⟨fun q2 => absurd q2 (nI_pos (by omega)), fun _ => ⟨fun q2 => absurd q2 (nI_ge (b := 30) (by omega) (by omega)), fun _ => ?_⟩⟩⟩
      have b3 : yP Y p + 1 < 2 ^ 31 := by omega
      refine ⟨vp_in_nI (by omega) (by decide), vp_in_nI (by omega) (by decide), ?_⟩
      refine vx_cl1 (vw_votesOfKind _ _ _) ?_
      rw [vw_vt_I p2]
      simp only [e_nil, e_iconst, e_bipush, e_sipush, e_lconst, e_ldc_w, e_ldc2_w, e_iload, e_iload_n, e_lload, e_lload_n, e_aload, e_aload_n, e_istore, e_istore_n, e_astore, e_astore_n, e_lstore, e_iinc, e_iadd, e_isub, e_imul, e_iand, e_ior, e_ishl, e_ishr, e_iushr, e_idiv, e_irem, e_ldiv, e_lrem, e_ineg, e_lshl, e_lcmp, e_i2l, e_i2b, e_i2s, e_dup_i, e_dup_r, e_dup2, e_if_eq, e_if_ne, e_if_lt, e_if_ge, e_if_gt, e_if_le, e_icmp_eq, e_icmp_ne, e_icmp_lt, e_icmp_ge, e_icmp_gt, e_icmp_le, e_ifnull_r, e_ifnull_n, e_goto, e_tsw, e_lsw, e_getf, e_puti, e_putz, e_puta, e_new, e_newa, e_anew, e_iald, e_sald, e_iast, e_aald, e_aast, e_alen, e_slen, e_inv, e_acp, e_min, e_max, e_abs, e_ins, e_oinit, e_inx, e_iret, e_lret, e_vret, vx_run_s, List.getElem?_cons_succ, List.getElem?_cons_zero, List.set_cons_succ, List.set_cons_zero, List.mem_cons, List.not_mem_nil, or_false, false_or, if_true, if_false, ite_true, ite_false, ↓reduceIte, reduceCtorEq, List.take_succ_cons, List.take_zero, List.drop_succ_cons, List.drop_zero, List.reverse_cons, List.reverse_nil, List.nil_append, List.cons_append, List.append_nil, List.length_cons, List.length_nil, Option.toList_some, Option.toList_none, vx_nl, vx_isob, true_and, and_true, Nat.reduceAdd, Nat.reduceEqDiff, Nat.reduceLeDiff, Nat.zero_add, Nat.add_zero, not_false_eq_true, not_true_eq_false, Nat.reduceLT, Nat.reduceMul, Nat.reduceSub, Nat.zero_le, vx_up_s, false_implies, true_implies, forall_const, implies_true, imp_self, Nat.le_refl, forall_eq, forall_eq_apply_imp_iff, and_imp, exists_and_left, exists_eq_left, Nat.one_ne_zero, eq_self, true_or, or_true, Option.some.injEq, Value.int.injEq, Value.long.injEq, bk_Wk_countVotes_0, bk_Wk_countVotes_10, bk_Wk_countVotes_67, bk_Wk_countVotes_73, bk_Wk_countVotes_75, bk_Wk_countVotes_104, w1', nI_clamp, b1, b3, nI_1]
      refine ⟨vp_in_nI (by omega) (by decide), ?_⟩
      rw [vx_up_up, hv _ (by omega), nI_add]
      refine h67 _ (fun j hj => ?_)
      unfold vw_c1
      rw [vw_sum]
      by_cases ej : j = yP Y p + 1
      · subst ej; simp [upd, q1, vw_c1]
      · simp [upd, ej, Ne.symm ej, hv j hj, vw_c1]
  obtain ⟨u0, u1, u2, u3, u4, u5, u6, u7⟩ := id hd
  refine vx_go hX [10] 9 ?_
  simp only [e_nil, e_iconst, e_bipush, e_sipush, e_lconst, e_ldc_w, e_ldc2_w, e_iload, e_iload_n, e_lload, e_lload_n, e_aload, e_aload_n, e_istore, e_istore_n, e_astore, e_astore_n, e_lstore, e_iinc, e_iadd, e_isub, e_imul, e_iand, e_ior, e_ishl, e_ishr, e_iushr, e_idiv, e_irem, e_ldiv, e_lrem, e_ineg, e_lshl, e_lcmp, e_i2l, e_i2b, e_i2s, e_dup_i, e_dup_r, e_dup2, e_if_eq, e_if_ne, e_if_lt, e_if_ge, e_if_gt, e_if_le, e_icmp_eq, e_icmp_ne, e_icmp_lt, e_icmp_ge, e_icmp_gt, e_icmp_le, e_ifnull_r, e_ifnull_n, e_goto, e_tsw, e_lsw, e_getf, e_puti, e_putz, e_puta, e_new, e_newa, e_anew, e_iald, e_sald, e_iast, e_aald, e_aast, e_alen, e_slen, e_inv, e_acp, e_min, e_max, e_abs, e_ins, e_oinit, e_inx, e_iret, e_lret, e_vret, vx_run_s, List.getElem?_cons_succ, List.getElem?_cons_zero, List.set_cons_succ, List.set_cons_zero, List.mem_cons, List.not_mem_nil, or_false, false_or, if_true, if_false, ite_true, ite_false, ↓reduceIte, reduceCtorEq, List.take_succ_cons, List.take_zero, List.drop_succ_cons, List.drop_zero, List.reverse_cons, List.reverse_nil, List.nil_append, List.cons_append, List.append_nil, List.length_cons, List.length_nil, Option.toList_some, Option.toList_none, vx_nl, vx_isob, true_and, and_true, Nat.reduceAdd, Nat.reduceEqDiff, Nat.reduceLeDiff, Nat.zero_add, Nat.add_zero, not_false_eq_true, not_true_eq_false, Nat.reduceLT, Nat.reduceMul, Nat.reduceSub, Nat.zero_le, vx_up_s, false_implies, true_implies, forall_const, implies_true, imp_self, Nat.le_refl, forall_eq, forall_eq_apply_imp_iff, and_imp, exists_and_left, exists_eq_left, Nat.one_ne_zero, eq_self, true_or, or_true, Option.some.injEq, Value.int.injEq, Value.long.injEq, bk_Wk_countVotes_0, bk_Wk_countVotes_10, bk_Wk_countVotes_67, bk_Wk_countVotes_73, bk_Wk_countVotes_75, bk_Wk_countVotes_104, w1]
  refine vx_cl1 (vw_fill h _ 21 31 vb 0 w4 (by decide)) ?_
  simp only [e_nil, e_iconst, e_bipush, e_sipush, e_lconst, e_ldc_w, e_ldc2_w, e_iload, e_iload_n, e_lload, e_lload_n, e_aload, e_aload_n, e_istore, e_istore_n, e_astore, e_astore_n, e_lstore, e_iinc, e_iadd, e_isub, e_imul, e_iand, e_ior, e_ishl, e_ishr, e_iushr, e_idiv, e_irem, e_ldiv, e_lrem, e_ineg, e_lshl, e_lcmp, e_i2l, e_i2b, e_i2s, e_dup_i, e_dup_r, e_dup2, e_if_eq, e_if_ne, e_if_lt, e_if_ge, e_if_gt, e_if_le, e_icmp_eq, e_icmp_ne, e_icmp_lt, e_icmp_ge, e_icmp_gt, e_icmp_le, e_ifnull_r, e_ifnull_n, e_goto, e_tsw, e_lsw, e_getf, e_puti, e_putz, e_puta, e_new, e_newa, e_anew, e_iald, e_sald, e_iast, e_aald, e_aast, e_alen, e_slen, e_inv, e_acp, e_min, e_max, e_abs, e_ins, e_oinit, e_inx, e_iret, e_lret, e_vret, vx_run_s, List.getElem?_cons_succ, List.getElem?_cons_zero, List.set_cons_succ, List.set_cons_zero, List.mem_cons, List.not_mem_nil, or_false, false_or, if_true, if_false, ite_true, ite_false, ↓reduceIte, reduceCtorEq, List.take_succ_cons, List.take_zero, List.drop_succ_cons, List.drop_zero, List.reverse_cons, List.reverse_nil, List.nil_append, List.cons_append, List.append_nil, List.length_cons, List.length_nil, Option.toList_some, Option.toList_none, vx_nl, vx_isob, true_and, and_true, Nat.reduceAdd, Nat.reduceEqDiff, Nat.reduceLeDiff, Nat.zero_add, Nat.add_zero, not_false_eq_true, not_true_eq_false, Nat.reduceLT, Nat.reduceMul, Nat.reduceSub, Nat.zero_le, vx_up_s, false_implies, true_implies, forall_const, implies_true, imp_self, Nat.le_refl, forall_eq, forall_eq_apply_imp_iff, and_imp, exists_and_left, exists_eq_left, Nat.one_ne_zero, eq_self, true_or, or_true, Option.some.injEq, Value.int.injEq, Value.long.injEq, bk_Wk_countVotes_0, bk_Wk_countVotes_10, bk_Wk_countVotes_67, bk_Wk_countVotes_73, bk_Wk_countVotes_75, bk_Wk_countVotes_104, w1]
  exact loop1 (yN Y) 0 none _ (by omega) (fun j hj => by simp [show j < 31 by omega, vw_c1, vw_sum]; rfl)
