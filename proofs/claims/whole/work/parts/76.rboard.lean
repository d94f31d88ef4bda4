/-! the reference: a board, a prisoner of a text -/
def rS (h : vx_H) (E : vE) (F p : Nat) (ri rb rm : Int32) (f1 f2 f3 : Nat → Int32) : Prop := h 38 = some (mE E (nI (F + p)) ri rb rm) ∧ h 45 = some (.inl (5, f1)) ∧ h 46 = some (.inl (8, f2)) ∧ h 47 = some (.inl (8, f3))
def vz (h h' : vx_H) : Prop := ∀ k, k ≠ 38 → k ≠ 45 → k ≠ 46 → k ≠ 47 → h' k = h k
theorem vz.rf {h : vx_H} : vz h h := fun _ _ _ _ _ => rfl
theorem vz.tr {h h1 h2 : vx_H} (u : vz h h1) (w : vz h1 h2) : vz h h2 := fun k a b c d => (w k a b c d).trans (u k a b c d)
theorem vz.up {h : vx_H} {k : Nat} {c : vx_C} (hk : k = 38 ∨ k = 45 ∨ k = 46 ∨ k = 47) : vz h (vx_up h k c) := fun j a b c d => vx_up_n _ _ (by omega)
theorem tX.mv {h h' : vx_H} {c : Nat → Int32} {F n : Nat} (t : tX h c F n) (v : vz h h') : tX h' c F n := by
  obtain ⟨fc, t1, t2, t3⟩ := t
  exact ⟨fc, (v 41 (by decide) (by decide) (by decide) (by decide)).trans t1, t2, t3⟩
section RD
variable {h : vx_H} {E : vE} {F n p I k l : Nat} {ri rb rm : Int32} {c : Nat → Int32} {f1 f2 f3 : Nat → Int32}
theorem vz.at : vz h (rat h E F p ri rb rm) := vz.up (by omega)
theorem rS.at (u : rS h E F p ri rb rm f1 f2 f3) (q : Nat) (ri' rb' rm' : Int32) : rS (rat h E F q ri' rb' rm') E F q ri' rb' rm' f1 f2 f3 :=
  ⟨rat_o, (vx_up_n _ _ (by decide)).trans u.2.1, (vx_up_n _ _ (by decide)).trans u.2.2.1, (vx_up_n _ _ (by decide)).trans u.2.2.2⟩
set_option maxRecDepth 100000 in
set_option maxHeartbeats 4000000 in
theorem rv_readBoard (sz : Nat) (u : rS h E F p (nI I) (nI k) rm f1 f2 f3) (t : tX h c F n) (hp : p ≤ n) (hk : k < 5) (hI : 4 ≤ I ∧ I ≤ 30) (hl : k = 0 ∧ l = 0 ∨ 0 < k ∧ f1 (k - 1) = nI l) (hl2 : l ≤ 30) : vx_Ok m_R_readBoard [.ref 38, .int (nI (F + n))] sz h (fun r h' => r = some (.int (vx_bI ((p_num c n (l + 1) (I - 1) p).1.isSome = true))) ∧ rS h' E F (p_num c n (l + 1) (I - 1) p).2 (nI I) (nI (k + 1)) rm (upd f1 k (o9 (p_num c n (l + 1) (I - 1) p).1)) f2 f3 ∧ vz h h') := by
  refine ok_R_readBoard [some (.ref 38), some (.int (nI (F + n))), none] (Nat.le_of_ble_eq_true rfl) rfl (fun lim z X hX => ?_)
  obtain ⟨o, u45, u46, u47⟩ := id u
  have o0 := o
  unfold mE at o
  have eI : nI I - 1 = nI (I - 1) := nI_sub (b := 1) (by omega)
  have ek : nI k + 1 - 1 = nI k := by rw [nI_1, nI_s1]
  have hb : ∀ v, (p_num c n (l + 1) (I - 1) p).1 = some v → v ≤ 99 := fun v hv => (p_num_in hv).2.2
  have h24 : X 24 [some (.ref 38), some (.int (nI (F + n))), none] [.int (nI (l + 1))] z h := by
    refine vx_go hX [] 9 ?_
    simp only [e_nil, e_iconst, e_bipush, e_sipush, e_lconst, e_ldc_w, e_ldc2_w, e_iload, e_iload_n, e_lload, e_lload_n, e_aload, e_aload_n, e_istore, e_istore_n, e_astore, e_astore_n, e_lstore, e_iinc, e_iadd, e_isub, e_imul, e_iand, e_ior, e_ishl, e_ishr, e_iushr, e_idiv, e_irem, e_ldiv, e_lrem, e_ineg, e_lshl, e_lcmp, e_i2l, e_i2b, e_i2s, e_dup_i, e_dup_r, e_dup2, e_if_eq, e_if_ne, e_if_lt, e_if_ge, e_if_gt, e_if_le, e_icmp_eq, e_icmp_ne, e_icmp_lt, e_icmp_ge, e_icmp_gt, e_icmp_le, e_ifnull_r, e_ifnull_n, e_goto, e_tsw, e_lsw, e_getf, e_puti, e_putz, e_puta, e_new, e_newa, e_anew, e_iald, e_sald, e_iast, e_aald, e_aast, e_alen, e_slen, e_inv, e_acp, e_min, e_max, e_abs, e_ins, e_oinit, e_inx, e_iret, e_lret, e_vret, vx_run_s, List.getElem?_cons_succ, List.getElem?_cons_zero, List.set_cons_succ, List.set_cons_zero, List.mem_cons, List.not_mem_nil, or_false, false_or, if_true, if_false, ite_true, ite_false, ↓reduceIte, reduceCtorEq, List.take_succ_cons, List.take_zero, List.drop_succ_cons, List.drop_zero, List.reverse_cons, List.reverse_nil, List.nil_append, List.cons_append, List.append_nil, List.length_cons, List.length_nil, Option.toList_some, Option.toList_none, vx_nl, vx_isob, true_and, and_true, Nat.reduceAdd, Nat.reduceEqDiff, Nat.reduceLeDiff, Nat.zero_add, Nat.add_zero, not_false_eq_true, not_true_eq_false, Nat.reduceLT, Nat.reduceMul, Nat.reduceSub, Nat.zero_le, vx_up_s, false_implies, true_implies, forall_const, implies_true, imp_self, Nat.le_refl, forall_eq, forall_eq_apply_imp_iff, and_imp, exists_and_left, exists_eq_left, Nat.one_ne_zero, eq_self, true_or, or_true, Option.some.injEq, Value.int.injEq, Value.long.injEq, mF_g0, mF_g1, mF_g2, mF_g3, mF_g4, mF_g5, mF_g6, mF_g7, mF_g8, mF_g9, mF_g10, mF_g11, mF_g12, mF_g13, mF_g14, mF_g15, mF_g16, mF_g17, mF_g18, mF_g19, mF_g20, mF_g21, mF_g22, mF_g23, mF_g24, mF_g25, mF_g26, mF_g27, mF_g28, mF_g29, mF_g30, mF_g31, mF_g32, mF_g33, mF_g34, mF_s0, mF_s1, mF_s5, mF_s6, mF_s7, mF_s11, mF_s12, mF_s13, mF_s14, mF_s15, mF_s19, mF_s23, mF_s27, mF_s28, mF_s30, mF_s31, mF_len, bk_R_readBoard_0, bk_R_readBoard_11, bk_R_readBoard_24, bk_R_readBoard_76, bk_R_readBoard_77, o]
    rw [eI]
    refine vx_cl1 (rv_number _ o0 t hp (l + 1) (I - 1) (by omega) (by omega)) ?_
    generalize p_num c n (l + 1) (I - 1) p = R at hX hb
    have r38 : rat h E F R.2 (nI I) (nI k) rm 38 = some (mE E (nI (F + R.2)) (nI I) (nI k) rm) := rat_o
    unfold mE at r38
    have r45 : rat h E F R.2 (nI I) (nI k) rm 45 = some (.inl (5, f1)) := (vx_up_n _ _ (by decide)).trans u45
    simp only [e_nil, e_iconst, e_bipush, e_sipush, e_lconst, e_ldc_w, e_ldc2_w, e_iload, e_iload_n, e_lload, e_lload_n, e_aload, e_aload_n, e_istore, e_istore_n, e_astore, e_astore_n, e_lstore, e_iinc, e_iadd, e_isub, e_imul, e_iand, e_ior, e_ishl, e_ishr, e_iushr, e_idiv, e_irem, e_ldiv, e_lrem, e_ineg, e_lshl, e_lcmp, e_i2l, e_i2b, e_i2s, e_dup_i, e_dup_r, e_dup2, e_if_eq, e_if_ne, e_if_lt, e_if_ge, e_if_gt, e_if_le, e_icmp_eq, e_icmp_ne, e_icmp_lt, e_icmp_ge, e_icmp_gt, e_icmp_le, e_ifnull_r, e_ifnull_n, e_goto, e_tsw, e_lsw, e_getf, e_puti, e_putz, e_puta, e_new, e_newa, e_anew, e_iald, e_sald, e_iast, e_aald, e_aast, e_alen, e_slen, e_inv, e_acp, e_min, e_max, e_abs, e_ins, e_oinit, e_inx, e_iret, e_lret, e_vret, vx_run_s, List.getElem?_cons_succ, List.getElem?_cons_zero, List.set_cons_succ, List.set_cons_zero, List.mem_cons, List.not_mem_nil, or_false, false_or, if_true, if_false, ite_true, ite_false, ↓reduceIte, reduceCtorEq, List.take_succ_cons, List.take_zero, List.drop_succ_cons, List.drop_zero, List.reverse_cons, List.reverse_nil, List.nil_append, List.cons_append, List.append_nil, List.length_cons, List.length_nil, Option.toList_some, Option.toList_none, vx_nl, vx_isob, true_and, and_true, Nat.reduceAdd, Nat.reduceEqDiff, Nat.reduceLeDiff, Nat.zero_add, Nat.add_zero, not_false_eq_true, not_true_eq_false, Nat.reduceLT, Nat.reduceMul, Nat.reduceSub, Nat.zero_le, vx_up_s, false_implies, true_implies, forall_const, implies_true, imp_self, Nat.le_refl, forall_eq, forall_eq_apply_imp_iff, and_imp, exists_and_left, exists_eq_left, Nat.one_ne_zero, eq_self, true_or, or_true, Option.some.injEq, Value.int.injEq, Value.long.injEq, mF_g0, mF_g1, mF_g2, mF_g3, mF_g4, mF_g5, mF_g6, mF_g7, mF_g8, mF_g9, mF_g10, mF_g11, mF_g12, mF_g13, mF_g14, mF_g15, mF_g16, mF_g17, mF_g18, mF_g19, mF_g20, mF_g21, mF_g22, mF_g23, mF_g24, mF_g25, mF_g26, mF_g27, mF_g28, mF_g29, mF_g30, mF_g31, mF_g32, mF_g33, mF_g34, mF_s0, mF_s1, mF_s5, mF_s6, mF_s7, mF_s11, mF_s12, mF_s13, mF_s14, mF_s15, mF_s19, mF_s23, mF_s27, mF_s28, mF_s30, mF_s31, mF_len, bk_R_readBoard_0, bk_R_readBoard_11, bk_R_readBoard_24, bk_R_readBoard_76, bk_R_readBoard_77, r38, r45, vx_up_a]
    rw [ek, nI_clamp (by omega), show upd f1 k (o9 R.1) k = o9 R.1 from by simp [upd], nI_1, o9_n hb]
    have post : rS (vx_up (vx_up (rat h E F R.2 (nI I) (nI k) rm) 45 (.inl (5, upd f1 k (o9 R.1)))) 38 (mE E (nI (F + R.2)) (nI I) (nI (k + 1)) rm)) E F R.2 (nI I) (nI (k + 1)) rm (upd f1 k (o9 R.1)) f2 f3 ∧ vz h (vx_up (vx_up (rat h E F R.2 (nI I) (nI k) rm) 45 (.inl (5, upd f1 k (o9 R.1)))) 38 (mE E (nI (F + R.2)) (nI I) (nI (k + 1)) rm)) := by
      refine ⟨⟨vx_up_s _ _ _, ?_, ?_, ?_⟩, (vz.at.tr (vz.up (by omega))).tr (vz.up (by omega))⟩
      · simp [vx_up_a]
      · simp only [vx_up_a]; exact (vx_up_n _ _ (by decide)).trans u46
      · simp only [vx_up_a]; exact (vx_up_n _ _ (by decide)).trans u47
    refine ⟨vp_in_nI (by omega) (by decide), vp_in_nI (by omega) (by decide), fun q => ⟨?_, post⟩, fun q => ⟨?_, post⟩⟩
    · rw [q, vx_bI_f (by simp)]
    · rw [vx_bI_t (by cases e : R.1 with | none => exact absurd e q | some v => rfl)]
  refine vx_go hX [24] 9 ?_
  simp only [e_nil, e_iconst, e_bipush, e_sipush, e_lconst, e_ldc_w, e_ldc2_w, e_iload, e_iload_n, e_lload, e_lload_n, e_aload, e_aload_n, e_istore, e_istore_n, e_astore, e_astore_n, e_lstore, e_iinc, e_iadd, e_isub, e_imul, e_iand, e_ior, e_ishl, e_ishr, e_iushr, e_idiv, e_irem, e_ldiv, e_lrem, e_ineg, e_lshl, e_lcmp, e_i2l, e_i2b, e_i2s, e_dup_i, e_dup_r, e_dup2, e_if_eq, e_if_ne, e_if_lt, e_if_ge, e_if_gt, e_if_le, e_icmp_eq, e_icmp_ne, e_icmp_lt, e_icmp_ge, e_icmp_gt, e_icmp_le, e_ifnull_r, e_ifnull_n, e_goto, e_tsw, e_lsw, e_getf, e_puti, e_putz, e_puta, e_new, e_newa, e_anew, e_iald, e_sald, e_iast, e_aald, e_aast, e_alen, e_slen, e_inv, e_acp, e_min, e_max, e_abs, e_ins, e_oinit, e_inx, e_iret, e_lret, e_vret, vx_run_s, List.getElem?_cons_succ, List.getElem?_cons_zero, List.set_cons_succ, List.set_cons_zero, List.mem_cons, List.not_mem_nil, or_false, false_or, if_true, if_false, ite_true, ite_false, ↓reduceIte, reduceCtorEq, List.take_succ_cons, List.take_zero, List.drop_succ_cons, List.drop_zero, List.reverse_cons, List.reverse_nil, List.nil_append, List.cons_append, List.append_nil, List.length_cons, List.length_nil, Option.toList_some, Option.toList_none, vx_nl, vx_isob, true_and, and_true, Nat.reduceAdd, Nat.reduceEqDiff, Nat.reduceLeDiff, Nat.zero_add, Nat.add_zero, not_false_eq_true, not_true_eq_false, Nat.reduceLT, Nat.reduceMul, Nat.reduceSub, Nat.zero_le, vx_up_s, false_implies, true_implies, forall_const, implies_true, imp_self, Nat.le_refl, forall_eq, forall_eq_apply_imp_iff, and_imp, exists_and_left, exists_eq_left, Nat.one_ne_zero, eq_self, true_or, or_true, Option.some.injEq, Value.int.injEq, Value.long.injEq, mF_g0, mF_g1, mF_g2, mF_g3, mF_g4, mF_g5, mF_g6, mF_g7, mF_g8, mF_g9, mF_g10, mF_g11, mF_g12, mF_g13, mF_g14, mF_g15, mF_g16, mF_g17, mF_g18, mF_g19, mF_g20, mF_g21, mF_g22, mF_g23, mF_g24, mF_g25, mF_g26, mF_g27, mF_g28, mF_g29, mF_g30, mF_g31, mF_g32, mF_g33, mF_g34, mF_s0, mF_s1, mF_s5, mF_s6, mF_s7, mF_s11, mF_s12, mF_s13, mF_s14, mF_s15, mF_s19, mF_s23, mF_s27, mF_s28, mF_s30, mF_s31, mF_len, bk_R_readBoard_0, bk_R_readBoard_11, bk_R_readBoard_24, bk_R_readBoard_76, bk_R_readBoard_77, o, u45]
  rcases hl with ⟨rfl, rfl⟩ | ⟨hk0, hl⟩
  · exact ⟨fun q => absurd rfl q, fun _ => h24⟩
  · rw [show nI k - 1 = nI (k - 1) from nI_sub (b := 1) (by omega), nI_clamp (by omega), hl, nI_1]
    refine ⟨fun _ => ⟨vp_in_nI (by omega) (by decide), h24⟩, fun q => absurd ((nI_eq (b := 0) (by omega) (by omega)).mp q) (by omega)⟩
def PrR (h : vx_H) (E : vE) (F n I k p : Nat) (rb : Int32) (f1 f2 f3 : Nat → Int32) (c : Nat → Int32) (v : Int32) (h' : vx_H) : Prop := match p_kind c n p with
  | none => v = 0 ∧ h' = h
  | some kd => v = vx_bI ((p_num c n 0 (I - 1) (p + 1)).1.isSome = true) ∧ rS h' E F (p_num c n 0 (I - 1) (p + 1)).2 (nI I) rb (nI (k + 1)) f1 (upd f2 k (nI kd)) (upd f3 k (o9 (p_num c n 0 (I - 1) (p + 1)).1)) ∧ vz h h'
set_option maxRecDepth 100000 in
set_option maxHeartbeats 4000000 in
theorem rv_readPrisoner (sz : Nat) (u : rS h E F p (nI I) rb (nI k) f1 f2 f3) (t : tX h c F n) (hp : p ≤ n) (hk : k < 8) (hI : 4 ≤ I ∧ I ≤ 30) : vx_Ok m_R_readPrisoner [.ref 38, .int (nI (F + n))] sz h (fun r h' => ∃ v, r = some (.int v) ∧ PrR h E F n I k p rb f1 f2 f3 c v h') := by
  refine ok_R_readPrisoner [some (.ref 38), some (.int (nI (F + n))), none, none] (Nat.le_of_ble_eq_true rfl) rfl (fun lim z X hX => ?_)
  obtain ⟨o, u45, u46, u47⟩ := id u
  have o0 := o
  have t0 := t
  obtain ⟨fc, t1, t2, t3⟩ := t
  unfold mE at o
  have eI : nI I - 1 = nI (I - 1) := nI_sub (b := 1) (by omega)
  have ek : nI k + 1 - 1 = nI k := by rw [nI_1, nI_s1]
  have b1 : k < 2 ^ 31 := by omega
  have e12 : nI (F + p) + 1 = nI (F + (p + 1)) := by rw [nI_1, Nat.add_assoc]
  have hb : ∀ v, (p_num c n 0 (I - 1) (p + 1)).1 = some v → v ≤ 99 := fun v hv => (p_num_in hv).2.2
  have h63 : ∀ (kd : Nat) (w : Option Value), p_kind c n p = some kd → X 63 [some (.ref 38), some (.int (nI (F + n))), w, some (.int (nI kd))] [] z h := by
    intro kd w ekd
    have hpn := (p_kind_some ekd).1
    unfold PrR at hX
    rw [ekd] at hX
    dsimp only at hX
    refine vx_go hX [] 9 ?_
    simp only [e_nil, e_iconst, e_bipush, e_sipush, e_lconst, e_ldc_w, e_ldc2_w, e_iload, e_iload_n, e_lload, e_lload_n, e_aload, e_aload_n, e_istore, e_istore_n, e_astore, e_astore_n, e_lstore, e_iinc, e_iadd, e_isub, e_imul, e_iand, e_ior, e_ishl, e_ishr, e_iushr, e_idiv, e_irem, e_ldiv, e_lrem, e_ineg, e_lshl, e_lcmp, e_i2l, e_i2b, e_i2s, e_dup_i, e_dup_r, e_dup2, e_if_eq, e_if_ne, e_if_lt, e_if_ge, e_if_gt, e_if_le, e_icmp_eq, e_icmp_ne, e_icmp_lt, e_icmp_ge, e_icmp_gt, e_icmp_le, e_ifnull_r, e_ifnull_n, e_goto, e_tsw, e_lsw, e_getf, e_puti, e_putz, e_puta, e_new, e_newa, e_anew, e_iald, e_sald, e_iast, e_aald, e_aast, e_alen, e_slen, e_inv, e_acp, e_min, e_max, e_abs, e_ins, e_oinit, e_inx, e_iret, e_lret, e_vret, vx_run_s, List.getElem?_cons_succ, List.getElem?_cons_zero, List.set_cons_succ, List.set_cons_zero, List.mem_cons, List.not_mem_nil, or_false, false_or, if_true, if_false, ite_true, ite_false, ↓reduceIte, reduceCtorEq, List.take_succ_cons, List.take_zero, List.drop_succ_cons, List.drop_zero, List.reverse_cons, List.reverse_nil, List.nil_append, List.cons_append, List.append_nil, List.length_cons, List.length_nil, Option.toList_some, Option.toList_none, vx_nl, vx_isob, true_and, and_true, Nat.reduceAdd, Nat.reduceEqDiff, Nat.reduceLeDiff, Nat.zero_add, Nat.add_zero, not_false_eq_true, not_true_eq_false, Nat.reduceLT, Nat.reduceMul, Nat.reduceSub, Nat.zero_le, vx_up_s, false_implies, true_implies, forall_const, implies_true, imp_self, Nat.le_refl, forall_eq, forall_eq_apply_imp_iff, and_imp, exists_and_left, exists_eq_left, Nat.one_ne_zero, eq_self, true_or, or_true, Option.some.injEq, Value.int.injEq, Value.long.injEq, mF_g0, mF_g1, mF_g2, mF_g3, mF_g4, mF_g5, mF_g6, mF_g7, mF_g8, mF_g9, mF_g10, mF_g11, mF_g12, mF_g13, mF_g14, mF_g15, mF_g16, mF_g17, mF_g18, mF_g19, mF_g20, mF_g21, mF_g22, mF_g23, mF_g24, mF_g25, mF_g26, mF_g27, mF_g28, mF_g29, mF_g30, mF_g31, mF_g32, mF_g33, mF_g34, mF_s0, mF_s1, mF_s5, mF_s6, mF_s7, mF_s11, mF_s12, mF_s13, mF_s14, mF_s15, mF_s19, mF_s23, mF_s27, mF_s28, mF_s30, mF_s31, mF_len, bk_R_readPrisoner_0, bk_R_readPrisoner_20, bk_R_readPrisoner_21, bk_R_readPrisoner_32, bk_R_readPrisoner_42, bk_R_readPrisoner_52, bk_R_readPrisoner_54, bk_R_readPrisoner_63, bk_R_readPrisoner_134, bk_R_readPrisoner_135, o, u46, vx_up_a]
    rw [e12, eI, nI_clamp b1]
    refine ⟨vp_in_nI (by omega) (by decide), ?_⟩
    refine vx_cl1 (h := vx_up (rat h E F (p + 1) (nI I) rb (nI k)) 46 (.inl (8, upd f2 k (nI kd)))) (rv_number _ (E := E) (F := F) (p := p + 1) (n := n) (c := c) (ri := nI I) (rb := rb) (rm := nI k) ((vx_up_n _ _ (by decide)).trans rat_o) (t0.mv (vz.at.tr (vz.up (by omega)))) (by omega) 0 (I - 1) (by omega) (by omega)) ?_
    generalize p_num c n 0 (I - 1) (p + 1) = R at hX hb
    generalize hH : vx_up (rat h E F (p + 1) (nI I) rb (nI k)) 46 (.inl (8, upd f2 k (nI kd))) = H
    have r38 : rat H E F R.2 (nI I) rb (nI k) 38 = some (mE E (nI (F + R.2)) (nI I) rb (nI k)) := rat_o
    unfold mE at r38
    have r47 : rat H E F R.2 (nI I) rb (nI k) 47 = some (.inl (8, f3)) := by
      rw [← hH]
      exact (vx_up_n _ _ (by decide)).trans ((vx_up_n _ _ (by decide)).trans ((vx_up_n _ _ (by decide)).trans u47))
    have r46 : rat H E F R.2 (nI I) rb (nI k) 46 = some (.inl (8, upd f2 k (nI kd))) := by
      rw [← hH]
      exact (vx_up_n _ _ (by decide)).trans (vx_up_s _ _ _)
    have r45 : rat H E F R.2 (nI I) rb (nI k) 45 = some (.inl (5, f1)) := by
      rw [← hH]
      exact (vx_up_n _ _ (by decide)).trans ((vx_up_n _ _ (by decide)).trans ((vx_up_n _ _ (by decide)).trans u45))
    have vH : vz h (rat H E F R.2 (nI I) rb (nI k)) := by
      rw [← hH]
      exact (vz.at.tr (vz.up (by omega))).tr vz.at
    simp only [e_nil, e_iconst, e_bipush, e_sipush, e_lconst, e_ldc_w, e_ldc2_w, e_iload, e_iload_n, e_lload, e_lload_n, e_aload, e_aload_n, e_istore, e_istore_n, e_astore, e_astore_n, e_lstore, e_iinc, e_iadd, e_isub, e_imul, e_iand, e_ior, e_ishl, e_ishr, e_iushr, e_idiv, e_irem, e_ldiv, e_lrem, e_ineg, e_lshl, e_lcmp, e_i2l, e_i2b, e_i2s, e_dup_i, e_dup_r, e_dup2, e_if_eq, e_if_ne, e_if_lt, e_if_ge, e_if_gt, e_if_le, e_icmp_eq, e_icmp_ne, e_icmp_lt, e_icmp_ge, e_icmp_gt, e_icmp_le, e_ifnull_r, e_ifnull_n, e_goto, e_tsw, e_lsw, e_getf, e_puti, e_putz, e_puta, e_new, e_newa, e_anew, e_iald, e_sald, e_iast, e_aald, e_aast, e_alen, e_slen, e_inv, e_acp, e_min, e_max, e_abs, e_ins, e_oinit, e_inx, e_iret, e_lret, e_vret, vx_run_s, List.getElem?_cons_succ, List.getElem?_cons_zero, List.set_cons_succ, List.set_cons_zero, List.mem_cons, List.not_mem_nil, or_false, false_or, if_true, if_false, ite_true, ite_false, ↓reduceIte, reduceCtorEq, List.take_succ_cons, List.take_zero, List.drop_succ_cons, List.drop_zero, List.reverse_cons, List.reverse_nil, List.nil_append, List.cons_append, List.append_nil, List.length_cons, List.length_nil, Option.toList_some, Option.toList_none, vx_nl, vx_isob, true_and, and_true, Nat.reduceAdd, Nat.reduceEqDiff, Nat.reduceLeDiff, Nat.zero_add, Nat.add_zero, not_false_eq_true, not_true_eq_false, Nat.reduceLT, Nat.reduceMul, Nat.reduceSub, Nat.zero_le, vx_up_s, false_implies, true_implies, forall_const, implies_true, imp_self, Nat.le_refl, forall_eq, forall_eq_apply_imp_iff, and_imp, exists_and_left, exists_eq_left, Nat.one_ne_zero, eq_self, true_or, or_true, Option.some.injEq, Value.int.injEq, Value.long.injEq, mF_g0, mF_g1, mF_g2, mF_g3, mF_g4, mF_g5, mF_g6, mF_g7, mF_g8, mF_g9, mF_g10, mF_g11, mF_g12, mF_g13, mF_g14, mF_g15, mF_g16, mF_g17, mF_g18, mF_g19, mF_g20, mF_g21, mF_g22, mF_g23, mF_g24, mF_g25, mF_g26, mF_g27, mF_g28, mF_g29, mF_g30, mF_g31, mF_g32, mF_g33, mF_g34, mF_s0, mF_s1, mF_s5, mF_s6, mF_s7, mF_s11, mF_s12, mF_s13, mF_s14, mF_s15, mF_s19, mF_s23, mF_s27, mF_s28, mF_s30, mF_s31, mF_len, bk_R_readPrisoner_0, bk_R_readPrisoner_20, bk_R_readPrisoner_21, bk_R_readPrisoner_32, bk_R_readPrisoner_42, bk_R_readPrisoner_52, bk_R_readPrisoner_54, bk_R_readPrisoner_63, bk_R_readPrisoner_134, bk_R_readPrisoner_135, r38, r47, vx_up_a]
    rw [ek, nI_clamp b1, show upd f3 k (o9 R.1) k = o9 R.1 from by simp [upd], nI_1, o9_n hb]
    have post : rS (vx_up (vx_up (rat H E F R.2 (nI I) rb (nI k)) 47 (.inl (8, upd f3 k (o9 R.1)))) 38 (mE E (nI (F + R.2)) (nI I) rb (nI (k + 1)))) E F R.2 (nI I) rb (nI (k + 1)) f1 (upd f2 k (nI kd)) (upd f3 k (o9 R.1)) ∧ vz h (vx_up (vx_up (rat H E F R.2 (nI I) rb (nI k)) 47 (.inl (8, upd f3 k (o9 R.1)))) 38 (mE E (nI (F + R.2)) (nI I) rb (nI (k + 1)))) := by
      refine ⟨⟨vx_up_s _ _ _, ?_, ?_, ?_⟩, (vH.tr (vz.up (by omega))).tr (vz.up (by omega))⟩
      · simp only [vx_up_a]; exact r45
      · simp only [vx_up_a]; exact r46
      · simp [vx_up_a]
    refine ⟨vp_in_nI (by omega) (by decide), vp_in_nI (by omega) (by decide), fun q => ⟨_, rfl, ?_, post⟩, fun q => ⟨_, rfl, ?_, post⟩⟩
    · rw [q, vx_bI_f (by simp)]
    · rw [vx_bI_t (by cases e : R.1 with | none => exact absurd e q | some v => rfl)]
  have h21 : X 21 [some (.ref 38), some (.int (nI (F + n))), none, none] [.int (if p < n then c p else 0)] z h := by
    have hpk : p_kind c n p = if (if p < n then c p else 0) = 112 then some 0 else if (if p < n then c p else 0) = 116 then some 1 else if (if p < n then c p else 0) = 98 then some 2 else none := by
      unfold p_kind
      by_cases e : p < n
      · simp only [e, true_and, if_true]
      · simp only [e, false_and, if_false]; rfl
    generalize (if p < n then c p else 0) = code at hpk
    refine vx_go hX [63] 9 ?_
    simp only [e_nil, e_iconst, e_bipush, e_sipush, e_lconst, e_ldc_w, e_ldc2_w, e_iload, e_iload_n, e_lload, e_lload_n, e_aload, e_aload_n, e_istore, e_istore_n, e_astore, e_astore_n, e_lstore, e_iinc, e_iadd, e_isub, e_imul, e_iand, e_ior, e_ishl, e_ishr, e_iushr, e_idiv, e_irem, e_ldiv, e_lrem, e_ineg, e_lshl, e_lcmp, e_i2l, e_i2b, e_i2s, e_dup_i, e_dup_r, e_dup2, e_if_eq, e_if_ne, e_if_lt, e_if_ge, e_if_gt, e_if_le, e_icmp_eq, e_icmp_ne, e_icmp_lt, e_icmp_ge, e_icmp_gt, e_icmp_le, e_ifnull_r, e_ifnull_n, e_goto, e_tsw, e_lsw, e_getf, e_puti, e_putz, e_puta, e_new, e_newa, e_anew, e_iald, e_sald, e_iast, e_aald, e_aast, e_alen, e_slen, e_inv, e_acp, e_min, e_max, e_abs, e_ins, e_oinit, e_inx, e_iret, e_lret, e_vret, vx_run_s, List.getElem?_cons_succ, List.getElem?_cons_zero, List.set_cons_succ, List.set_cons_zero, List.mem_cons, List.not_mem_nil, or_false, false_or, if_true, if_false, ite_true, ite_false, ↓reduceIte, reduceCtorEq, List.take_succ_cons, List.take_zero, List.drop_succ_cons, List.drop_zero, List.reverse_cons, List.reverse_nil, List.nil_append, List.cons_append, List.append_nil, List.length_cons, List.length_nil, Option.toList_some, Option.toList_none, vx_nl, vx_isob, true_and, and_true, Nat.reduceAdd, Nat.reduceEqDiff, Nat.reduceLeDiff, Nat.zero_add, Nat.add_zero, not_false_eq_true, not_true_eq_false, Nat.reduceLT, Nat.reduceMul, Nat.reduceSub, Nat.zero_le, vx_up_s, false_implies, true_implies, forall_const, implies_true, imp_self, Nat.le_refl, forall_eq, forall_eq_apply_imp_iff, and_imp, exists_and_left, exists_eq_left, Nat.one_ne_zero, eq_self, true_or, or_true, Option.some.injEq, Value.int.injEq, Value.long.injEq, mF_g0, mF_g1, mF_g2, mF_g3, mF_g4, mF_g5, mF_g6, mF_g7, mF_g8, mF_g9, mF_g10, mF_g11, mF_g12, mF_g13, mF_g14, mF_g15, mF_g16, mF_g17, mF_g18, mF_g19, mF_g20, mF_g21, mF_g22, mF_g23, mF_g24, mF_g25, mF_g26, mF_g27, mF_g28, mF_g29, mF_g30, mF_g31, mF_g32, mF_g33, mF_g34, mF_s0, mF_s1, mF_s5, mF_s6, mF_s7, mF_s11, mF_s12, mF_s13, mF_s14, mF_s15, mF_s19, mF_s23, mF_s27, mF_s28, mF_s30, mF_s31, mF_len, bk_R_readPrisoner_0, bk_R_readPrisoner_20, bk_R_readPrisoner_21, bk_R_readPrisoner_32, bk_R_readPrisoner_42, bk_R_readPrisoner_52, bk_R_readPrisoner_54, bk_R_readPrisoner_63, bk_R_readPrisoner_134, bk_R_readPrisoner_135]
    have no9 : ∀ kd : Nat, kd ≤ 2 → ¬ nI kd = -9 := fun kd hkd e => by
      have := congrArg Int32.toInt e
      rw [nI_toInt (by omega)] at this
      simp at this
    refine ⟨fun q1 => ⟨fun q2 => ⟨fun q3 => ?_, fun q3 => ⟨fun _ => h63 2 _ (by rw [hpk, if_neg q1, if_neg q2, if_pos q3]), fun q => absurd q (no9 2 (by omega))⟩⟩, fun q2 => ⟨fun _ => h63 1 _ (by rw [hpk, if_neg q1, if_pos q2]), fun q => absurd q (no9 1 (by omega))⟩⟩, fun q1 => ⟨fun _ => h63 0 _ (by rw [hpk, if_pos q1]), fun q => absurd q (no9 0 (by omega))⟩⟩
    refine ⟨0, rfl, ?_⟩
    unfold PrR
    rw [hpk, if_neg q1, if_neg q2, if_neg q3]
    exact ⟨rfl, rfl⟩
  refine vx_go hX [21] 9 ?_
  simp only [e_nil, e_iconst, e_bipush, e_sipush, e_lconst, e_ldc_w, e_ldc2_w, e_iload, e_iload_n, e_lload, e_lload_n, e_aload, e_aload_n, e_istore, e_istore_n, e_astore, e_astore_n, e_lstore, e_iinc, e_iadd, e_isub, e_imul, e_iand, e_ior, e_ishl, e_ishr, e_iushr, e_idiv, e_irem, e_ldiv, e_lrem, e_ineg, e_lshl, e_lcmp, e_i2l, e_i2b, e_i2s, e_dup_i, e_dup_r, e_dup2, e_if_eq, e_if_ne, e_if_lt, e_if_ge, e_if_gt, e_if_le, e_icmp_eq, e_icmp_ne, e_icmp_lt, e_icmp_ge, e_icmp_gt, e_icmp_le, e_ifnull_r, e_ifnull_n, e_goto, e_tsw, e_lsw, e_getf, e_puti, e_putz, e_puta, e_new, e_newa, e_anew, e_iald, e_sald, e_iast, e_aald, e_aast, e_alen, e_slen, e_inv, e_acp, e_min, e_max, e_abs, e_ins, e_oinit, e_inx, e_iret, e_lret, e_vret, vx_run_s, List.getElem?_cons_succ, List.getElem?_cons_zero, List.set_cons_succ, List.set_cons_zero, List.mem_cons, List.not_mem_nil, or_false, false_or, if_true, if_false, ite_true, ite_false, ↓reduceIte, reduceCtorEq, List.take_succ_cons, List.take_zero, List.drop_succ_cons, List.drop_zero, List.reverse_cons, List.reverse_nil, List.nil_append, List.cons_append, List.append_nil, List.length_cons, List.length_nil, Option.toList_some, Option.toList_none, vx_nl, vx_isob, true_and, and_true, Nat.reduceAdd, Nat.reduceEqDiff, Nat.reduceLeDiff, Nat.zero_add, Nat.add_zero, not_false_eq_true, not_true_eq_false, Nat.reduceLT, Nat.reduceMul, Nat.reduceSub, Nat.zero_le, vx_up_s, false_implies, true_implies, forall_const, implies_true, imp_self, Nat.le_refl, forall_eq, forall_eq_apply_imp_iff, and_imp, exists_and_left, exists_eq_left, Nat.one_ne_zero, eq_self, true_or, or_true, Option.some.injEq, Value.int.injEq, Value.long.injEq, mF_g0, mF_g1, mF_g2, mF_g3, mF_g4, mF_g5, mF_g6, mF_g7, mF_g8, mF_g9, mF_g10, mF_g11, mF_g12, mF_g13, mF_g14, mF_g15, mF_g16, mF_g17, mF_g18, mF_g19, mF_g20, mF_g21, mF_g22, mF_g23, mF_g24, mF_g25, mF_g26, mF_g27, mF_g28, mF_g29, mF_g30, mF_g31, mF_g32, mF_g33, mF_g34, mF_s0, mF_s1, mF_s5, mF_s6, mF_s7, mF_s11, mF_s12, mF_s13, mF_s14, mF_s15, mF_s19, mF_s23, mF_s27, mF_s28, mF_s30, mF_s31, mF_len, bk_R_readPrisoner_0, bk_R_readPrisoner_20, bk_R_readPrisoner_21, bk_R_readPrisoner_32, bk_R_readPrisoner_42, bk_R_readPrisoner_52, bk_R_readPrisoner_54, bk_R_readPrisoner_63, bk_R_readPrisoner_134, bk_R_readPrisoner_135, o, t1]
  rw [nI_clamp (by omega), nI_leI (by omega) (by omega)]
  by_cases e : p < n
  · rw [t3 p e]
    rw [if_pos e] at h21
    exact ⟨fun q => absurd q (by omega), fun _ => ⟨vp_in_nI (by omega) (by decide), h21⟩⟩
  · rw [if_neg e] at h21
    exact ⟨fun _ => h21, fun q => absurd (by omega) q⟩
end RD
