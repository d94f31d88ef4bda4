/-! the class's cells and the abstract state -/
abbrev vw_Sh : Type := Int32 × Nat × (Nat → Int32)
def ve (a b : Nat) (h h' : vx_H) : Prop := ∀ k, a ≤ k → k ≤ b → h' k = h k
theorem vf.ve {a b c d : Nat} {h h' : vx_H} (u : vf a b h h') (hc : d < a ∨ b < c) : ve c d h h' := fun k h1 h2 => u k (by omega)
def hSA (h : vx_H) : Prop := ∃ sa : Nat → Option Nat, h 1 = some (.inr (.inl (4, sa))) ∧ ∀ j, j < 4 → sa j = some (30 + 2 * j)
def hRd (h : vx_H) : Prop := ∃ (v : Value) (a b c : Int32), h 2 = some (.inr (.inr (2, [v, .int a, .int b, .int c])))
def hSp (h : vx_H) (y : Nat) : Prop := ∃ (a b c : Int32) (f1 f2 f3 : Nat → Int32), h y = some (.inr (.inr (5, [.ref (y + 1), .ref (y + 2), .ref (y + 3), .int a, .int b, .int c]))) ∧ h (y + 1) = some (.inl (5, f1)) ∧ h (y + 2) = some (.inl (8, f2)) ∧ h (y + 3) = some (.inl (8, f3))
/-- a sheet at its cells; lane -1: nothing -/
def hSh (h : vx_H) (x : Nat) (s : vw_Sh) : Prop := ∃ f : Nat → Int32, h x = some (.inr (.inr (1, [.ref (x + 1), .int s.1, .int (nI s.2.1)]))) ∧ h (x + 1) = some (.inl (60, f)) ∧ s.2.1 ≤ 60 ∧ (s.1 = -1 ∨ 0 ≤ s.1 ∧ s.1 ≤ 2) ∧ ∀ i, i < s.2.1 → f i = s.2.2 i
def hShs (h : vx_H) (SH : Nat → vw_Sh) : Prop := ∀ k, k < 4 → hSh h (30 + 2 * k) (SH k)
theorem hT.eq {h h' : vx_H} {t most : Nat} {R : vw_T} (u : hT h t most R) (w : ve t (t + 3) h h') : hT h' t most R := by
  obtain ⟨f1, f2, f3, u1, u2, u3, u4, u5⟩ := u
  exact ⟨f1, f2, f3, by rw [w t (by omega) (by omega)]; exact u1, by rw [w (t + 1) (by omega) (by omega)]; exact u2, by rw [w (t + 2) (by omega) (by omega)]; exact u3, by rw [w (t + 3) (by omega) (by omega)]; exact u4, u5⟩
theorem hC.eq {h h' : vx_H} {lf sf : Nat → Int32} {t : Nat} (u : hC h lf sf t) (w : ve 15 17 h h') : hC h' lf sf t := by
  obtain ⟨lf0, sf0, u1, u2, u3, u4⟩ := u
  exact ⟨lf0, sf0, by rw [w 15 (by omega) (by omega)]; exact u1, by rw [w 16 (by omega) (by omega)]; exact u2, by rw [w 17 (by omega) (by omega)]; exact u3, u4⟩
theorem hW0.eq {h h' : vx_H} (u : hW0 h) (w : ve 18 21 h h') : hW0 h' := by
  obtain ⟨bo, inn, lr, lm, rows, gf, vb, w1, w2, w3, w4⟩ := u
  exact ⟨bo, inn, lr, lm, rows, gf, vb, by rw [w 18 (by omega) (by omega)]; exact w1, by rw [w 19 (by omega) (by omega)]; exact w2, by rw [w 20 (by omega) (by omega)]; exact w3, by rw [w 21 (by omega) (by omega)]; exact w4⟩
theorem hYd.eq {h h' : vx_H} {y : Nat} {Y : vw_Y} {fg fk fp : Nat → Int32} (u : hYd h y Y fg fk fp) (w : ve 22 29 h h') : hYd h' y Y fg fk fp := by
  obtain ⟨u0, u1, u2, u3, u4, u5⟩ := u
  exact ⟨u0, by rw [w y (by omega) (by omega)]; exact u1, by rw [w (y + 1) (by omega) (by omega)]; exact u2, by rw [w (y + 2) (by omega) (by omega)]; exact u3, by rw [w (y + 3) (by omega) (by omega)]; exact u4, u5⟩
theorem hSp.eq {h h' : vx_H} {y : Nat} (u : hSp h y) (w : ve 22 29 h h') (hy : 22 ≤ y ∧ y ≤ 26) : hSp h' y := by
  obtain ⟨a, b, c, f1, f2, f3, u1, u2, u3, u4⟩ := u
  exact ⟨a, b, c, f1, f2, f3, by rw [w y (by omega) (by omega)]; exact u1, by rw [w (y + 1) (by omega) (by omega)]; exact u2, by rw [w (y + 2) (by omega) (by omega)]; exact u3, by rw [w (y + 3) (by omega) (by omega)]; exact u4⟩
theorem hSh.eq {h h' : vx_H} {x : Nat} {s : vw_Sh} (u : hSh h x s) (w : ve x (x + 1) h h') : hSh h' x s := by
  obtain ⟨f, u1, u2, u3⟩ := u
  exact ⟨f, by rw [w x (by omega) (by omega)]; exact u1, by rw [w (x + 1) (by omega) (by omega)]; exact u2, u3⟩
theorem hShs.eq {h h' : vx_H} {SH : Nat → vw_Sh} (u : hShs h SH) (w : ve 30 37 h h') : hShs h' SH := fun k hk => (u k hk).eq (fun j h1 h2 => w j (by omega) (by omega))
theorem hSA.eq {h h' : vx_H} (u : hSA h) (w : ve 1 1 h h') : hSA h' := by
  obtain ⟨sa, u1, u2⟩ := u
  exact ⟨sa, by rw [w 1 (by omega) (by omega)]; exact u1, u2⟩
theorem hRd.eq {h h' : vx_H} (u : hRd h) (w : ve 2 2 h h') : hRd h' := by
  obtain ⟨v, a, b, c, u1⟩ := u
  exact ⟨v, a, b, c, by rw [w 2 (by omega) (by omega)]; exact u1⟩
theorem hV.eq {h h' : vx_H} {y y' : Nat} {law tr fa : Int32} (u : hV h y y' law tr fa) (w : ve 0 0 h h') : hV h' y y' law tr fa := by
  unfold hV at u ⊢
  rw [w 0 (by omega) (by omega)]; exact u
def RV (h : vx_H) (Y : vw_Y) (law : Int32) (L S R : vw_T) (tr fa : Int32) (SH : Nat → vw_Sh) : Prop := ∃ y y' t : Nat, hV h y y' law tr fa ∧ ((y = 22 ∧ y' = 26) ∨ (y = 26 ∧ y' = 22)) ∧ hSA h ∧ hRd h ∧ hT h 3 6 L ∧ hT h 7 6 S ∧ hT h 11 8 R ∧ hC h (vw_ons L) (vw_ons S) t ∧ hW0 h ∧ (∃ fg fk fp, hYd h y Y fg fk fp) ∧ hSp h y' ∧ hShs h SH
def SOk (Y : vw_Y) (law : Int32) (L S R : vw_T) : Prop := yOk Y ∧ lOk (yB Y) L ∧ lOk (yN Y) S ∧ rOk Y R ∧ (law = 0 ∨ law = 1)
section RVS
variable {h h' : vx_H} {Y : vw_Y} {law : Int32} {L S R : vw_T} {tr fa : Int32} {SH : Nat → vw_Sh}
theorem RV.q (u : RV h Y law L S R tr fa SH) (o : SOk Y law L S R) : ∃ y, hQ h y Y law (vw_ons L) (vw_ons S) := by
  obtain ⟨y, y', t, u1, u2, u3, u4, u5, u6, u7, u8, u9, ⟨fg, fk, fp, u10⟩, u11, u12⟩ := u
  exact ⟨y, y', tr, fa, fg, fk, fp, t, u1, u10, u8, o.1, u9, fun s _ => vw_ons_set o.1.2.1 o.2.2.1 s⟩
theorem RV.mvq (u : RV h Y law L S R tr fa SH) (w : vf 18 21 h h') (w0 : hW0 h') : RV h' Y law L S R tr fa SH := by
  obtain ⟨y, y', t, u1, u2, u3, u4, u5, u6, u7, u8, u9, ⟨fg, fk, fp, u10⟩, u11, u12⟩ := u
  exact ⟨y, y', t, u1.eq (w.ve (by omega)), u2, u3.eq (w.ve (by omega)), u4.eq (w.ve (by omega)), u5.eq (w.ve (by omega)), u6.eq (w.ve (by omega)), u7.eq (w.ve (by omega)), u8.eq (w.ve (by omega)), w0, ⟨fg, fk, fp, u10.eq (w.ve (by omega))⟩, u11.eq (w.ve (by omega)) (by omega), u12.eq (w.ve (by omega))⟩
theorem lOk_ad {n : Nat} {T : vw_T} (o : lOk n T) {a b c : Nat} (h1 : a < n) (h2 : b ≤ c) (h3 : c ≤ 49) : lOk n (vw_ad T a b c) := by
  intro k hk
  have hk : k < T.1 + 1 := hk
  show vw_u T.2.1 T.1 a k < n ∧ vw_u T.2.2.1 T.1 b k ≤ vw_u T.2.2.2 T.1 c k ∧ vw_u T.2.2.2 T.1 c k ≤ 49
  by_cases e : k = T.1
  · subst e; simp only [vw_u_s]; omega
  · simp only [vw_u_n _ _ e]; exact o k (by omega)
def a_lock (n : Nat) (T : vw_T) (b f t : Int32) : Int32 := if 0 ≤ b ∧ b < nI n then (if 0 ≤ f ∧ t ≤ 49 ∧ f ≤ t then (if T.1 < 6 then nI T.1 else -4) else -2) else -1
def s_lock (n : Nat) (T : vw_T) (b f t : Int32) : vw_T := if 0 ≤ b ∧ b < nI n then (if 0 ≤ f ∧ t ≤ 49 ∧ f ≤ t then (if T.1 < 6 then vw_ad T b.toNatClampNeg f.toNatClampNeg t.toNatClampNeg else T) else T) else T
theorem nI_span {f t : Int32} (h : 0 ≤ f ∧ t ≤ 49 ∧ f ≤ t) : ∃ a b, a ≤ b ∧ b ≤ 49 ∧ f = nI a ∧ t = nI b ∧ f.toNatClampNeg = a ∧ t.toNatClampNeg = b := by
  obtain ⟨b, hb, rfl, e2⟩ := nI_arg2 (x := t) (n := 49) (by decide) ⟨Int32.le_trans h.1 h.2.2, h.2.1⟩
  obtain ⟨a, ha, rfl, e1⟩ := nI_arg2 (x := f) (n := b) (by omega) ⟨h.1, h.2.2⟩
  exact ⟨a, b, ha, hb, rfl, rfl, e1, e2⟩
theorem vw_lock (sz : Nat) (u : RV h Y law L S R tr fa SH) (o : SOk Y law L S R) (b f t : Int32) : vx_Ok m_V_lock [.ref 0, .int b, .int f, .int t] sz h (fun r h' => r = some (.int (a_lock (yB Y) L b f t)) ∧ RV h' Y law (s_lock (yB Y) L b f t) S R tr fa SH ∧ vf 0 37 h h') := by
  refine ok_V_lock [some (.ref 0), some (.int b), some (.int f), some (.int t), none] (Nat.le_of_ble_eq_true rfl) rfl (fun lim z X hX => ?_)
  have u0 := u
  obtain ⟨yq, uq⟩ := u.q o
  obtain ⟨y, y', t0, u1, u2, u3, u4, u5, u6, u7, u8, u9, ⟨fg, fk, fp, u10⟩, u11, u12⟩ := u
  have v1 := u1
  unfold hV at u1
  obtain ⟨f1, f2, f3, p1, p2, p3, p4, p5, p6, p7⟩ := id u5
  have hB := o.1.1
  refine vx_go hX [] 9 ?_
  simp only [e_nil, e_iconst, e_bipush, e_sipush, e_lconst, e_ldc_w, e_ldc2_w, e_iload, e_iload_n, e_lload, e_lload_n, e_aload, e_aload_n, e_istore, e_istore_n, e_astore, e_astore_n, e_lstore, e_iinc, e_iadd, e_isub, e_imul, e_iand, e_ior, e_ishl, e_ishr, e_iushr, e_idiv, e_irem, e_ldiv, e_lrem, e_ineg, e_lshl, e_lcmp, e_i2l, e_i2b, e_i2s, e_dup_i, e_dup_r, e_dup2, e_if_eq, e_if_ne, e_if_lt, e_if_ge, e_if_gt, e_if_le, e_icmp_eq, e_icmp_ne, e_icmp_lt, e_icmp_ge, e_icmp_gt, e_icmp_le, e_ifnull_r, e_ifnull_n, e_goto, e_tsw, e_lsw, e_getf, e_puti, e_putz, e_puta, e_new, e_newa, e_anew, e_iald, e_sald, e_iast, e_aald, e_aast, e_alen, e_slen, e_inv, e_acp, e_min, e_max, e_abs, e_ins, e_oinit, e_inx, e_iret, e_lret, e_vret, vx_run_s, List.getElem?_cons_succ, List.getElem?_cons_zero, List.set_cons_succ, List.set_cons_zero, List.mem_cons, List.not_mem_nil, or_false, false_or, if_true, if_false, ite_true, ite_false, ↓reduceIte, reduceCtorEq, List.take_succ_cons, List.take_zero, List.drop_succ_cons, List.drop_zero, List.reverse_cons, List.reverse_nil, List.nil_append, List.cons_append, List.append_nil, List.length_cons, List.length_nil, Option.toList_some, Option.toList_none, vx_nl, vx_isob, true_and, and_true, Nat.reduceAdd, Nat.reduceEqDiff, Nat.reduceLeDiff, Nat.zero_add, Nat.add_zero, not_false_eq_true, not_true_eq_false, Nat.reduceLT, Nat.reduceMul, Nat.reduceSub, Nat.zero_le, vx_up_s, false_implies, true_implies, forall_const, implies_true, imp_self, Nat.le_refl, forall_eq, forall_eq_apply_imp_iff, and_imp, exists_and_left, exists_eq_left, Nat.one_ne_zero, eq_self, true_or, or_true, Option.some.injEq, Value.int.injEq, Value.long.injEq, bk_V_lock_0, bk_V_lock_10, bk_V_lock_21, u1]
  refine vx_cl1 (vw_isBoard h _ uq b) ?_
  simp only [e_nil, e_iconst, e_bipush, e_sipush, e_lconst, e_ldc_w, e_ldc2_w, e_iload, e_iload_n, e_lload, e_lload_n, e_aload, e_aload_n, e_istore, e_istore_n, e_astore, e_astore_n, e_lstore, e_iinc, e_iadd, e_isub, e_imul, e_iand, e_ior, e_ishl, e_ishr, e_iushr, e_idiv, e_irem, e_ldiv, e_lrem, e_ineg, e_lshl, e_lcmp, e_i2l, e_i2b, e_i2s, e_dup_i, e_dup_r, e_dup2, e_if_eq, e_if_ne, e_if_lt, e_if_ge, e_if_gt, e_if_le, e_icmp_eq, e_icmp_ne, e_icmp_lt, e_icmp_ge, e_icmp_gt, e_icmp_le, e_ifnull_r, e_ifnull_n, e_goto, e_tsw, e_lsw, e_getf, e_puti, e_putz, e_puta, e_new, e_newa, e_anew, e_iald, e_sald, e_iast, e_aald, e_aast, e_alen, e_slen, e_inv, e_acp, e_min, e_max, e_abs, e_ins, e_oinit, e_inx, e_iret, e_lret, e_vret, vx_run_s, List.getElem?_cons_succ, List.getElem?_cons_zero, List.set_cons_succ, List.set_cons_zero, List.mem_cons, List.not_mem_nil, or_false, false_or, if_true, if_false, ite_true, ite_false, ↓reduceIte, reduceCtorEq, List.take_succ_cons, List.take_zero, List.drop_succ_cons, List.drop_zero, List.reverse_cons, List.reverse_nil, List.nil_append, List.cons_append, List.append_nil, List.length_cons, List.length_nil, Option.toList_some, Option.toList_none, vx_nl, vx_isob, true_and, and_true, Nat.reduceAdd, Nat.reduceEqDiff, Nat.reduceLeDiff, Nat.zero_add, Nat.add_zero, not_false_eq_true, not_true_eq_false, Nat.reduceLT, Nat.reduceMul, Nat.reduceSub, Nat.zero_le, vx_up_s, false_implies, true_implies, forall_const, implies_true, imp_self, Nat.le_refl, forall_eq, forall_eq_apply_imp_iff, and_imp, exists_and_left, exists_eq_left, Nat.one_ne_zero, eq_self, true_or, or_true, Option.some.injEq, Value.int.injEq, Value.long.injEq, bk_V_lock_0, bk_V_lock_10, bk_V_lock_21, vx_bI_0, u1]
  unfold a_lock s_lock
  refine ⟨fun q => ?_, fun q => ⟨by rw [if_neg q], by rw [if_neg q]; exact u0, vf.rf⟩⟩
  rw [Classical.not_not] at q
  rw [if_pos q, if_pos q]
  refine vx_cl1 (vw_isSpan h _ f t) ?_
  simp only [e_nil, e_iconst, e_bipush, e_sipush, e_lconst, e_ldc_w, e_ldc2_w, e_iload, e_iload_n, e_lload, e_lload_n, e_aload, e_aload_n, e_istore, e_istore_n, e_astore, e_astore_n, e_lstore, e_iinc, e_iadd, e_isub, e_imul, e_iand, e_ior, e_ishl, e_ishr, e_iushr, e_idiv, e_irem, e_ldiv, e_lrem, e_ineg, e_lshl, e_lcmp, e_i2l, e_i2b, e_i2s, e_dup_i, e_dup_r, e_dup2, e_if_eq, e_if_ne, e_if_lt, e_if_ge, e_if_gt, e_if_le, e_icmp_eq, e_icmp_ne, e_icmp_lt, e_icmp_ge, e_icmp_gt, e_icmp_le, e_ifnull_r, e_ifnull_n, e_goto, e_tsw, e_lsw, e_getf, e_puti, e_putz, e_puta, e_new, e_newa, e_anew, e_iald, e_sald, e_iast, e_aald, e_aast, e_alen, e_slen, e_inv, e_acp, e_min, e_max, e_abs, e_ins, e_oinit, e_inx, e_iret, e_lret, e_vret, vx_run_s, List.getElem?_cons_succ, List.getElem?_cons_zero, List.set_cons_succ, List.set_cons_zero, List.mem_cons, List.not_mem_nil, or_false, false_or, if_true, if_false, ite_true, ite_false, ↓reduceIte, reduceCtorEq, List.take_succ_cons, List.take_zero, List.drop_succ_cons, List.drop_zero, List.reverse_cons, List.reverse_nil, List.nil_append, List.cons_append, List.append_nil, List.length_cons, List.length_nil, Option.toList_some, Option.toList_none, vx_nl, vx_isob, true_and, and_true, Nat.reduceAdd, Nat.reduceEqDiff, Nat.reduceLeDiff, Nat.zero_add, Nat.add_zero, not_false_eq_true, not_true_eq_false, Nat.reduceLT, Nat.reduceMul, Nat.reduceSub, Nat.zero_le, vx_up_s, false_implies, true_implies, forall_const, implies_true, imp_self, Nat.le_refl, forall_eq, forall_eq_apply_imp_iff, and_imp, exists_and_left, exists_eq_left, Nat.one_ne_zero, eq_self, true_or, or_true, Option.some.injEq, Value.int.injEq, Value.long.injEq, bk_V_lock_0, bk_V_lock_10, bk_V_lock_21, vx_bI_0, u1, p1]
  refine ⟨fun q2 => ?_, fun q2 => ⟨by rw [if_neg q2], by rw [if_neg q2]; exact u0, vf.rf⟩⟩
  rw [Classical.not_not] at q2
  rw [if_pos q2, if_pos q2]
  obtain ⟨bn, hbn, rfl, e1⟩ := nI_arg (by omega) q
  obtain ⟨fn, tn, h1, h2, rfl, rfl, e2, e3⟩ := nI_span q2
  rw [e1, e2, e3]
  refine ⟨_, vw_add h _ u5 bn fn tn, ?_⟩
  rintro _ ha ⟨rfl, hva, hTa⟩
  have u1a : ha 0 = _ := (hva 0 (by omega)).trans u1
  obtain ⟨lf0, sf0, c1, c2, c3, c4⟩ := u8
  have c1a : ha 15 = _ := (hva 15 (by omega)).trans c1
  simp only [e_nil, e_iconst, e_bipush, e_sipush, e_lconst, e_ldc_w, e_ldc2_w, e_iload, e_iload_n, e_lload, e_lload_n, e_aload, e_aload_n, e_istore, e_istore_n, e_astore, e_astore_n, e_lstore, e_iinc, e_iadd, e_isub, e_imul, e_iand, e_ior, e_ishl, e_ishr, e_iushr, e_idiv, e_irem, e_ldiv, e_lrem, e_ineg, e_lshl, e_lcmp, e_i2l, e_i2b, e_i2s, e_dup_i, e_dup_r, e_dup2, e_if_eq, e_if_ne, e_if_lt, e_if_ge, e_if_gt, e_if_le, e_icmp_eq, e_icmp_ne, e_icmp_lt, e_icmp_ge, e_icmp_gt, e_icmp_le, e_ifnull_r, e_ifnull_n, e_goto, e_tsw, e_lsw, e_getf, e_puti, e_putz, e_puta, e_new, e_newa, e_anew, e_iald, e_sald, e_iast, e_aald, e_aast, e_alen, e_slen, e_inv, e_acp, e_min, e_max, e_abs, e_ins, e_oinit, e_inx, e_iret, e_lret, e_vret, vx_run_s, List.getElem?_cons_succ, List.getElem?_cons_zero, List.set_cons_succ, List.set_cons_zero, List.mem_cons, List.not_mem_nil, or_false, false_or, if_true, if_false, ite_true, ite_false, ↓reduceIte, reduceCtorEq, List.take_succ_cons, List.take_zero, List.drop_succ_cons, List.drop_zero, List.reverse_cons, List.reverse_nil, List.nil_append, List.cons_append, List.append_nil, List.length_cons, List.length_nil, Option.toList_some, Option.toList_none, vx_nl, vx_isob, true_and, and_true, Nat.reduceAdd, Nat.reduceEqDiff, Nat.reduceLeDiff, Nat.zero_add, Nat.add_zero, not_false_eq_true, not_true_eq_false, Nat.reduceLT, Nat.reduceMul, Nat.reduceSub, Nat.zero_le, vx_up_s, false_implies, true_implies, forall_const, implies_true, imp_self, Nat.le_refl, forall_eq, forall_eq_apply_imp_iff, and_imp, exists_and_left, exists_eq_left, Nat.one_ne_zero, eq_self, true_or, or_true, Option.some.injEq, Value.int.injEq, Value.long.injEq, bk_V_lock_0, bk_V_lock_10, bk_V_lock_21, u1a, c1a]
  have oL : lOk (yB Y) (if L.1 < 6 then vw_ad L bn fn tn else L) := by
    split
    · exact lOk_ad o.2.1 hbn h1 h2
    · exact o.2.1
  refine ⟨_, vw_mark ha _ hTa (u6.eq (hva.ve (by omega))) oL o.2.2.1 lf0 sf0 _ c1a ((hva 16 (by omega)).trans c2) ((hva 17 (by omega)).trans c3), ?_⟩
  rintro _ hm ⟨rfl, hvm, tm, hcm⟩
  simp only [e_nil, e_iconst, e_bipush, e_sipush, e_lconst, e_ldc_w, e_ldc2_w, e_iload, e_iload_n, e_lload, e_lload_n, e_aload, e_aload_n, e_istore, e_istore_n, e_astore, e_astore_n, e_lstore, e_iinc, e_iadd, e_isub, e_imul, e_iand, e_ior, e_ishl, e_ishr, e_iushr, e_idiv, e_irem, e_ldiv, e_lrem, e_ineg, e_lshl, e_lcmp, e_i2l, e_i2b, e_i2s, e_dup_i, e_dup_r, e_dup2, e_if_eq, e_if_ne, e_if_lt, e_if_ge, e_if_gt, e_if_le, e_icmp_eq, e_icmp_ne, e_icmp_lt, e_icmp_ge, e_icmp_gt, e_icmp_le, e_ifnull_r, e_ifnull_n, e_goto, e_tsw, e_lsw, e_getf, e_puti, e_putz, e_puta, e_new, e_newa, e_anew, e_iald, e_sald, e_iast, e_aald, e_aast, e_alen, e_slen, e_inv, e_acp, e_min, e_max, e_abs, e_ins, e_oinit, e_inx, e_iret, e_lret, e_vret, vx_run_s, List.getElem?_cons_succ, List.getElem?_cons_zero, List.set_cons_succ, List.set_cons_zero, List.mem_cons, List.not_mem_nil, or_false, false_or, if_true, if_false, ite_true, ite_false, ↓reduceIte, reduceCtorEq, List.take_succ_cons, List.take_zero, List.drop_succ_cons, List.drop_zero, List.reverse_cons, List.reverse_nil, List.nil_append, List.cons_append, List.append_nil, List.length_cons, List.length_nil, Option.toList_some, Option.toList_none, vx_nl, vx_isob, true_and, and_true, Nat.reduceAdd, Nat.reduceEqDiff, Nat.reduceLeDiff, Nat.zero_add, Nat.add_zero, not_false_eq_true, not_true_eq_false, Nat.reduceLT, Nat.reduceMul, Nat.reduceSub, Nat.zero_le, vx_up_s, false_implies, true_implies, forall_const, implies_true, imp_self, Nat.le_refl, forall_eq, forall_eq_apply_imp_iff, and_imp, exists_and_left, exists_eq_left, Nat.one_ne_zero, eq_self, true_or, or_true, Option.some.injEq, Value.int.injEq, Value.long.injEq, bk_V_lock_0, bk_V_lock_10, bk_V_lock_21]
  refine ⟨⟨y, y', tm, (v1.eq (hva.ve (by omega))).eq (hvm.ve (by omega)), u2, (u3.eq (hva.ve (by omega))).eq (hvm.ve (by omega)), (u4.eq (hva.ve (by omega))).eq (hvm.ve (by omega)), hTa.eq (hvm.ve (by omega)), (u6.eq (hva.ve (by omega))).eq (hvm.ve (by omega)), (u7.eq (hva.ve (by omega))).eq (hvm.ve (by omega)), hcm, (u9.eq (hva.ve (by omega))).eq (hvm.ve (by omega)), ⟨fg, fk, fp, (u10.eq (hva.ve (by omega))).eq (hvm.ve (by omega))⟩, (u11.eq (hva.ve (by omega)) (by omega)).eq (hvm.ve (by omega)) (by omega), (u12.eq (hva.ve (by omega))).eq (hvm.ve (by omega))⟩, (hva.wk (by omega) (by omega)).tr (hvm.wk (by omega) (by omega))⟩
end RVS
