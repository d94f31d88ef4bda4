/-! the reference: the text, small -/
abbrev vE : Type := Int32 × Int32 × Int32 × Int32 × Int32 × Int32 × Int32 × Int32 × Int32 × Int32 × Int32 × Int32
/-- the object but for what a reading changes -/
def mE (E : vE) (ap ri rb rm : Int32) : vx_C := .inr (.inr (7, mF E.1 E.2.1 E.2.2.1 E.2.2.2.1 E.2.2.2.2.1 E.2.2.2.2.2.1 ap ri rb rm E.2.2.2.2.2.2.1 E.2.2.2.2.2.2.2.1 E.2.2.2.2.2.2.2.2.1 E.2.2.2.2.2.2.2.2.2.1 E.2.2.2.2.2.2.2.2.2.2.1 E.2.2.2.2.2.2.2.2.2.2.2))
def tX (h : vx_H) (c : Nat → Int32) (F n : Nat) : Prop := ∃ fc : Nat → Int32, h 41 = some (.inl (240, fc)) ∧ F + n ≤ 240 ∧ ∀ q, q < n → fc (F + q) = c q
def rat (h : vx_H) (E : vE) (F p : Nat) (ri rb rm : Int32) : vx_H := vx_up h 38 (mE E (nI (F + p)) ri rb rm)
def o9 (o : Option Nat) : Int32 := match o with | none => -9 | some v => nI v
theorem o9_n {o : Option Nat} (h : ∀ v, o = some v → v ≤ 99) : o9 o = -9 ↔ o = none := by
  cases o with
  | none => exact ⟨fun _ => rfl, fun _ => rfl⟩
  | some v =>
    have := h v rfl
    constructor
    · intro e
      have e2 := congrArg Int32.toInt (show nI v = -9 from e)
      rw [nI_toInt (by omega)] at e2
      simp at e2
    · intro e; cases e
section RD
variable {h : vx_H} {E : vE} {F n p : Nat} {ri rb rm : Int32} {c : Nat → Int32}
theorem tX.at (t : tX h c F n) : tX (rat h E F p ri rb rm) c F n := by
  obtain ⟨fc, t1, t2, t3⟩ := t
  exact ⟨fc, (vx_up_n _ _ (by decide)).trans t1, t2, t3⟩
theorem rat_at (q : Nat) (ri' rb' rm' : Int32) : rat (rat h E F p ri rb rm) E F q ri' rb' rm' = rat h E F q ri' rb' rm' := vx_up_up _ _ _ _
theorem rat_o : rat h E F p ri rb rm 38 = some (mE E (nI (F + p)) ri rb rm) := vx_up_s _ _ _
theorem rat_id (o : h 38 = some (mE E (nI (F + p)) ri rb rm)) : rat h E F p ri rb rm = h := vx_up_id o
set_option maxRecDepth 100000 in
set_option maxHeartbeats 4000000 in
theorem rv_isSign (sz : Nat) (o : h 38 = some (mE E (nI (F + p)) ri rb rm)) (t : tX h c F n) (hp : p ≤ n) (v : Int32) : vx_Ok m_R_isSign [.ref 38, .int (nI (F + n)), .int v] sz h (fun r h' => r = some (.int (vx_bI (p < n ∧ c p = v))) ∧ h' = rat h E F (if p < n ∧ c p = v then p + 1 else p) ri rb rm) := by
  refine ok_R_isSign [some (.ref 38), some (.int (nI (F + n))), some (.int v)] (Nat.le_of_ble_eq_true rfl) rfl (fun lim z X hX => ?_)
  obtain ⟨fc, t1, t2, t3⟩ := t
  have o0 := o
  unfold mE at o
  refine vx_go hX [] 9 ?_
  simp only [e_nil, e_iconst, e_bipush, e_sipush, e_lconst, e_ldc_w, e_ldc2_w, e_iload, e_iload_n, e_lload, e_lload_n, e_aload, e_aload_n, e_istore, e_istore_n, e_astore, e_astore_n, e_lstore, e_iinc, e_iadd, e_isub, e_imul, e_iand, e_ior, e_ishl, e_ishr, e_iushr, e_idiv, e_irem, e_ldiv, e_lrem, e_ineg, e_lshl, e_lcmp, e_i2l, e_i2b, e_i2s, e_dup_i, e_dup_r, e_dup2, e_if_eq, e_if_ne, e_if_lt, e_if_ge, e_if_gt, e_if_le, e_icmp_eq, e_icmp_ne, e_icmp_lt, e_icmp_ge, e_icmp_gt, e_icmp_le, e_ifnull_r, e_ifnull_n, e_goto, e_tsw, e_lsw, e_getf, e_puti, e_putz, e_puta, e_new, e_newa, e_anew, e_iald, e_sald, e_iast, e_aald, e_aast, e_alen, e_slen, e_inv, e_acp, e_min, e_max, e_abs, e_ins, e_oinit, e_inx, e_iret, e_lret, e_vret, vx_run_s, List.getElem?_cons_succ, List.getElem?_cons_zero, List.set_cons_succ, List.set_cons_zero, List.mem_cons, List.not_mem_nil, or_false, false_or, if_true, if_false, ite_true, ite_false, ↓reduceIte, reduceCtorEq, List.take_succ_cons, List.take_zero, List.drop_succ_cons, List.drop_zero, List.reverse_cons, List.reverse_nil, List.nil_append, List.cons_append, List.append_nil, List.length_cons, List.length_nil, Option.toList_some, Option.toList_none, vx_nl, vx_isob, true_and, and_true, Nat.reduceAdd, Nat.reduceEqDiff, Nat.reduceLeDiff, Nat.zero_add, Nat.add_zero, not_false_eq_true, not_true_eq_false, Nat.reduceLT, Nat.reduceMul, Nat.reduceSub, Nat.zero_le, vx_up_s, false_implies, true_implies, forall_const, implies_true, imp_self, Nat.le_refl, forall_eq, forall_eq_apply_imp_iff, and_imp, exists_and_left, exists_eq_left, Nat.one_ne_zero, eq_self, true_or, or_true, Option.some.injEq, Value.int.injEq, Value.long.injEq, mF_g0, mF_g1, mF_g2, mF_g3, mF_g4, mF_g5, mF_g6, mF_g7, mF_g8, mF_g9, mF_g10, mF_g11, mF_g12, mF_g13, mF_g14, mF_g15, mF_g16, mF_g17, mF_g18, mF_g19, mF_g20, mF_g21, mF_g22, mF_g23, mF_g24, mF_g25, mF_g26, mF_g27, mF_g28, mF_g29, mF_g30, mF_g31, mF_g32, mF_g33, mF_g34, mF_s0, mF_s1, mF_s5, mF_s6, mF_s7, mF_s11, mF_s12, mF_s13, mF_s14, mF_s15, mF_s19, mF_s23, mF_s27, mF_s28, mF_s30, mF_s31, mF_len, bk_R_isSign_0, bk_R_isSign_21, bk_R_isSign_23, o, t1, nI_1, Nat.add_assoc]
  rw [nI_clamp (by omega), nI_leI (by omega) (by omega)]
  by_cases e : p < n
  · rw [t3 p e]
    refine ⟨fun q => absurd q (by omega), fun _ => ⟨vp_in_nI (by omega) (by decide), fun q => ?_, fun q => ?_⟩⟩
    · have hc : p < n ∧ c p = v := ⟨e, q⟩
      rw [vx_bI_t hc, if_pos hc]
      exact ⟨rfl, rfl⟩
    · have hc : ¬ (p < n ∧ c p = v) := fun d => q d.2
      rw [vx_bI_f hc, if_neg hc, rat_id o0]
      exact ⟨rfl, rfl⟩
  · have hc : ¬ (p < n ∧ c p = v) := fun d => e d.1
    rw [vx_bI_f hc, if_neg hc, rat_id o0]
    exact ⟨fun _ => ⟨rfl, rfl⟩, fun q => absurd (by omega) q⟩
theorem o9_s (d : Nat) : o9 (some d) = nI d := rfl
theorem dig48 (d : Nat) : nI (48 + d) - 48 = nI d := by
  have e : nI (48 + d) - nI 48 = nI (48 + d - 48) := nI_sub (by omega)
  rw [Nat.add_sub_cancel_left] at e
  exact e
theorem dig_rng {lo hi : Nat} (h2 : hi ≤ 9) (e : p < n) (q1 : nI (48 + lo) ≤ c p) (q2 : c p ≤ nI (48 + hi)) (h1 : lo ≤ 9) : ¬ p_dig c n p = none := by
  intro ed
  have a1 : nI 48 ≤ nI (48 + lo) := nI_le (by omega) (by omega)
  have a2 : nI (48 + hi) ≤ nI 57 := nI_le (by omega) (by omega)
  have a3 : 48 ≤ c p := Int32.le_trans a1 q1
  have a4 : c p ≤ 57 := Int32.le_trans q2 a2
  unfold p_dig at ed
  rw [if_pos ⟨e, a3, a4⟩] at ed
  cases ed
def p_dg (c : Nat → Int32) (n p lo hi : Nat) : Option Nat := match p_dig c n p with
  | some d => if lo ≤ d ∧ d ≤ hi then some d else none
  | none => none
set_option maxRecDepth 100000 in
set_option maxHeartbeats 4000000 in
theorem rv_digit (sz : Nat) (o : h 38 = some (mE E (nI (F + p)) ri rb rm)) (t : tX h c F n) (hp : p ≤ n) (lo hi : Nat) (h1 : lo ≤ 9) (h2 : hi ≤ 9) : vx_Ok m_R_digit [.ref 38, .int (nI (F + n)), .int (nI lo), .int (nI hi)] sz h (fun r h' => r = some (.int (o9 (p_dg c n p lo hi))) ∧ h' = rat h E F (if (p_dg c n p lo hi).isSome = true then p + 1 else p) ri rb rm) := by
  refine ok_R_digit [some (.ref 38), some (.int (nI (F + n))), some (.int (nI lo)), some (.int (nI hi))] (Nat.le_of_ble_eq_true rfl) rfl (fun lim z X hX => ?_)
  obtain ⟨fc, t1, t2, t3⟩ := t
  have o0 := o
  unfold mE at o
  have e48 : ∀ x : Nat, (48 : Int32) + nI x = nI (48 + x) := fun x => by rw [show (48 : Int32) = nI 48 from rfl, nI_add]
  refine vx_go hX [] 9 ?_
  simp only [e_nil, e_iconst, e_bipush, e_sipush, e_lconst, e_ldc_w, e_ldc2_w, e_iload, e_iload_n, e_lload, e_lload_n, e_aload, e_aload_n, e_istore, e_istore_n, e_astore, e_astore_n, e_lstore, e_iinc, e_iadd, e_isub, e_imul, e_iand, e_ior, e_ishl, e_ishr, e_iushr, e_idiv, e_irem, e_ldiv, e_lrem, e_ineg, e_lshl, e_lcmp, e_i2l, e_i2b, e_i2s, e_dup_i, e_dup_r, e_dup2, e_if_eq, e_if_ne, e_if_lt, e_if_ge, e_if_gt, e_if_le, e_icmp_eq, e_icmp_ne, e_icmp_lt, e_icmp_ge, e_icmp_gt, e_icmp_le, e_ifnull_r, e_ifnull_n, e_goto, e_tsw, e_lsw, e_getf, e_puti, e_putz, e_puta, e_new, e_newa, e_anew, e_iald, e_sald, e_iast, e_aald, e_aast, e_alen, e_slen, e_inv, e_acp, e_min, e_max, e_abs, e_ins, e_oinit, e_inx, e_iret, e_lret, e_vret, vx_run_s, List.getElem?_cons_succ, List.getElem?_cons_zero, List.set_cons_succ, List.set_cons_zero, List.mem_cons, List.not_mem_nil, or_false, false_or, if_true, if_false, ite_true, ite_false, ↓reduceIte, reduceCtorEq, List.take_succ_cons, List.take_zero, List.drop_succ_cons, List.drop_zero, List.reverse_cons, List.reverse_nil, List.nil_append, List.cons_append, List.append_nil, List.length_cons, List.length_nil, Option.toList_some, Option.toList_none, vx_nl, vx_isob, true_and, and_true, Nat.reduceAdd, Nat.reduceEqDiff, Nat.reduceLeDiff, Nat.zero_add, Nat.add_zero, not_false_eq_true, not_true_eq_false, Nat.reduceLT, Nat.reduceMul, Nat.reduceSub, Nat.zero_le, vx_up_s, false_implies, true_implies, forall_const, implies_true, imp_self, Nat.le_refl, forall_eq, forall_eq_apply_imp_iff, and_imp, exists_and_left, exists_eq_left, Nat.one_ne_zero, eq_self, true_or, or_true, Option.some.injEq, Value.int.injEq, Value.long.injEq, mF_g0, mF_g1, mF_g2, mF_g3, mF_g4, mF_g5, mF_g6, mF_g7, mF_g8, mF_g9, mF_g10, mF_g11, mF_g12, mF_g13, mF_g14, mF_g15, mF_g16, mF_g17, mF_g18, mF_g19, mF_g20, mF_g21, mF_g22, mF_g23, mF_g24, mF_g25, mF_g26, mF_g27, mF_g28, mF_g29, mF_g30, mF_g31, mF_g32, mF_g33, mF_g34, mF_s0, mF_s1, mF_s5, mF_s6, mF_s7, mF_s11, mF_s12, mF_s13, mF_s14, mF_s15, mF_s19, mF_s23, mF_s27, mF_s28, mF_s30, mF_s31, mF_len, bk_R_digit_0, bk_R_digit_31, bk_R_digit_34, o, t1]
  rw [nI_clamp (by omega), nI_leI (by omega) (by omega), e48, e48]
  have no : p_dg c n p lo hi = none → -9 = o9 (p_dg c n p lo hi) ∧ h = rat h E F (if (p_dg c n p lo hi).isSome = true then p + 1 else p) ri rb rm := by
    intro e
    rw [e, if_neg (by decide), rat_id o0]
    exact ⟨rfl, rfl⟩
  by_cases e : p < n
  · rw [t3 p e]
    refine ⟨fun q => absurd q (by omega), fun _ => ⟨vp_in_nI (by omega) (by decide), vx_cl1 (rv_within h _ _ _ _) ?_⟩⟩
    have e11 : nI (F + p) + 1 - 1 = nI (F + p) := by rw [nI_1, nI_s1]
    have e12 : nI (F + p) + 1 = nI (F + (p + 1)) := by rw [nI_1, Nat.add_assoc]
    simp only [e_nil, e_iconst, e_bipush, e_sipush, e_lconst, e_ldc_w, e_ldc2_w, e_iload, e_iload_n, e_lload, e_lload_n, e_aload, e_aload_n, e_istore, e_istore_n, e_astore, e_astore_n, e_lstore, e_iinc, e_iadd, e_isub, e_imul, e_iand, e_ior, e_ishl, e_ishr, e_iushr, e_idiv, e_irem, e_ldiv, e_lrem, e_ineg, e_lshl, e_lcmp, e_i2l, e_i2b, e_i2s, e_dup_i, e_dup_r, e_dup2, e_if_eq, e_if_ne, e_if_lt, e_if_ge, e_if_gt, e_if_le, e_icmp_eq, e_icmp_ne, e_icmp_lt, e_icmp_ge, e_icmp_gt, e_icmp_le, e_ifnull_r, e_ifnull_n, e_goto, e_tsw, e_lsw, e_getf, e_puti, e_putz, e_puta, e_new, e_newa, e_anew, e_iald, e_sald, e_iast, e_aald, e_aast, e_alen, e_slen, e_inv, e_acp, e_min, e_max, e_abs, e_ins, e_oinit, e_inx, e_iret, e_lret, e_vret, vx_run_s, List.getElem?_cons_succ, List.getElem?_cons_zero, List.set_cons_succ, List.set_cons_zero, List.mem_cons, List.not_mem_nil, or_false, false_or, if_true, if_false, ite_true, ite_false, ↓reduceIte, reduceCtorEq, List.take_succ_cons, List.take_zero, List.drop_succ_cons, List.drop_zero, List.reverse_cons, List.reverse_nil, List.nil_append, List.cons_append, List.append_nil, List.length_cons, List.length_nil, Option.toList_some, Option.toList_none, vx_nl, vx_isob, true_and, and_true, Nat.reduceAdd, Nat.reduceEqDiff, Nat.reduceLeDiff, Nat.zero_add, Nat.add_zero, not_false_eq_true, not_true_eq_false, Nat.reduceLT, Nat.reduceMul, Nat.reduceSub, Nat.zero_le, vx_up_s, false_implies, true_implies, forall_const, implies_true, imp_self, Nat.le_refl, forall_eq, forall_eq_apply_imp_iff, and_imp, exists_and_left, exists_eq_left, Nat.one_ne_zero, eq_self, true_or, or_true, Option.some.injEq, Value.int.injEq, Value.long.injEq, mF_g0, mF_g1, mF_g2, mF_g3, mF_g4, mF_g5, mF_g6, mF_g7, mF_g8, mF_g9, mF_g10, mF_g11, mF_g12, mF_g13, mF_g14, mF_g15, mF_g16, mF_g17, mF_g18, mF_g19, mF_g20, mF_g21, mF_g22, mF_g23, mF_g24, mF_g25, mF_g26, mF_g27, mF_g28, mF_g29, mF_g30, mF_g31, mF_g32, mF_g33, mF_g34, mF_s0, mF_s1, mF_s5, mF_s6, mF_s7, mF_s11, mF_s12, mF_s13, mF_s14, mF_s15, mF_s19, mF_s23, mF_s27, mF_s28, mF_s30, mF_s31, mF_len, bk_R_digit_0, bk_R_digit_31, bk_R_digit_34, o, t1, vx_bI_0, vx_up_a]
    rw [e11, e12, nI_clamp (by omega), t3 p e]
    cases ed : p_dig c n p with
    | none =>
      have hno : p_dg c n p lo hi = none := by unfold p_dg; rw [ed]
      refine ⟨fun q => ?_, fun q => no hno⟩
      rw [Classical.not_not] at q
      exact absurd ed (dig_rng h2 e q.1 q.2 h1)
    | some d =>
      obtain ⟨d1, d2, d3⟩ := p_dig_some ed
      have hdg : p_dg c n p lo hi = if lo ≤ d ∧ d ≤ hi then some d else none := by unfold p_dg; rw [ed]
      rw [d3, nI_leI (by omega) (by omega), nI_leI (by omega) (by omega)]
      refine ⟨fun q => ?_, fun q => no (by rw [hdg, if_neg (by omega)])⟩
      rw [Classical.not_not] at q
      rw [hdg, if_pos (by omega), if_pos (show (some d).isSome = true from rfl)]
      refine ⟨vp_in_nI (by omega) (by decide), ?_, rfl⟩
      rw [dig48, o9_s]
  · have hno : p_dg c n p lo hi = none := by
      unfold p_dg
      rw [show p_dig c n p = none from if_neg (fun d => e d.1)]
    exact ⟨fun _ => no hno, fun q => absurd (by omega) q⟩
theorem p_dg_le {lo hi d : Nat} (e : p_dg c n p lo hi = some d) : d ≤ 9 ∧ p < n ∧ lo ≤ d ∧ d ≤ hi ∧ p_dig c n p = some d := by
  unfold p_dg at e
  cases ed : p_dig c n p with
  | none => rw [ed] at e; cases e
  | some x =>
    rw [ed] at e
    dsimp only at e
    obtain ⟨d1, d2, d3⟩ := p_dig_some ed
    split at e
    · cases e; rename_i q; exact ⟨d2, d1, q.1, q.2, rfl⟩
    · cases e
/-- the number by its digits as the reference reads them -/
theorem p_num_dg {lo hi : Nat} (hlh : lo ≤ hi) (hh : hi ≤ 99) : p_num c n lo hi p = (match p_dg c n p (lo / 10) (hi / 10) with
    | none => (none, p)
    | some d => match p_dg c n (p + 1) (if d = lo / 10 then lo % 10 else 0) (if d = hi / 10 then hi % 10 else 9) with
      | none => (none, p + 1)
      | some e => (some (10 * d + e), p + 2)) := by
  unfold p_num
  cases ed : p_dig c n p with
  | none =>
    have : p_dg c n p (lo / 10) (hi / 10) = none := by unfold p_dg; rw [ed]
    rw [this]
  | some d =>
    obtain ⟨d1, d2, d3⟩ := p_dig_some ed
    have hdg : p_dg c n p (lo / 10) (hi / 10) = if lo / 10 ≤ d ∧ d ≤ hi / 10 then some d else none := by unfold p_dg; rw [ed]
    rw [hdg]
    dsimp only
    by_cases q : lo / 10 ≤ d ∧ d ≤ hi / 10
    · rw [if_pos (by omega), if_pos q]
      dsimp only
      cases ee : p_dig c n (p + 1) with
      | none =>
        have : ∀ a b, p_dg c n (p + 1) a b = none := fun a b => by unfold p_dg; rw [ee]
        rw [this]
      | some e =>
        obtain ⟨f1, f2, f3⟩ := p_dig_some ee
        have : ∀ a b, p_dg c n (p + 1) a b = if a ≤ e ∧ e ≤ b then some e else none := fun a b => by unfold p_dg; rw [ee]
        rw [this]
        dsimp only
        have iff2 : (lo ≤ 10 * d + e ∧ 10 * d + e ≤ hi) ↔ ((if d = lo / 10 then lo % 10 else 0) ≤ e ∧ e ≤ (if d = hi / 10 then hi % 10 else 9)) := by
          by_cases x1 : d = lo / 10
          · by_cases x2 : d = hi / 10
            · rw [if_pos x1, if_pos x2]; omega
            · rw [if_pos x1, if_neg x2]; omega
          · by_cases x2 : d = hi / 10
            · rw [if_neg x1, if_pos x2]; omega
            · rw [if_neg x1, if_neg x2]; omega
        by_cases y : lo ≤ 10 * d + e ∧ 10 * d + e ≤ hi
        · rw [if_pos y, if_pos (iff2.mp y)]
        · rw [if_neg y, if_neg (fun w => y (iff2.mpr w))]
    · rw [if_neg (by omega), if_neg q]
theorem p_num_no {lo hi : Nat} (hlh : hi < lo) : p_num c n lo hi p = (none, p) := by
  unfold p_num
  cases ed : p_dig c n p with
  | none => rfl
  | some d =>
    dsimp only
    rw [if_neg (by omega)]
set_option maxRecDepth 100000 in
set_option maxHeartbeats 4000000 in
theorem rv_number (sz : Nat) (o : h 38 = some (mE E (nI (F + p)) ri rb rm)) (t : tX h c F n) (hp : p ≤ n) (lo hi : Nat) (h1 : lo ≤ 99) (h2 : hi ≤ 99) : vx_Ok m_R_number [.ref 38, .int (nI (F + n)), .int (nI lo), .int (nI hi)] sz h (fun r h' => r = some (.int (o9 (p_num c n lo hi p).1)) ∧ h' = rat h E F (p_num c n lo hi p).2 ri rb rm) := by
  refine ok_R_number [some (.ref 38), some (.int (nI (F + n))), some (.int (nI lo)), some (.int (nI hi)), none, none, none, none] (Nat.le_of_ble_eq_true rfl) rfl (fun lim z X hX => ?_)
  have o0 := o
  have t0 := t
  obtain ⟨fc, t1, t2, t3⟩ := t
  unfold mE at o
  have ed : ∀ x, x ≤ 99 → nI x / 10 = nI (x / 10) := fun x hx => by rw [show (10 : Int32) = nI 10 from rfl, pk_div (by omega) (by decide) (by decide)]
  have er : ∀ x, x ≤ 99 → nI x - nI x / 10 * 10 = nI (x % 10) := fun x hx => by rw [show (10 : Int32) = nI 10 from rfl, pk_rem (by omega) (by decide) (by decide)]
  have n10 : ¬ (10 : Int32) = 0 := by decide
  by_cases hlh : lo ≤ hi
  · rw [p_num_dg hlh h2] at hX
    refine vx_go hX [33] 9 ?_
    simp only [e_nil, e_iconst, e_bipush, e_sipush, e_lconst, e_ldc_w, e_ldc2_w, e_iload, e_iload_n, e_lload, e_lload_n, e_aload, e_aload_n, e_istore, e_istore_n, e_astore, e_astore_n, e_lstore, e_iinc, e_iadd, e_isub, e_imul, e_iand, e_ior, e_ishl, e_ishr, e_iushr, e_idiv, e_irem, e_ldiv, e_lrem, e_ineg, e_lshl, e_lcmp, e_i2l, e_i2b, e_i2s, e_dup_i, e_dup_r, e_dup2, e_if_eq, e_if_ne, e_if_lt, e_if_ge, e_if_gt, e_if_le, e_icmp_eq, e_icmp_ne, e_icmp_lt, e_icmp_ge, e_icmp_gt, e_icmp_le, e_ifnull_r, e_ifnull_n, e_goto, e_tsw, e_lsw, e_getf, e_puti, e_putz, e_puta, e_new, e_newa, e_anew, e_iald, e_sald, e_iast, e_aald, e_aast, e_alen, e_slen, e_inv, e_acp, e_min, e_max, e_abs, e_ins, e_oinit, e_inx, e_iret, e_lret, e_vret, vx_run_s, List.getElem?_cons_succ, List.getElem?_cons_zero, List.set_cons_succ, List.set_cons_zero, List.mem_cons, List.not_mem_nil, or_false, false_or, if_true, if_false, ite_true, ite_false, ↓reduceIte, reduceCtorEq, List.take_succ_cons, List.take_zero, List.drop_succ_cons, List.drop_zero, List.reverse_cons, List.reverse_nil, List.nil_append, List.cons_append, List.append_nil, List.length_cons, List.length_nil, Option.toList_some, Option.toList_none, vx_nl, vx_isob, true_and, and_true, Nat.reduceAdd, Nat.reduceEqDiff, Nat.reduceLeDiff, Nat.zero_add, Nat.add_zero, not_false_eq_true, not_true_eq_false, Nat.reduceLT, Nat.reduceMul, Nat.reduceSub, Nat.zero_le, vx_up_s, false_implies, true_implies, forall_const, implies_true, imp_self, Nat.le_refl, forall_eq, forall_eq_apply_imp_iff, and_imp, exists_and_left, exists_eq_left, Nat.one_ne_zero, eq_self, true_or, or_true, Option.some.injEq, Value.int.injEq, Value.long.injEq, mF_g0, mF_g1, mF_g2, mF_g3, mF_g4, mF_g5, mF_g6, mF_g7, mF_g8, mF_g9, mF_g10, mF_g11, mF_g12, mF_g13, mF_g14, mF_g15, mF_g16, mF_g17, mF_g18, mF_g19, mF_g20, mF_g21, mF_g22, mF_g23, mF_g24, mF_g25, mF_g26, mF_g27, mF_g28, mF_g29, mF_g30, mF_g31, mF_g32, mF_g33, mF_g34, mF_s0, mF_s1, mF_s5, mF_s6, mF_s7, mF_s11, mF_s12, mF_s13, mF_s14, mF_s15, mF_s19, mF_s23, mF_s27, mF_s28, mF_s30, mF_s31, mF_len, bk_R_number_0, bk_R_number_8, bk_R_number_33, bk_R_number_49, bk_R_number_50, bk_R_number_68, bk_R_number_70, bk_R_number_95, bk_R_number_103, o]
    rw [ed lo h1, ed hi h2]
    refine ⟨fun _ => ⟨n10, n10, ?_⟩, fun q => absurd (nI_le hlh (by omega)) q⟩
    refine vx_cl1 (rv_digit _ o0 t0 hp (lo / 10) (hi / 10) (by omega) (by omega)) ?_
    cases e1 : p_dg c n p (lo / 10) (hi / 10) with
    | none =>
      rw [e1] at hX
      simp only [e_nil, e_iconst, e_bipush, e_sipush, e_lconst, e_ldc_w, e_ldc2_w, e_iload, e_iload_n, e_lload, e_lload_n, e_aload, e_aload_n, e_istore, e_istore_n, e_astore, e_astore_n, e_lstore, e_iinc, e_iadd, e_isub, e_imul, e_iand, e_ior, e_ishl, e_ishr, e_iushr, e_idiv, e_irem, e_ldiv, e_lrem, e_ineg, e_lshl, e_lcmp, e_i2l, e_i2b, e_i2s, e_dup_i, e_dup_r, e_dup2, e_if_eq, e_if_ne, e_if_lt, e_if_ge, e_if_gt, e_if_le, e_icmp_eq, e_icmp_ne, e_icmp_lt, e_icmp_ge, e_icmp_gt, e_icmp_le, e_ifnull_r, e_ifnull_n, e_goto, e_tsw, e_lsw, e_getf, e_puti, e_putz, e_puta, e_new, e_newa, e_anew, e_iald, e_sald, e_iast, e_aald, e_aast, e_alen, e_slen, e_inv, e_acp, e_min, e_max, e_abs, e_ins, e_oinit, e_inx, e_iret, e_lret, e_vret, vx_run_s, List.getElem?_cons_succ, List.getElem?_cons_zero, List.set_cons_succ, List.set_cons_zero, List.mem_cons, List.not_mem_nil, or_false, false_or, if_true, if_false, ite_true, ite_false, ↓reduceIte, reduceCtorEq, List.take_succ_cons, List.take_zero, List.drop_succ_cons, List.drop_zero, List.reverse_cons, List.reverse_nil, List.nil_append, List.cons_append, List.append_nil, List.length_cons, List.length_nil, Option.toList_some, Option.toList_none, vx_nl, vx_isob, true_and, and_true, Nat.reduceAdd, Nat.reduceEqDiff, Nat.reduceLeDiff, Nat.zero_add, Nat.add_zero, not_false_eq_true, not_true_eq_false, Nat.reduceLT, Nat.reduceMul, Nat.reduceSub, Nat.zero_le, vx_up_s, false_implies, true_implies, forall_const, implies_true, imp_self, Nat.le_refl, forall_eq, forall_eq_apply_imp_iff, and_imp, exists_and_left, exists_eq_left, Nat.one_ne_zero, eq_self, true_or, or_true, Option.some.injEq, Value.int.injEq, Value.long.injEq, mF_g0, mF_g1, mF_g2, mF_g3, mF_g4, mF_g5, mF_g6, mF_g7, mF_g8, mF_g9, mF_g10, mF_g11, mF_g12, mF_g13, mF_g14, mF_g15, mF_g16, mF_g17, mF_g18, mF_g19, mF_g20, mF_g21, mF_g22, mF_g23, mF_g24, mF_g25, mF_g26, mF_g27, mF_g28, mF_g29, mF_g30, mF_g31, mF_g32, mF_g33, mF_g34, mF_s0, mF_s1, mF_s5, mF_s6, mF_s7, mF_s11, mF_s12, mF_s13, mF_s14, mF_s15, mF_s19, mF_s23, mF_s27, mF_s28, mF_s30, mF_s31, mF_len, bk_R_number_0, bk_R_number_8, bk_R_number_33, bk_R_number_49, bk_R_number_50, bk_R_number_68, bk_R_number_70, bk_R_number_95, bk_R_number_103]
      exact ⟨fun q => absurd rfl q, fun _ => ⟨rfl, rfl⟩⟩
    | some d =>
      rw [e1] at hX
      dsimp only at hX
      obtain ⟨d1, d2, d3, d4, d5⟩ := p_dg_le e1
      rw [if_pos (show (some d).isSome = true from rfl)]
      have nd : ¬ o9 (some d) = -9 := fun w => by have := (o9_n (o := some d) (fun v hv => by cases hv; omega)).mp w; cases this
      simp only [e_nil, e_iconst, e_bipush, e_sipush, e_lconst, e_ldc_w, e_ldc2_w, e_iload, e_iload_n, e_lload, e_lload_n, e_aload, e_aload_n, e_istore, e_istore_n, e_astore, e_astore_n, e_lstore, e_iinc, e_iadd, e_isub, e_imul, e_iand, e_ior, e_ishl, e_ishr, e_iushr, e_idiv, e_irem, e_ldiv, e_lrem, e_ineg, e_lshl, e_lcmp, e_i2l, e_i2b, e_i2s, e_dup_i, e_dup_r, e_dup2, e_if_eq, e_if_ne, e_if_lt, e_if_ge, e_if_gt, e_if_le, e_icmp_eq, e_icmp_ne, e_icmp_lt, e_icmp_ge, e_icmp_gt, e_icmp_le, e_ifnull_r, e_ifnull_n, e_goto, e_tsw, e_lsw, e_getf, e_puti, e_putz, e_puta, e_new, e_newa, e_anew, e_iald, e_sald, e_iast, e_aald, e_aast, e_alen, e_slen, e_inv, e_acp, e_min, e_max, e_abs, e_ins, e_oinit, e_inx, e_iret, e_lret, e_vret, vx_run_s, List.getElem?_cons_succ, List.getElem?_cons_zero, List.set_cons_succ, List.set_cons_zero, List.mem_cons, List.not_mem_nil, or_false, false_or, if_true, if_false, ite_true, ite_false, ↓reduceIte, reduceCtorEq, List.take_succ_cons, List.take_zero, List.drop_succ_cons, List.drop_zero, List.reverse_cons, List.reverse_nil, List.nil_append, List.cons_append, List.append_nil, List.length_cons, List.length_nil, Option.toList_some, Option.toList_none, vx_nl, vx_isob, true_and, and_true, Nat.reduceAdd, Nat.reduceEqDiff, Nat.reduceLeDiff, Nat.zero_add, Nat.add_zero, not_false_eq_true, not_true_eq_false, Nat.reduceLT, Nat.reduceMul, Nat.reduceSub, Nat.zero_le, vx_up_s, false_implies, true_implies, forall_const, implies_true, imp_self, Nat.le_refl, forall_eq, forall_eq_apply_imp_iff, and_imp, exists_and_left, exists_eq_left, Nat.one_ne_zero, eq_self, true_or, or_true, Option.some.injEq, Value.int.injEq, Value.long.injEq, mF_g0, mF_g1, mF_g2, mF_g3, mF_g4, mF_g5, mF_g6, mF_g7, mF_g8, mF_g9, mF_g10, mF_g11, mF_g12, mF_g13, mF_g14, mF_g15, mF_g16, mF_g17, mF_g18, mF_g19, mF_g20, mF_g21, mF_g22, mF_g23, mF_g24, mF_g25, mF_g26, mF_g27, mF_g28, mF_g29, mF_g30, mF_g31, mF_g32, mF_g33, mF_g34, mF_s0, mF_s1, mF_s5, mF_s6, mF_s7, mF_s11, mF_s12, mF_s13, mF_s14, mF_s15, mF_s19, mF_s23, mF_s27, mF_s28, mF_s30, mF_s31, mF_len, bk_R_number_0, bk_R_number_8, bk_R_number_33, bk_R_number_49, bk_R_number_50, bk_R_number_68, bk_R_number_70, bk_R_number_95, bk_R_number_103]
      refine ⟨fun _ => ?_, fun q => absurd q nd⟩
      show X 33 [some (.ref 38), some (.int (nI (F + n))), some (.int (nI lo)), some (.int (nI hi)), some (.int (nI d)), none, none, none] [] z (rat h E F (p + 1) ri rb rm)
      generalize hfr : (if d = lo / 10 then lo % 10 else 0) = fr at hX
      generalize hto : (if d = hi / 10 then hi % 10 else 9) = to at hX
      have bfr : fr ≤ 9 := by rw [← hfr]; split <;> omega
      have bto : to ≤ 9 := by rw [← hto]; split <;> omega
      have h70 : X 70 [some (.ref 38), some (.int (nI (F + n))), some (.int (nI lo)), some (.int (nI hi)), some (.int (nI d)), some (.int (nI fr)), none, none] [.int (nI to)] z (rat h E F (p + 1) ri rb rm) := by
        have ro : rat h E F (p + 1) ri rb rm 38 = some (mE E (nI (F + (p + 1))) ri rb rm) := rat_o
        have ro2 := ro
        unfold mE at ro2
        refine vx_go hX [] 9 ?_
        simp only [e_nil, e_iconst, e_bipush, e_sipush, e_lconst, e_ldc_w, e_ldc2_w, e_iload, e_iload_n, e_lload, e_lload_n, e_aload, e_aload_n, e_istore, e_istore_n, e_astore, e_astore_n, e_lstore, e_iinc, e_iadd, e_isub, e_imul, e_iand, e_ior, e_ishl, e_ishr, e_iushr, e_idiv, e_irem, e_ldiv, e_lrem, e_ineg, e_lshl, e_lcmp, e_i2l, e_i2b, e_i2s, e_dup_i, e_dup_r, e_dup2, e_if_eq, e_if_ne, e_if_lt, e_if_ge, e_if_gt, e_if_le, e_icmp_eq, e_icmp_ne, e_icmp_lt, e_icmp_ge, e_icmp_gt, e_icmp_le, e_ifnull_r, e_ifnull_n, e_goto, e_tsw, e_lsw, e_getf, e_puti, e_putz, e_puta, e_new, e_newa, e_anew, e_iald, e_sald, e_iast, e_aald, e_aast, e_alen, e_slen, e_inv, e_acp, e_min, e_max, e_abs, e_ins, e_oinit, e_inx, e_iret, e_lret, e_vret, vx_run_s, List.getElem?_cons_succ, List.getElem?_cons_zero, List.set_cons_succ, List.set_cons_zero, List.mem_cons, List.not_mem_nil, or_false, false_or, if_true, if_false, ite_true, ite_false, ↓reduceIte, reduceCtorEq, List.take_succ_cons, List.take_zero, List.drop_succ_cons, List.drop_zero, List.reverse_cons, List.reverse_nil, List.nil_append, List.cons_append, List.append_nil, List.length_cons, List.length_nil, Option.toList_some, Option.toList_none, vx_nl, vx_isob, true_and, and_true, Nat.reduceAdd, Nat.reduceEqDiff, Nat.reduceLeDiff, Nat.zero_add, Nat.add_zero, not_false_eq_true, not_true_eq_false, Nat.reduceLT, Nat.reduceMul, Nat.reduceSub, Nat.zero_le, vx_up_s, false_implies, true_implies, forall_const, implies_true, imp_self, Nat.le_refl, forall_eq, forall_eq_apply_imp_iff, and_imp, exists_and_left, exists_eq_left, Nat.one_ne_zero, eq_self, true_or, or_true, Option.some.injEq, Value.int.injEq, Value.long.injEq, mF_g0, mF_g1, mF_g2, mF_g3, mF_g4, mF_g5, mF_g6, mF_g7, mF_g8, mF_g9, mF_g10, mF_g11, mF_g12, mF_g13, mF_g14, mF_g15, mF_g16, mF_g17, mF_g18, mF_g19, mF_g20, mF_g21, mF_g22, mF_g23, mF_g24, mF_g25, mF_g26, mF_g27, mF_g28, mF_g29, mF_g30, mF_g31, mF_g32, mF_g33, mF_g34, mF_s0, mF_s1, mF_s5, mF_s6, mF_s7, mF_s11, mF_s12, mF_s13, mF_s14, mF_s15, mF_s19, mF_s23, mF_s27, mF_s28, mF_s30, mF_s31, mF_len, bk_R_number_0, bk_R_number_8, bk_R_number_33, bk_R_number_49, bk_R_number_50, bk_R_number_68, bk_R_number_70, bk_R_number_95, bk_R_number_103, ro2]
        refine vx_cl1 (rv_digit _ ro t0.at (by omega) fr to bfr bto) ?_
        rw [rat_at]
        cases e2 : p_dg c n (p + 1) fr to with
        | none =>
          simp only [e_nil, e_iconst, e_bipush, e_sipush, e_lconst, e_ldc_w, e_ldc2_w, e_iload, e_iload_n, e_lload, e_lload_n, e_aload, e_aload_n, e_istore, e_istore_n, e_astore, e_astore_n, e_lstore, e_iinc, e_iadd, e_isub, e_imul, e_iand, e_ior, e_ishl, e_ishr, e_iushr, e_idiv, e_irem, e_ldiv, e_lrem, e_ineg, e_lshl, e_lcmp, e_i2l, e_i2b, e_i2s, e_dup_i, e_dup_r, e_dup2, e_if_eq, e_if_ne, e_if_lt, e_if_ge, e_if_gt, e_if_le, e_icmp_eq, e_icmp_ne, e_icmp_lt, e_icmp_ge, e_icmp_gt, e_icmp_le, e_ifnull_r, e_ifnull_n, e_goto, e_tsw, e_lsw, e_getf, e_puti, e_putz, e_puta, e_new, e_newa, e_anew, e_iald, e_sald, e_iast, e_aald, e_aast, e_alen, e_slen, e_inv, e_acp, e_min, e_max, e_abs, e_ins, e_oinit, e_inx, e_iret, e_lret, e_vret, vx_run_s, List.getElem?_cons_succ, List.getElem?_cons_zero, List.set_cons_succ, List.set_cons_zero, List.mem_cons, List.not_mem_nil, or_false, false_or, if_true, if_false, ite_true, ite_false, ↓reduceIte, reduceCtorEq, List.take_succ_cons, List.take_zero, List.drop_succ_cons, List.drop_zero, List.reverse_cons, List.reverse_nil, List.nil_append, List.cons_append, List.append_nil, List.length_cons, List.length_nil, Option.toList_some, Option.toList_none, vx_nl, vx_isob, true_and, and_true, Nat.reduceAdd, Nat.reduceEqDiff, Nat.reduceLeDiff, Nat.zero_add, Nat.add_zero, not_false_eq_true, not_true_eq_false, Nat.reduceLT, Nat.reduceMul, Nat.reduceSub, Nat.zero_le, vx_up_s, false_implies, true_implies, forall_const, implies_true, imp_self, Nat.le_refl, forall_eq, forall_eq_apply_imp_iff, and_imp, exists_and_left, exists_eq_left, Nat.one_ne_zero, eq_self, true_or, or_true, Option.some.injEq, Value.int.injEq, Value.long.injEq, mF_g0, mF_g1, mF_g2, mF_g3, mF_g4, mF_g5, mF_g6, mF_g7, mF_g8, mF_g9, mF_g10, mF_g11, mF_g12, mF_g13, mF_g14, mF_g15, mF_g16, mF_g17, mF_g18, mF_g19, mF_g20, mF_g21, mF_g22, mF_g23, mF_g24, mF_g25, mF_g26, mF_g27, mF_g28, mF_g29, mF_g30, mF_g31, mF_g32, mF_g33, mF_g34, mF_s0, mF_s1, mF_s5, mF_s6, mF_s7, mF_s11, mF_s12, mF_s13, mF_s14, mF_s15, mF_s19, mF_s23, mF_s27, mF_s28, mF_s30, mF_s31, mF_len, bk_R_number_0, bk_R_number_8, bk_R_number_33, bk_R_number_49, bk_R_number_50, bk_R_number_68, bk_R_number_70, bk_R_number_95, bk_R_number_103]
          exact ⟨fun q => absurd rfl q, fun _ => ⟨rfl, rfl⟩⟩
        | some e =>
          obtain ⟨f1, f2, f3, f4, f5⟩ := p_dg_le e2
          have ne : ¬ o9 (some e) = -9 := fun w => by have := (o9_n (o := some e) (fun v hv => by cases hv; omega)).mp w; cases this
          rw [if_pos (show (some e).isSome = true from rfl)]
          simp only [e_nil, e_iconst, e_bipush, e_sipush, e_lconst, e_ldc_w, e_ldc2_w, e_iload, e_iload_n, e_lload, e_lload_n, e_aload, e_aload_n, e_istore, e_istore_n, e_astore, e_astore_n, e_lstore, e_iinc, e_iadd, e_isub, e_imul, e_iand, e_ior, e_ishl, e_ishr, e_iushr, e_idiv, e_irem, e_ldiv, e_lrem, e_ineg, e_lshl, e_lcmp, e_i2l, e_i2b, e_i2s, e_dup_i, e_dup_r, e_dup2, e_if_eq, e_if_ne, e_if_lt, e_if_ge, e_if_gt, e_if_le, e_icmp_eq, e_icmp_ne, e_icmp_lt, e_icmp_ge, e_icmp_gt, e_icmp_le, e_ifnull_r, e_ifnull_n, e_goto, e_tsw, e_lsw, e_getf, e_puti, e_putz, e_puta, e_new, e_newa, e_anew, e_iald, e_sald, e_iast, e_aald, e_aast, e_alen, e_slen, e_inv, e_acp, e_min, e_max, e_abs, e_ins, e_oinit, e_inx, e_iret, e_lret, e_vret, vx_run_s, List.getElem?_cons_succ, List.getElem?_cons_zero, List.set_cons_succ, List.set_cons_zero, List.mem_cons, List.not_mem_nil, or_false, false_or, if_true, if_false, ite_true, ite_false, ↓reduceIte, reduceCtorEq, List.take_succ_cons, List.take_zero, List.drop_succ_cons, List.drop_zero, List.reverse_cons, List.reverse_nil, List.nil_append, List.cons_append, List.append_nil, List.length_cons, List.length_nil, Option.toList_some, Option.toList_none, vx_nl, vx_isob, true_and, and_true, Nat.reduceAdd, Nat.reduceEqDiff, Nat.reduceLeDiff, Nat.zero_add, Nat.add_zero, not_false_eq_true, not_true_eq_false, Nat.reduceLT, Nat.reduceMul, Nat.reduceSub, Nat.zero_le, vx_up_s, false_implies, true_implies, forall_const, implies_true, imp_self, Nat.le_refl, forall_eq, forall_eq_apply_imp_iff, and_imp, exists_and_left, exists_eq_left, Nat.one_ne_zero, eq_self, true_or, or_true, Option.some.injEq, Value.int.injEq, Value.long.injEq, mF_g0, mF_g1, mF_g2, mF_g3, mF_g4, mF_g5, mF_g6, mF_g7, mF_g8, mF_g9, mF_g10, mF_g11, mF_g12, mF_g13, mF_g14, mF_g15, mF_g16, mF_g17, mF_g18, mF_g19, mF_g20, mF_g21, mF_g22, mF_g23, mF_g24, mF_g25, mF_g26, mF_g27, mF_g28, mF_g29, mF_g30, mF_g31, mF_g32, mF_g33, mF_g34, mF_s0, mF_s1, mF_s5, mF_s6, mF_s7, mF_s11, mF_s12, mF_s13, mF_s14, mF_s15, mF_s19, mF_s23, mF_s27, mF_s28, mF_s30, mF_s31, mF_len, bk_R_number_0, bk_R_number_8, bk_R_number_33, bk_R_number_49, bk_R_number_50, bk_R_number_68, bk_R_number_70, bk_R_number_95, bk_R_number_103]
          refine ⟨fun _ => ?_, fun q => absurd q ne⟩
          rw [o9_s, o9_s, show (10 : Int32) = nI 10 from rfl, nI_mul, nI_add]
      have h50 : X 50 [some (.ref 38), some (.int (nI (F + n))), some (.int (nI lo)), some (.int (nI hi)), some (.int (nI d)), none, none, none] [.int (nI fr)] z (rat h E F (p + 1) ri rb rm) := by
        refine vx_go hX [70] 9 ?_
        simp only [e_nil, e_iconst, e_bipush, e_sipush, e_lconst, e_ldc_w, e_ldc2_w, e_iload, e_iload_n, e_lload, e_lload_n, e_aload, e_aload_n, e_istore, e_istore_n, e_astore, e_astore_n, e_lstore, e_iinc, e_iadd, e_isub, e_imul, e_iand, e_ior, e_ishl, e_ishr, e_iushr, e_idiv, e_irem, e_ldiv, e_lrem, e_ineg, e_lshl, e_lcmp, e_i2l, e_i2b, e_i2s, e_dup_i, e_dup_r, e_dup2, e_if_eq, e_if_ne, e_if_lt, e_if_ge, e_if_gt, e_if_le, e_icmp_eq, e_icmp_ne, e_icmp_lt, e_icmp_ge, e_icmp_gt, e_icmp_le, e_ifnull_r, e_ifnull_n, e_goto, e_tsw, e_lsw, e_getf, e_puti, e_putz, e_puta, e_new, e_newa, e_anew, e_iald, e_sald, e_iast, e_aald, e_aast, e_alen, e_slen, e_inv, e_acp, e_min, e_max, e_abs, e_ins, e_oinit, e_inx, e_iret, e_lret, e_vret, vx_run_s, List.getElem?_cons_succ, List.getElem?_cons_zero, List.set_cons_succ, List.set_cons_zero, List.mem_cons, List.not_mem_nil, or_false, false_or, if_true, if_false, ite_true, ite_false, ↓reduceIte, reduceCtorEq, List.take_succ_cons, List.take_zero, List.drop_succ_cons, List.drop_zero, List.reverse_cons, List.reverse_nil, List.nil_append, List.cons_append, List.append_nil, List.length_cons, List.length_nil, Option.toList_some, Option.toList_none, vx_nl, vx_isob, true_and, and_true, Nat.reduceAdd, Nat.reduceEqDiff, Nat.reduceLeDiff, Nat.zero_add, Nat.add_zero, not_false_eq_true, not_true_eq_false, Nat.reduceLT, Nat.reduceMul, Nat.reduceSub, Nat.zero_le, vx_up_s, false_implies, true_implies, forall_const, implies_true, imp_self, Nat.le_refl, forall_eq, forall_eq_apply_imp_iff, and_imp, exists_and_left, exists_eq_left, Nat.one_ne_zero, eq_self, true_or, or_true, Option.some.injEq, Value.int.injEq, Value.long.injEq, mF_g0, mF_g1, mF_g2, mF_g3, mF_g4, mF_g5, mF_g6, mF_g7, mF_g8, mF_g9, mF_g10, mF_g11, mF_g12, mF_g13, mF_g14, mF_g15, mF_g16, mF_g17, mF_g18, mF_g19, mF_g20, mF_g21, mF_g22, mF_g23, mF_g24, mF_g25, mF_g26, mF_g27, mF_g28, mF_g29, mF_g30, mF_g31, mF_g32, mF_g33, mF_g34, mF_s0, mF_s1, mF_s5, mF_s6, mF_s7, mF_s11, mF_s12, mF_s13, mF_s14, mF_s15, mF_s19, mF_s23, mF_s27, mF_s28, mF_s30, mF_s31, mF_len, bk_R_number_0, bk_R_number_8, bk_R_number_33, bk_R_number_49, bk_R_number_50, bk_R_number_68, bk_R_number_70, bk_R_number_95, bk_R_number_103]
        rw [er hi h2, ed hi h2, nI_eq (by omega) (by omega)]
        refine ⟨n10, fun q => ?_, fun q => ⟨n10, ?_⟩⟩
        · rw [if_neg q] at hto
          subst hto
          exact h70
        · rw [if_pos q] at hto
          subst hto
          exact h70
      refine vx_go hX [50] 9 ?_
      simp only [e_nil, e_iconst, e_bipush, e_sipush, e_lconst, e_ldc_w, e_ldc2_w, e_iload, e_iload_n, e_lload, e_lload_n, e_aload, e_aload_n, e_istore, e_istore_n, e_astore, e_astore_n, e_lstore, e_iinc, e_iadd, e_isub, e_imul, e_iand, e_ior, e_ishl, e_ishr, e_iushr, e_idiv, e_irem, e_ldiv, e_lrem, e_ineg, e_lshl, e_lcmp, e_i2l, e_i2b, e_i2s, e_dup_i, e_dup_r, e_dup2, e_if_eq, e_if_ne, e_if_lt, e_if_ge, e_if_gt, e_if_le, e_icmp_eq, e_icmp_ne, e_icmp_lt, e_icmp_ge, e_icmp_gt, e_icmp_le, e_ifnull_r, e_ifnull_n, e_goto, e_tsw, e_lsw, e_getf, e_puti, e_putz, e_puta, e_new, e_newa, e_anew, e_iald, e_sald, e_iast, e_aald, e_aast, e_alen, e_slen, e_inv, e_acp, e_min, e_max, e_abs, e_ins, e_oinit, e_inx, e_iret, e_lret, e_vret, vx_run_s, List.getElem?_cons_succ, List.getElem?_cons_zero, List.set_cons_succ, List.set_cons_zero, List.mem_cons, List.not_mem_nil, or_false, false_or, if_true, if_false, ite_true, ite_false, ↓reduceIte, reduceCtorEq, List.take_succ_cons, List.take_zero, List.drop_succ_cons, List.drop_zero, List.reverse_cons, List.reverse_nil, List.nil_append, List.cons_append, List.append_nil, List.length_cons, List.length_nil, Option.toList_some, Option.toList_none, vx_nl, vx_isob, true_and, and_true, Nat.reduceAdd, Nat.reduceEqDiff, Nat.reduceLeDiff, Nat.zero_add, Nat.add_zero, not_false_eq_true, not_true_eq_false, Nat.reduceLT, Nat.reduceMul, Nat.reduceSub, Nat.zero_le, vx_up_s, false_implies, true_implies, forall_const, implies_true, imp_self, Nat.le_refl, forall_eq, forall_eq_apply_imp_iff, and_imp, exists_and_left, exists_eq_left, Nat.one_ne_zero, eq_self, true_or, or_true, Option.some.injEq, Value.int.injEq, Value.long.injEq, mF_g0, mF_g1, mF_g2, mF_g3, mF_g4, mF_g5, mF_g6, mF_g7, mF_g8, mF_g9, mF_g10, mF_g11, mF_g12, mF_g13, mF_g14, mF_g15, mF_g16, mF_g17, mF_g18, mF_g19, mF_g20, mF_g21, mF_g22, mF_g23, mF_g24, mF_g25, mF_g26, mF_g27, mF_g28, mF_g29, mF_g30, mF_g31, mF_g32, mF_g33, mF_g34, mF_s0, mF_s1, mF_s5, mF_s6, mF_s7, mF_s11, mF_s12, mF_s13, mF_s14, mF_s15, mF_s19, mF_s23, mF_s27, mF_s28, mF_s30, mF_s31, mF_len, bk_R_number_0, bk_R_number_8, bk_R_number_33, bk_R_number_49, bk_R_number_50, bk_R_number_68, bk_R_number_70, bk_R_number_95, bk_R_number_103]
      rw [er lo h1, ed lo h1, nI_eq (by omega) (by omega)]
      refine ⟨n10, fun q => ?_, fun q => ⟨n10, ?_⟩⟩
      · rw [if_neg q] at hfr
        subst hfr
        exact h50
      · rw [if_pos q] at hfr
        subst hfr
        exact h50
  · rw [p_num_no (by omega)] at hX
    refine vx_go hX [8] 9 ?_
    simp only [e_nil, e_iconst, e_bipush, e_sipush, e_lconst, e_ldc_w, e_ldc2_w, e_iload, e_iload_n, e_lload, e_lload_n, e_aload, e_aload_n, e_istore, e_istore_n, e_astore, e_astore_n, e_lstore, e_iinc, e_iadd, e_isub, e_imul, e_iand, e_ior, e_ishl, e_ishr, e_iushr, e_idiv, e_irem, e_ldiv, e_lrem, e_ineg, e_lshl, e_lcmp, e_i2l, e_i2b, e_i2s, e_dup_i, e_dup_r, e_dup2, e_if_eq, e_if_ne, e_if_lt, e_if_ge, e_if_gt, e_if_le, e_icmp_eq, e_icmp_ne, e_icmp_lt, e_icmp_ge, e_icmp_gt, e_icmp_le, e_ifnull_r, e_ifnull_n, e_goto, e_tsw, e_lsw, e_getf, e_puti, e_putz, e_puta, e_new, e_newa, e_anew, e_iald, e_sald, e_iast, e_aald, e_aast, e_alen, e_slen, e_inv, e_acp, e_min, e_max, e_abs, e_ins, e_oinit, e_inx, e_iret, e_lret, e_vret, vx_run_s, List.getElem?_cons_succ, List.getElem?_cons_zero, List.set_cons_succ, List.set_cons_zero, List.mem_cons, List.not_mem_nil, or_false, false_or, if_true, if_false, ite_true, ite_false, ↓reduceIte, reduceCtorEq, List.take_succ_cons, List.take_zero, List.drop_succ_cons, List.drop_zero, List.reverse_cons, List.reverse_nil, List.nil_append, List.cons_append, List.append_nil, List.length_cons, List.length_nil, Option.toList_some, Option.toList_none, vx_nl, vx_isob, true_and, and_true, Nat.reduceAdd, Nat.reduceEqDiff, Nat.reduceLeDiff, Nat.zero_add, Nat.add_zero, not_false_eq_true, not_true_eq_false, Nat.reduceLT, Nat.reduceMul, Nat.reduceSub, Nat.zero_le, vx_up_s, false_implies, true_implies, forall_const, implies_true, imp_self, Nat.le_refl, forall_eq, forall_eq_apply_imp_iff, and_imp, exists_and_left, exists_eq_left, Nat.one_ne_zero, eq_self, true_or, or_true, Option.some.injEq, Value.int.injEq, Value.long.injEq, mF_g0, mF_g1, mF_g2, mF_g3, mF_g4, mF_g5, mF_g6, mF_g7, mF_g8, mF_g9, mF_g10, mF_g11, mF_g12, mF_g13, mF_g14, mF_g15, mF_g16, mF_g17, mF_g18, mF_g19, mF_g20, mF_g21, mF_g22, mF_g23, mF_g24, mF_g25, mF_g26, mF_g27, mF_g28, mF_g29, mF_g30, mF_g31, mF_g32, mF_g33, mF_g34, mF_s0, mF_s1, mF_s5, mF_s6, mF_s7, mF_s11, mF_s12, mF_s13, mF_s14, mF_s15, mF_s19, mF_s23, mF_s27, mF_s28, mF_s30, mF_s31, mF_len, bk_R_number_0, bk_R_number_8, bk_R_number_33, bk_R_number_49, bk_R_number_50, bk_R_number_68, bk_R_number_70, bk_R_number_95, bk_R_number_103, o]
    refine ⟨fun q => absurd ((nI_leI (by omega) (by omega)).mp q) hlh, fun _ => ⟨rfl, (rat_id o0).symm⟩⟩
end RD
