/-! both sides, call by call -/
def LI (h : vx_H) : Prop := ∃ (Y : vw_Y) (law : Int32) (L S R : vw_T) (tr fa : Int32) (SH : Nat → vw_Sh), RV h Y law L S R tr fa SH ∧ RM h Y law L S R tr fa SH ∧ SOk Y law L S R
def Pair (mV mR : Nat) (As : List Value) (sz : Nat) (h : vx_H) : Prop := ∃ (x : Int32) (PV : Option Value → vx_H → Prop), vx_Ok mV (.ref 0 :: As) sz h PV ∧ ∀ r h1, PV r h1 → r = some (.int x) ∧ (∃ fs, h1 38 = some (.inr (.inr (7, fs)))) ∧ ∃ PR, vx_Ok mR (.ref 38 :: As) sz h1 PR ∧ ∀ r2 h2, PR r2 h2 → r2 = some (.int x) ∧ LI h2
def PairL (mV mR : Nat) (As : List Value) (sz : Nat) (h : vx_H) : Prop := ∃ (x : Int64) (PV : Option Value → vx_H → Prop), vx_Ok mV (.ref 0 :: As) sz h PV ∧ ∀ r h1, PV r h1 → r = some (.long x) ∧ (∃ fs, h1 38 = some (.inr (.inr (7, fs)))) ∧ ∃ PR, vx_Ok mR (.ref 38 :: As) sz h1 PR ∧ ∀ r2 h2, PR r2 h2 → r2 = some (.long x) ∧ LI h2
section PRS
variable {h h' : vx_H} {Y : vw_Y} {law : Int32} {L S R : vw_T} {tr fa : Int32} {SH : Nat → vw_Sh}
theorem RV.eq (u : RV h Y law L S R tr fa SH) (v : ve 0 37 h h') : RV h' Y law L S R tr fa SH := by
  obtain ⟨y, y', t, u1, u2, u3, u4, u5, u6, u7, u8, u9, ⟨fg, fk, fp, u10⟩, u11, u12⟩ := u
  exact ⟨y, y', t, u1.eq (fun k a b => v k (by omega) (by omega)), u2, u3.eq (fun k a b => v k (by omega) (by omega)), u4.eq (fun k a b => v k (by omega) (by omega)), u5.eq (fun k a b => v k (by omega) (by omega)), u6.eq (fun k a b => v k (by omega) (by omega)), u7.eq (fun k a b => v k (by omega) (by omega)), u8.eq (fun k a b => v k (by omega) (by omega)), u9.eq (fun k a b => v k (by omega) (by omega)), ⟨fg, fk, fp, u10.eq (fun k a b => v k (by omega) (by omega))⟩, u11.eq (fun k a b => v k (by omega) (by omega)) (by omega), u12.eq (fun k a b => v k (by omega) (by omega))⟩
theorem RM.eq (u : RM h Y law L S R tr fa SH) (v : ve 38 57 h h') : RM h' Y law L S R tr fa SH := by
  obtain ⟨⟨hm, gf, ⟨ap, ri, rb, rm, o⟩, y, l, s, r, g⟩, u2, u3⟩ := u
  exact ⟨⟨hm, gf, ⟨ap, ri, rb, rm, (v 38 (by omega) (by omega)).trans o⟩, y.eq (fun k a b => v k (by omega) (by omega)), l.eq (fun k a b => v k (by omega) (by omega)), s.eq (fun k a b => v k (by omega) (by omega)), r.eq (fun k a b => v k (by omega) (by omega)), (v 54 (by omega) (by omega)).trans g⟩, u2.eq (fun k a b => v k (by omega) (by omega)), u3.eq (fun k a b => v k (by omega) (by omega))⟩
theorem RM.ob (u : RM h Y law L S R tr fa SH) : ∃ fs, h 38 = some (.inr (.inr (7, fs))) := by
  obtain ⟨⟨hm, gf, ⟨ap, ri, rb, rm, o⟩, -⟩, -⟩ := u
  exact ⟨_, o⟩
theorem RV.ob (u : RV h Y law L S R tr fa SH) : ∃ fs, h 0 = some (.inr (.inr (6, fs))) := by
  obtain ⟨y, y', t, u1, -⟩ := u
  exact ⟨_, u1⟩
theorem LI.ob (u : LI h) : ∃ fs, h 0 = some (.inr (.inr (6, fs))) := by
  obtain ⟨Y, law, L, S, R, tr, fa, SH, u, -⟩ := u
  exact u.ob
theorem pr_q {mV mR sz : Nat} {As : List Value} {x : Int32} (u : RV h Y law L S R tr fa SH) (w : RM h Y law L S R tr fa SH) (o : SOk Y law L S R) (hV : vx_Ok mV (.ref 0 :: As) sz h (fun r h' => r = some (.int x) ∧ vf 18 21 h h' ∧ hW0 h')) (hR : ∀ h1 hm gf, rW h1 Y law 0 0 L S R fa tr hm gf → vx_Ok mR (.ref 38 :: As) sz h1 (fun r h' => r = some (.int x) ∧ rE h1 h' Y law 0 0 L S R fa tr)) : Pair mV mR As sz h := by
  refine ⟨x, _, hV, ?_⟩
  rintro r h1 ⟨rfl, v1, w1⟩
  have u' := u.mvq v1 w1
  have w' : RM h1 Y law L S R tr fa SH := w.eq (fun k a b => v1 k (by omega))
  obtain ⟨⟨hm, gf, e⟩, -, -⟩ := id w'
  refine ⟨rfl, w'.ob, _, hR h1 hm gf e, ?_⟩
  rintro r2 h2 ⟨rfl, e2⟩
  have v2 : vf 38 57 h1 h2 := e2.choose_spec.choose_spec.2.vf
  exact ⟨rfl, Y, law, L, S, R, tr, fa, SH, u'.eq (fun k a b => v2 k (by omega)), w'.e e2, o⟩
theorem pr_ql {mV mR sz : Nat} {As : List Value} {x : Int64} (u : RV h Y law L S R tr fa SH) (w : RM h Y law L S R tr fa SH) (o : SOk Y law L S R) (hV : vx_Ok mV (.ref 0 :: As) sz h (fun r h' => r = some (.long x) ∧ vf 18 21 h h' ∧ hW0 h')) (hR : ∀ h1 hm gf, rW h1 Y law 0 0 L S R fa tr hm gf → vx_Ok mR (.ref 38 :: As) sz h1 (fun r h' => r = some (.long x) ∧ rE h1 h' Y law 0 0 L S R fa tr)) : PairL mV mR As sz h := by
  refine ⟨x, _, hV, ?_⟩
  rintro r h1 ⟨rfl, v1, w1⟩
  have u' := u.mvq v1 w1
  have w' : RM h1 Y law L S R tr fa SH := w.eq (fun k a b => v1 k (by omega))
  obtain ⟨⟨hm, gf, e⟩, -, -⟩ := id w'
  refine ⟨rfl, w'.ob, _, hR h1 hm gf e, ?_⟩
  rintro r2 h2 ⟨rfl, e2⟩
  have v2 : vf 38 57 h1 h2 := e2.choose_spec.choose_spec.2.vf
  exact ⟨rfl, Y, law, L, S, R, tr, fa, SH, u'.eq (fun k a b => v2 k (by omega)), w'.e e2, o⟩
theorem pr_c {mV mR sz : Nat} {As : List Value} {x : Int32} {Y' : vw_Y} {law' : Int32} {L' S' R' : vw_T} {tr' fa' : Int32} {SH' : Nat → vw_Sh} (w : RM h Y law L S R tr fa SH) (o' : SOk Y' law' L' S' R') (hV : vx_Ok mV (.ref 0 :: As) sz h (fun r h' => r = some (.int x) ∧ RV h' Y' law' L' S' R' tr' fa' SH' ∧ vf 0 37 h h')) (hR : ∀ h1, RM h1 Y law L S R tr fa SH → vx_Ok mR (.ref 38 :: As) sz h1 (fun r h' => r = some (.int x) ∧ RM h' Y' law' L' S' R' tr' fa' SH' ∧ vf 38 57 h1 h')) : Pair mV mR As sz h := by
  refine ⟨x, _, hV, ?_⟩
  rintro r h1 ⟨rfl, u1, v1⟩
  have w' : RM h1 Y law L S R tr fa SH := w.eq (fun k a b => v1 k (by omega))
  refine ⟨rfl, w'.ob, _, hR h1 w', ?_⟩
  rintro r2 h2 ⟨rfl, w2, v2⟩
  exact ⟨rfl, Y', law', L', S', R', tr', fa', SH', u1.eq (fun k a b => v2 k (by omega)), w2, o'⟩
theorem pr_cl {mV mR sz : Nat} {As : List Value} {x : Int64} {Y' : vw_Y} {law' : Int32} {L' S' R' : vw_T} {tr' fa' : Int32} {SH' : Nat → vw_Sh} (w : RM h Y law L S R tr fa SH) (o' : SOk Y' law' L' S' R') (hV : vx_Ok mV (.ref 0 :: As) sz h (fun r h' => r = some (.long x) ∧ RV h' Y' law' L' S' R' tr' fa' SH' ∧ vf 0 37 h h')) (hR : ∀ h1, RM h1 Y law L S R tr fa SH → vx_Ok mR (.ref 38 :: As) sz h1 (fun r h' => r = some (.long x) ∧ RM h' Y' law' L' S' R' tr' fa' SH' ∧ vf 38 57 h1 h')) : PairL mV mR As sz h := by
  refine ⟨x, _, hV, ?_⟩
  rintro r h1 ⟨rfl, u1, v1⟩
  have w' : RM h1 Y law L S R tr fa SH := w.eq (fun k a b => v1 k (by omega))
  refine ⟨rfl, w'.ob, _, hR h1 w', ?_⟩
  rintro r2 h2 ⟨rfl, w2, v2⟩
  exact ⟨rfl, Y', law', L', S', R', tr', fa', SH', u1.eq (fun k a b => v2 k (by omega)), w2, o'⟩
theorem pr_h {mV mR sz : Nat} {As : List Value} {x : Int32} (u : RV h Y law L S R tr fa SH) (w : RM h Y law L S R tr fa SH) (o : SOk Y law L S R) (hV : vx_Ok mV (.ref 0 :: As) sz h (fun r h' => r = some (.int x) ∧ h' = h)) (hR : vx_Ok mR (.ref 38 :: As) sz h (fun r h' => r = some (.int x) ∧ h' = h)) : Pair mV mR As sz h := by
  refine ⟨x, _, hV, ?_⟩
  rintro r h1 ⟨rfl, rfl⟩
  refine ⟨rfl, w.ob, _, hR, ?_⟩
  rintro r2 h2 ⟨rfl, rfl⟩
  exact ⟨rfl, Y, law, L, S, R, tr, fa, SH, u, w, o⟩
/-! what calls leave is well made -/
theorem lOk_s {n : Nat} {T : vw_T} (o : lOk n T) (hn : n ≤ 8) (b f t : Int32) : lOk n (s_lock n T b f t) := by
  unfold s_lock
  split
  · rename_i q
    split
    · rename_i q2
      split
      · obtain ⟨bn, hbn, rfl, e1⟩ := nI_arg (by omega) q
        obtain ⟨fn, tn, h1, h2, rfl, rfl, e2, e3⟩ := nI_span q2
        rw [e1, e2, e3]
        exact lOk_ad o hbn h1 h2
      · exact o
    · exact o
  · exact o
theorem lOk_d {n : Nat} {T : vw_T} (o : lOk n T) (k : Int32) : lOk n (s_drop T k) := by
  unfold s_drop
  split
  · intro j hj
    have hj : j < T.1 - k.toNatClampNeg := hj
    exact o j (by omega)
  · exact o
theorem rOk_d {T : vw_T} (o : rOk Y T) (k : Int32) : rOk Y (s_drop T k) := by
  unfold s_drop
  split
  · intro j hj
    have hj : j < T.1 - k.toNatClampNeg := hj
    exact o j (by omega)
  · exact o
theorem rOk_s {T : vw_T} (o : rOk Y T) (hB : yB Y ≤ 5) (b s g : Int32) : rOk Y (s_reading Y T b s g) := by
  unfold s_reading
  split
  · rename_i q
    split
    · rename_i q2
      split
      · obtain ⟨bn, hbn, rfl, e1⟩ := nI_arg (by omega) q
        obtain ⟨sn, hsn, rfl, e2⟩ := nI_sun0 q2.1
        obtain ⟨gn, hgn, rfl, e3⟩ := nI_arg2 (n := 30) (by decide) q2.2
        rw [e1, e2, e3]
        intro k hk
        have hk : k < T.1 + 1 := hk
        show vw_u T.2.1 T.1 bn k < yB Y ∧ vw_u T.2.2.1 T.1 sn k < 50 ∧ vw_u T.2.2.2 T.1 gn k ≤ 30
        by_cases e : k = T.1
        · subst e; simp only [vw_u_s]; omega
        · simp only [vw_u_n _ _ e]; exact o k (by omega)
      · exact o
    · exact o
  · exact o
theorem SOk_T0 {Y' : vw_Y} (o : yOk Y') : SOk Y' 0 T0 T0 T0 := ⟨o, fun k hk => absurd hk (Nat.not_lt_zero k), fun k hk => absurd hk (Nat.not_lt_zero k), fun k hk => absurd hk (Nat.not_lt_zero k), Or.inl rfl⟩
theorem pr_yard {sz : Nat} (u : LI h) (a b c d : Int32) : Pair m_V_yard m_R_yard [.int a, .int b, .int c, .int d] sz h := by
  obtain ⟨Y, law, L, S, R, tr, fa, SH, u, w, o⟩ := u
  have hV := vw_yard sz u a b c d
  have hR := fun h1 (w : RM h1 Y law L S R tr fa SH) => rv_yard sz w a b c d
  unfold YdS at hV
  unfold YdM at hR
  cases e : o_yard SH a b c d with
  | none =>
    rw [e] at hV hR
    exact pr_c w o hV hR
  | some q =>
    obtain ⟨oo, p⟩ := q
    rw [e] at hV hR
    cases oo with
    | none => exact pr_c w o hV hR
    | some Yn =>
      have hy : yOk Yn := by
        unfold o_yard at e
        split at e
        · injection e with e
          exact (p_yd_ok e).1
        · cases e
      exact pr_c w (SOk_T0 hy) hV hR
end PRS
section PRT
variable {h : vx_H} {sz : Nat}
theorem pr_ofPrisoner (u : LI h) (a b : Int32) : Pair m_V_ofPrisoner m_R_ofPrisoner [.int a, .int b] sz h := by
  obtain ⟨Y, law, L, S, R, tr, fa, SH, u, w, o⟩ := u
  exact pr_h u w o (vw_ofPrisoner sz u o a b) (rv_ofPrisoner sz w o a b)
theorem pr_law (u : LI h) (a : Int32) : Pair m_V_law m_R_law [.int a] sz h := by
  obtain ⟨Y, law, L, S, R, tr, fa, SH, u, w, o⟩ := u
  refine pr_c w ⟨o.1, o.2.1, o.2.2.1, o.2.2.2.1, ?_⟩ (vw_law sz u o a) (fun h1 w => rv_law sz w o a)
  unfold s_law
  split
  · rename_i q
    split
    · exact q
    · exact o.2.2.2.2
  · exact o.2.2.2.2
theorem pr_lock (u : LI h) (a b c : Int32) : Pair m_V_lock m_R_lock [.int a, .int b, .int c] sz h := by
  obtain ⟨Y, law, L, S, R, tr, fa, SH, u, w, o⟩ := u
  exact pr_c w ⟨o.1, lOk_s o.2.1 (by have := o.1.1; omega) a b c, o.2.2⟩ (vw_lock sz u o a b c) (fun h1 w => rv_lock sz w o a b c)
theorem pr_unlock (u : LI h) (a : Int32) : Pair m_V_unlock m_R_unlock [.int a] sz h := by
  obtain ⟨Y, law, L, S, R, tr, fa, SH, u, w, o⟩ := u
  exact pr_c w ⟨o.1, lOk_d o.2.1 a, o.2.2⟩ (vw_unlock sz u o a) (fun h1 w => rv_unlock sz w a)
theorem pr_strike (u : LI h) (a b c : Int32) : Pair m_V_strike m_R_strike [.int a, .int b, .int c] sz h := by
  obtain ⟨Y, law, L, S, R, tr, fa, SH, u, w, o⟩ := u
  exact pr_c w ⟨o.1, o.2.1, lOk_s o.2.2.1 (by have := o.1.2.1; omega) a b c, o.2.2.2⟩ (vw_strike sz u o a b c) (fun h1 w => rv_strike sz w o a b c)
theorem pr_eat (u : LI h) (a : Int32) : Pair m_V_eat m_R_eat [.int a] sz h := by
  obtain ⟨Y, law, L, S, R, tr, fa, SH, u, w, o⟩ := u
  exact pr_c w ⟨o.1, o.2.1, lOk_d o.2.2.1 a, o.2.2.2⟩ (vw_eat sz u o a) (fun h1 w => rv_eat sz w a)
theorem pr_gap (u : LI h) (a b : Int32) : Pair m_V_gap m_R_gap [.int a, .int b] sz h := by
  obtain ⟨Y, law, L, S, R, tr, fa, SH, u, w, o⟩ := u
  obtain ⟨y, uq⟩ := u.q o
  exact pr_q u w o (vw_gap h sz uq a b) (fun h1 hm gf e => rv_gap sz e o a b)
theorem pr_cellOf (u : LI h) (a b : Int32) : Pair m_V_cellOf m_R_cellOf [.int a, .int b] sz h := by
  obtain ⟨Y, law, L, S, R, tr, fa, SH, u, w, o⟩ := u
  obtain ⟨y, uq⟩ := u.q o
  exact pr_q u w o (vw_cellOf h sz uq a b) (fun h1 hm gf e => rv_cellOf sz e o a b)
theorem pr_wide (u : LI h) (a b : Int32) : Pair m_V_wide m_R_wide [.int a, .int b] sz h := by
  obtain ⟨Y, law, L, S, R, tr, fa, SH, u, w, o⟩ := u
  obtain ⟨y, uq⟩ := u.q o
  exact pr_q u w o (vw_wide h sz uq a b) (fun h1 hm gf e => rv_wide sz e o a b)
theorem pr_with (u : LI h) (a b : Int32) : Pair m_V_with m_R_with [.int a, .int b] sz h := by
  obtain ⟨Y, law, L, S, R, tr, fa, SH, u, w, o⟩ := u
  obtain ⟨y, uq⟩ := u.q o
  exact pr_q u w o (vw_with h sz uq a b) (fun h1 hm gf e => rv_with sz e o a b)
theorem pr_meet (u : LI h) (a b : Int32) : Pair m_V_meet m_R_meet [.int a, .int b] sz h := by
  obtain ⟨Y, law, L, S, R, tr, fa, SH, u, w, o⟩ := u
  obtain ⟨y, uq⟩ := u.q o
  exact pr_q u w o (vw_meet h sz uq a b) (fun h1 hm gf e => rv_meet sz e o a b)
theorem pr_rests (u : LI h) : Pair m_V_rests m_R_rests [] sz h := by
  obtain ⟨Y, law, L, S, R, tr, fa, SH, u, w, o⟩ := u
  obtain ⟨y, uq⟩ := u.q o
  exact pr_q u w o (vw_rests h sz uq) (fun h1 hm gf e => rv_rests sz e o)
theorem pr_apart (u : LI h) (a b : Int32) : Pair m_V_apart m_R_apart [.int a, .int b] sz h := by
  obtain ⟨Y, law, L, S, R, tr, fa, SH, u, w, o⟩ := u
  obtain ⟨y, uq⟩ := u.q o
  exact pr_q u w o (vw_apart h sz uq a b) (fun h1 hm gf e => rv_apart sz e o a b)
theorem pr_joined (u : LI h) (a b : Int32) : Pair m_V_joined m_R_joined [.int a, .int b] sz h := by
  obtain ⟨Y, law, L, S, R, tr, fa, SH, u, w, o⟩ := u
  obtain ⟨y, uq⟩ := u.q o
  exact pr_q u w o (vw_joined h sz uq a b) (fun h1 hm gf e => rv_joined sz e o a b)
theorem pr_pushed (u : LI h) (a b c : Int32) : Pair m_V_pushed m_R_pushed [.int a, .int b, .int c] sz h := by
  obtain ⟨Y, law, L, S, R, tr, fa, SH, u, w, o⟩ := u
  obtain ⟨y, uq⟩ := u.q o
  exact pr_q u w o (vw_pushed h sz uq a b c) (fun h1 hm gf e => rv_pushed sz e o a b c)
theorem pr_game (u : LI h) (a : Int32) : Pair m_V_game m_R_game [.int a] sz h := by
  obtain ⟨Y, law, L, S, R, tr, fa, SH, u, w, o⟩ := u
  obtain ⟨y, uq⟩ := u.q o
  exact pr_q u w o (vw_game h sz uq a) (fun h1 hm gf e => rv_game sz e o a)
theorem pr_knocks (u : LI h) (a b c : Int32) : Pair m_V_knocks m_R_knocks [.int a, .int b, .int c] sz h := by
  obtain ⟨Y, law, L, S, R, tr, fa, SH, u, w, o⟩ := u
  obtain ⟨y, uq⟩ := u.q o
  exact pr_q u w o (vw_knocks h sz uq a b c) (fun h1 hm gf e => rv_knocks sz e o a b c)
theorem pr_walk (u : LI h) (a b c d : Int32) : Pair m_V_walk m_R_walk [.int a, .int b, .int c, .int d] sz h := by
  obtain ⟨Y, law, L, S, R, tr, fa, SH, u, w, o⟩ := u
  exact pr_c w o (vw_walk sz u o a b c d) (fun h1 w => rv_walk sz w o a b c d)
theorem pr_reading (u : LI h) (a b c : Int32) : Pair m_V_reading m_R_reading [.int a, .int b, .int c] sz h := by
  obtain ⟨Y, law, L, S, R, tr, fa, SH, u, w, o⟩ := u
  exact pr_c w ⟨o.1, o.2.1, o.2.2.1, rOk_s o.2.2.2.1 o.1.1 a b c, o.2.2.2.2⟩ (vw_reading sz u o a b c) (fun h1 w => rv_reading sz w o a b c)
theorem pr_back (u : LI h) (a : Int32) : Pair m_V_back m_R_back [.int a] sz h := by
  obtain ⟨Y, law, L, S, R, tr, fa, SH, u, w, o⟩ := u
  exact pr_c w ⟨o.1, o.2.1, o.2.2.1, rOk_d o.2.2.2.1 a, o.2.2.2.2⟩ (vw_back sz u a) (fun h1 w => rv_back sz w a)
theorem RV.r {Y : vw_Y} {law : Int32} {L S R : vw_T} {tr fa : Int32} {SH : Nat → vw_Sh} (u : RV h Y law L S R tr fa SH) : hT h 11 8 R := by
  obtain ⟨y, y', t, u1, u2, u3, u4, u5, u6, u7, -⟩ := u
  exact u7
theorem pr_struck (u : LI h) : Pair m_V_struck m_R_struck [] sz h := by
  obtain ⟨Y, law, L, S, R, tr, fa, SH, u, w, o⟩ := u
  obtain ⟨y, uq⟩ := u.q o
  exact pr_q u w o (vw_struck h sz uq u.r o.2.2.2.1) (fun h1 hm gf e => rv_struck sz e o)
theorem pr_laws (u : LI h) : Pair m_V_laws m_R_laws [] sz h := by
  obtain ⟨Y, law, L, S, R, tr, fa, SH, u, w, o⟩ := u
  obtain ⟨y, uq⟩ := u.q o
  exact pr_q u w o (vw_laws h sz uq u.r o.2.2.2.1) (fun h1 hm gf e => rv_laws sz e o)
theorem pr_stood (u : LI h) (a : Int32) : Pair m_V_stood m_R_stood [.int a] sz h := by
  obtain ⟨Y, law, L, S, R, tr, fa, SH, u, w, o⟩ := u
  obtain ⟨y, uq⟩ := u.q o
  exact pr_q u w o (vw_stood h sz uq u.r o.2.2.2.1 a) (fun h1 hm gf e => rv_stood sz e o a)
theorem pr_odds (u : LI h) (a b c d : Int32) : PairL m_V_odds m_R_odds [.int a, .int b, .int c, .int d] sz h := by
  obtain ⟨Y, law, L, S, R, tr, fa, SH, u, w, o⟩ := u
  obtain ⟨y, uq⟩ := u.q o
  exact pr_ql u w o (vw_odds h sz uq a b c d) (fun h1 hm gf e => rv_odds sz e o a b c d)
theorem pr_sheet (u : LI h) (a b c : Int32) : Pair m_V_sheet m_R_sheet [.int a, .int b, .int c] sz h := by
  obtain ⟨Y, law, L, S, R, tr, fa, SH, u, w, o⟩ := u
  exact pr_c w o (vw_sheet sz u a b c) (fun h1 w => rv_sheet sz w a b c)
theorem pr_lose (u : LI h) (a : Int32) : Pair m_V_lose m_R_lose [.int a] sz h := by
  obtain ⟨Y, law, L, S, R, tr, fa, SH, u, w, o⟩ := u
  exact pr_c w o (vw_lose sz u a) (fun h1 w => rv_lose sz w a)
theorem pr_put (u : LI h) (a b c : Int32) : Pair m_V_put m_R_put [.int a, .int b, .int c] sz h := by
  obtain ⟨Y, law, L, S, R, tr, fa, SH, u, w, o⟩ := u
  exact pr_c w o (vw_put sz u a b c) (fun h1 w => rv_put sz w a b c)
theorem pr_cell (u : LI h) (a b c : Int32) : PairL m_V_cell m_R_cell [.int a, .int b, .int c] sz h := by
  obtain ⟨Y, law, L, S, R, tr, fa, SH, u, w, o⟩ := u
  exact pr_cl w o (vw_cell sz u a b c) (fun h1 w => rv_cell sz w a b c)
theorem pr_copy (u : LI h) (a b c d e : Int32) : Pair m_V_copy m_R_copy [.int a, .int b, .int c, .int d, .int e] sz h := by
  obtain ⟨Y, law, L, S, R, tr, fa, SH, u, w, o⟩ := u
  exact pr_c w o (vw_copy sz u a b c d e) (fun h1 w => rv_copy sz w a b c d e)
theorem pr_tell (u : LI h) (a : Int32) : Pair m_V_tell m_R_tell [.int a] sz h := by
  obtain ⟨Y, law, L, S, R, tr, fa, SH, u, w, o⟩ := u
  exact pr_c w o (vw_tell sz u o a) (fun h1 w => rv_tell sz w o a)
theorem pr_visit (u : LI h) (a : Int32) : Pair m_V_visit m_R_visit [.int a] sz h := by
  obtain ⟨Y, law, L, S, R, tr, fa, SH, u, w, o⟩ := u
  exact pr_c w o (vw_visit sz u o a) (fun h1 w => rv_visit sz w o a)
theorem pr_as (u : LI h) (a b : Int32) : Pair m_V_as m_R_as [.int a, .int b] sz h := by
  obtain ⟨Y, law, L, S, R, tr, fa, SH, u, w, o⟩ := u
  exact pr_c w o (vw_as sz u o a b) (fun h1 w => rv_as sz w o a b)
theorem pr_trace (u : LI h) : Pair m_V_trace m_R_trace [] sz h := by
  obtain ⟨Y, law, L, S, R, tr, fa, SH, u, w, o⟩ := u
  exact pr_h u w o (vw_trace sz u) (rv_trace sz w)
theorem pr_fault (u : LI h) : Pair m_V_fault m_R_fault [] sz h := by
  obtain ⟨Y, law, L, S, R, tr, fa, SH, u, w, o⟩ := u
  exact pr_h u w o (vw_fault sz u) (rv_fault sz w)
theorem pr_many (u : LI h) (a : Int32) : Pair m_V_many m_R_many [.int a] sz h := by
  obtain ⟨Y, law, L, S, R, tr, fa, SH, u, w, o⟩ := u
  exact pr_h u w o (vw_many sz u a) (rv_many sz w a)
end PRT
