/-! the reference: its object by its numbers -/
def mF (fa tr In Bo Pr lw ap ri rb rm lk st lt su hm rd : Int32) : List Value := [.int fa, .int tr, .ref 39, .ref 40, .ref 41, .int In, .int Bo, .int Pr, .ref 42, .ref 43, .ref 44, .int lw, .int ap, .int ri, .int rb, .int rm, .ref 45, .ref 46, .ref 47, .int lk, .ref 48, .ref 49, .ref 50, .int st, .ref 51, .ref 52, .ref 53, .int lt, .int su, .ref 54, .int hm, .int rd, .ref 55, .ref 56, .ref 57]
section MF
variable {fa tr In Bo Pr lw ap ri rb rm lk st lt su hm rd x : Int32}
theorem mF_g0 : (mF fa tr In Bo Pr lw ap ri rb rm lk st lt su hm rd)[0]? = some (.int fa) := rfl
theorem mF_g1 : (mF fa tr In Bo Pr lw ap ri rb rm lk st lt su hm rd)[1]? = some (.int tr) := rfl
theorem mF_g2 : (mF fa tr In Bo Pr lw ap ri rb rm lk st lt su hm rd)[2]? = some (.ref 39) := rfl
theorem mF_g3 : (mF fa tr In Bo Pr lw ap ri rb rm lk st lt su hm rd)[3]? = some (.ref 40) := rfl
theorem mF_g4 : (mF fa tr In Bo Pr lw ap ri rb rm lk st lt su hm rd)[4]? = some (.ref 41) := rfl
theorem mF_g5 : (mF fa tr In Bo Pr lw ap ri rb rm lk st lt su hm rd)[5]? = some (.int In) := rfl
theorem mF_g6 : (mF fa tr In Bo Pr lw ap ri rb rm lk st lt su hm rd)[6]? = some (.int Bo) := rfl
theorem mF_g7 : (mF fa tr In Bo Pr lw ap ri rb rm lk st lt su hm rd)[7]? = some (.int Pr) := rfl
theorem mF_g8 : (mF fa tr In Bo Pr lw ap ri rb rm lk st lt su hm rd)[8]? = some (.ref 42) := rfl
theorem mF_g9 : (mF fa tr In Bo Pr lw ap ri rb rm lk st lt su hm rd)[9]? = some (.ref 43) := rfl
theorem mF_g10 : (mF fa tr In Bo Pr lw ap ri rb rm lk st lt su hm rd)[10]? = some (.ref 44) := rfl
theorem mF_g11 : (mF fa tr In Bo Pr lw ap ri rb rm lk st lt su hm rd)[11]? = some (.int lw) := rfl
theorem mF_g12 : (mF fa tr In Bo Pr lw ap ri rb rm lk st lt su hm rd)[12]? = some (.int ap) := rfl
theorem mF_g13 : (mF fa tr In Bo Pr lw ap ri rb rm lk st lt su hm rd)[13]? = some (.int ri) := rfl
theorem mF_g14 : (mF fa tr In Bo Pr lw ap ri rb rm lk st lt su hm rd)[14]? = some (.int rb) := rfl
theorem mF_g15 : (mF fa tr In Bo Pr lw ap ri rb rm lk st lt su hm rd)[15]? = some (.int rm) := rfl
theorem mF_g16 : (mF fa tr In Bo Pr lw ap ri rb rm lk st lt su hm rd)[16]? = some (.ref 45) := rfl
theorem mF_g17 : (mF fa tr In Bo Pr lw ap ri rb rm lk st lt su hm rd)[17]? = some (.ref 46) := rfl
theorem mF_g18 : (mF fa tr In Bo Pr lw ap ri rb rm lk st lt su hm rd)[18]? = some (.ref 47) := rfl
theorem mF_g19 : (mF fa tr In Bo Pr lw ap ri rb rm lk st lt su hm rd)[19]? = some (.int lk) := rfl
theorem mF_g20 : (mF fa tr In Bo Pr lw ap ri rb rm lk st lt su hm rd)[20]? = some (.ref 48) := rfl
theorem mF_g21 : (mF fa tr In Bo Pr lw ap ri rb rm lk st lt su hm rd)[21]? = some (.ref 49) := rfl
theorem mF_g22 : (mF fa tr In Bo Pr lw ap ri rb rm lk st lt su hm rd)[22]? = some (.ref 50) := rfl
theorem mF_g23 : (mF fa tr In Bo Pr lw ap ri rb rm lk st lt su hm rd)[23]? = some (.int st) := rfl
theorem mF_g24 : (mF fa tr In Bo Pr lw ap ri rb rm lk st lt su hm rd)[24]? = some (.ref 51) := rfl
theorem mF_g25 : (mF fa tr In Bo Pr lw ap ri rb rm lk st lt su hm rd)[25]? = some (.ref 52) := rfl
theorem mF_g26 : (mF fa tr In Bo Pr lw ap ri rb rm lk st lt su hm rd)[26]? = some (.ref 53) := rfl
theorem mF_g27 : (mF fa tr In Bo Pr lw ap ri rb rm lk st lt su hm rd)[27]? = some (.int lt) := rfl
theorem mF_g28 : (mF fa tr In Bo Pr lw ap ri rb rm lk st lt su hm rd)[28]? = some (.int su) := rfl
theorem mF_g29 : (mF fa tr In Bo Pr lw ap ri rb rm lk st lt su hm rd)[29]? = some (.ref 54) := rfl
theorem mF_g30 : (mF fa tr In Bo Pr lw ap ri rb rm lk st lt su hm rd)[30]? = some (.int hm) := rfl
theorem mF_g31 : (mF fa tr In Bo Pr lw ap ri rb rm lk st lt su hm rd)[31]? = some (.int rd) := rfl
theorem mF_g32 : (mF fa tr In Bo Pr lw ap ri rb rm lk st lt su hm rd)[32]? = some (.ref 55) := rfl
theorem mF_g33 : (mF fa tr In Bo Pr lw ap ri rb rm lk st lt su hm rd)[33]? = some (.ref 56) := rfl
theorem mF_g34 : (mF fa tr In Bo Pr lw ap ri rb rm lk st lt su hm rd)[34]? = some (.ref 57) := rfl
theorem mF_s0 : (mF fa tr In Bo Pr lw ap ri rb rm lk st lt su hm rd).set 0 (.int x) = mF x tr In Bo Pr lw ap ri rb rm lk st lt su hm rd := rfl
theorem mF_s1 : (mF fa tr In Bo Pr lw ap ri rb rm lk st lt su hm rd).set 1 (.int x) = mF fa x In Bo Pr lw ap ri rb rm lk st lt su hm rd := rfl
theorem mF_s5 : (mF fa tr In Bo Pr lw ap ri rb rm lk st lt su hm rd).set 5 (.int x) = mF fa tr x Bo Pr lw ap ri rb rm lk st lt su hm rd := rfl
theorem mF_s6 : (mF fa tr In Bo Pr lw ap ri rb rm lk st lt su hm rd).set 6 (.int x) = mF fa tr In x Pr lw ap ri rb rm lk st lt su hm rd := rfl
theorem mF_s7 : (mF fa tr In Bo Pr lw ap ri rb rm lk st lt su hm rd).set 7 (.int x) = mF fa tr In Bo x lw ap ri rb rm lk st lt su hm rd := rfl
theorem mF_s11 : (mF fa tr In Bo Pr lw ap ri rb rm lk st lt su hm rd).set 11 (.int x) = mF fa tr In Bo Pr x ap ri rb rm lk st lt su hm rd := rfl
theorem mF_s12 : (mF fa tr In Bo Pr lw ap ri rb rm lk st lt su hm rd).set 12 (.int x) = mF fa tr In Bo Pr lw x ri rb rm lk st lt su hm rd := rfl
theorem mF_s13 : (mF fa tr In Bo Pr lw ap ri rb rm lk st lt su hm rd).set 13 (.int x) = mF fa tr In Bo Pr lw ap x rb rm lk st lt su hm rd := rfl
theorem mF_s14 : (mF fa tr In Bo Pr lw ap ri rb rm lk st lt su hm rd).set 14 (.int x) = mF fa tr In Bo Pr lw ap ri x rm lk st lt su hm rd := rfl
theorem mF_s15 : (mF fa tr In Bo Pr lw ap ri rb rm lk st lt su hm rd).set 15 (.int x) = mF fa tr In Bo Pr lw ap ri rb x lk st lt su hm rd := rfl
theorem mF_s19 : (mF fa tr In Bo Pr lw ap ri rb rm lk st lt su hm rd).set 19 (.int x) = mF fa tr In Bo Pr lw ap ri rb rm x st lt su hm rd := rfl
theorem mF_s23 : (mF fa tr In Bo Pr lw ap ri rb rm lk st lt su hm rd).set 23 (.int x) = mF fa tr In Bo Pr lw ap ri rb rm lk x lt su hm rd := rfl
theorem mF_s27 : (mF fa tr In Bo Pr lw ap ri rb rm lk st lt su hm rd).set 27 (.int x) = mF fa tr In Bo Pr lw ap ri rb rm lk st x su hm rd := rfl
theorem mF_s28 : (mF fa tr In Bo Pr lw ap ri rb rm lk st lt su hm rd).set 28 (.int x) = mF fa tr In Bo Pr lw ap ri rb rm lk st lt x hm rd := rfl
theorem mF_s30 : (mF fa tr In Bo Pr lw ap ri rb rm lk st lt su hm rd).set 30 (.int x) = mF fa tr In Bo Pr lw ap ri rb rm lk st lt su x rd := rfl
theorem mF_s31 : (mF fa tr In Bo Pr lw ap ri rb rm lk st lt su hm rd).set 31 (.int x) = mF fa tr In Bo Pr lw ap ri rb rm lk st lt su hm x := rfl
theorem mF_len : (mF fa tr In Bo Pr lw ap ri rb rm lk st lt su hm rd).length = 35 := rfl
end MF
/-- rows of threes -/
def mT (h : vx_H) (t n : Nat) (T : vw_T) : Prop := ∃ f1 f2 f3 : Nat → Int32, h t = some (.inl (n, f1)) ∧ h (t + 1) = some (.inl (n, f2)) ∧ h (t + 2) = some (.inl (n, f3)) ∧ T.1 ≤ n ∧ ∀ k, k < T.1 → f1 k = nI (T.2.1 k) ∧ f2 k = nI (T.2.2.1 k) ∧ f3 k = nI (T.2.2.2 k)
def mY (h : vx_H) (Y : vw_Y) : Prop := ∃ fg fk fp : Nat → Int32, h 42 = some (.inl (5, fg)) ∧ h 43 = some (.inl (8, fk)) ∧ h 44 = some (.inl (8, fp)) ∧ (∀ b, b < yB Y → fg b = nI (yG Y b)) ∧ (∀ p, p < yN Y → fk p = nI (yK Y p)) ∧ (∀ p, p < yN Y → fp p = nI (yP Y p))
def rO (h : vx_H) (Y : vw_Y) (law lt su : Int32) (L S R : vw_T) (fa tr hm : Int32) : Prop := ∃ ap ri rb rm : Int32, h 38 = some (.inr (.inr (7, mF fa tr (nI (yI Y)) (nI (yB Y)) (nI (yN Y)) law ap ri rb rm (nI L.1) (nI S.1) lt su hm (nI R.1))))
/-- the reference between two steps of a reckoning; gf: where boards are -/
def rW (h : vx_H) (Y : vw_Y) (law lt su : Int32) (L S R : vw_T) (fa tr hm : Int32) (gf : Nat → Int32) : Prop := rO h Y law lt su L S R fa tr hm ∧ mY h Y ∧ mT h 48 6 L ∧ mT h 51 6 S ∧ mT h 55 8 R ∧ h 54 = some (.inl (5, gf))
def vm (h h' : vx_H) : Prop := ∀ k, k ≠ 38 → k ≠ 54 → h' k = h k
theorem vm.rf {h : vx_H} : vm h h := fun _ _ _ => rfl
theorem vm.tr {h h1 h2 : vx_H} (u : vm h h1) (w : vm h1 h2) : vm h h2 := fun k a b => (w k a b).trans (u k a b)
theorem vm.o {h : vx_H} {c : vx_C} : vm h (vx_up h 38 c) := fun k a _ => vx_up_n h c a
theorem vm.g {h : vx_H} {c : vx_C} : vm h (vx_up h 54 c) := fun k _ a => vx_up_n h c a
theorem mT.mv {h h' : vx_H} {t n : Nat} {T : vw_T} (u : mT h t n T) (w : vm h h') (ht : 39 ≤ t ∧ t ≤ 51 ∨ 55 ≤ t) : mT h' t n T := by
  obtain ⟨f1, f2, f3, u1, u2, u3, u4⟩ := u
  exact ⟨f1, f2, f3, by rw [w t (by omega) (by omega)]; exact u1, by rw [w (t + 1) (by omega) (by omega)]; exact u2, by rw [w (t + 2) (by omega) (by omega)]; exact u3, u4⟩
theorem mY.mv {h h' : vx_H} {Y : vw_Y} (u : mY h Y) (w : vm h h') : mY h' Y := by
  obtain ⟨fg, fk, fp, u1, u2, u3, u4⟩ := u
  exact ⟨fg, fk, fp, by rw [w 42 (by omega) (by omega)]; exact u1, by rw [w 43 (by omega) (by omega)]; exact u2, by rw [w 44 (by omega) (by omega)]; exact u3, u4⟩
section RW
variable {h : vx_H} {Y : vw_Y} {law lt su : Int32} {L S R : vw_T} {fa tr hm : Int32} {gf : Nat → Int32}
theorem rW.g (u : rW h Y law lt su L S R fa tr hm gf) (gf' : Nat → Int32) : rW (vx_up h 54 (.inl (5, gf'))) Y law lt su L S R fa tr hm gf' := by
  obtain ⟨⟨ap, ri, rb, rm, o⟩, y, l, s, r, g⟩ := u
  exact ⟨⟨ap, ri, rb, rm, (vx_up_n _ _ (by decide)).trans o⟩, y.mv vm.g, l.mv vm.g (by omega), s.mv vm.g (by omega), r.mv vm.g (by omega), vx_up_s _ _ _⟩
theorem rW.o (u : rW h Y law lt su L S R fa tr hm gf) (law' lt' su' fa' tr' hm' ap ri rb rm : Int32) : rW (vx_up h 38 (.inr (.inr (7, mF fa' tr' (nI (yI Y)) (nI (yB Y)) (nI (yN Y)) law' ap ri rb rm (nI L.1) (nI S.1) lt' su' hm' (nI R.1))))) Y law' lt' su' L S R fa' tr' hm' gf := by
  obtain ⟨-, y, l, s, r, g⟩ := u
  exact ⟨⟨ap, ri, rb, rm, vx_up_s _ _ _⟩, y.mv vm.o, l.mv vm.o (by omega), s.mv vm.o (by omega), r.mv vm.o (by omega), (vx_up_n _ _ (by decide)).trans g⟩
end RW
