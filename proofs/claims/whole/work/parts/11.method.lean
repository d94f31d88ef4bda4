/-! a method's contract out of its blocks -/
def vx_ar : List Value → vx_L
  | [] => []
  | v :: r => if v.category = 2 then some v :: none :: vx_ar r else some v :: vx_ar r
theorem vx_ar_len (base b : Nat) : ∀ As : List Value, (lg_sl (As.map (vx_v base b))).length = (vx_ar As).length
  | [] => rfl
  | v :: r => by
    have ih := vx_ar_len base b r
    unfold lg_sl at ih ⊢
    rw [List.map_cons, List.flatMap_cons, List.length_append, ih, vx_v_cat]
    show _ = (if v.category = 2 then some v :: none :: vx_ar r else some v :: vx_ar r).length
    by_cases hc : v.category = 2
    · rw [if_pos hc, if_pos hc]; simp; omega
    · rw [if_neg hc, if_neg hc]; simp; omega
theorem vx_ar_at (base b : Nat) : ∀ (As : List Value) (k i : Nat) (v : Value), (vx_ar As)[i]? = some (some v) → (k + i, vx_v base b v) ∈ lv_args k (As.map (vx_v base b))
  | [], _, _, _, h => by simp [vx_ar] at h
  | w :: r, k, i, v, h => by
    unfold vx_ar at h
    rw [List.map_cons]
    unfold lv_args
    rw [vx_v_cat]
    by_cases hc : w.category = 2
    · rw [if_pos hc] at h
      rw [if_pos hc]
      match i, h with
      | 0, h =>
        simp only [List.getElem?_cons_zero, Option.some.injEq] at h
        subst h
        exact List.mem_cons_self
      | 1, h => simp at h
      | j + 2, h =>
        simp only [List.getElem?_cons_succ] at h
        have := vx_ar_at base b r (k + 2) j v h
        rw [show k + (j + 2) = k + 2 + j by omega]
        exact List.mem_cons_of_mem _ this
    · rw [if_neg hc] at h
      rw [if_neg hc]
      match i, h with
      | 0, h =>
        simp only [List.getElem?_cons_zero, Option.some.injEq] at h
        subst h
        exact List.mem_cons_self
      | j + 1, h =>
        simp only [List.getElem?_cons_succ] at h
        have := vx_ar_at base b r (k + 1) j v h
        rw [show k + (j + 1) = k + 1 + j by omega]
        exact List.mem_cons_of_mem _ this
theorem vx_entry {base b nL : Nat} {As : List Value} (hlen : (vx_ar As).length ≤ nL) : vx_RL base b nL (vx_ar As ++ List.replicate (nL - (vx_ar As).length) none) ((lg_sl (As.map (vx_v base b)) ++ List.replicate (nL - (lg_sl (As.map (vx_v base b))).length) Slot.unset).toArray) := by
  have h := lv_entry (As.map (vx_v base b)) (n := nL) (by rw [vx_ar_len]; exact hlen)
  refine ⟨by simp; omega, h.1, h.2.1, fun i v hi => ?_⟩
  by_cases hl : i < (vx_ar As).length
  · rw [List.getElem?_append_left hl] at hi
    have := vx_ar_at base b As 0 i v hi
    rw [Nat.zero_add] at this
    exact h.2.2 _ this
  · rw [List.getElem?_append_right (by omega), List.getElem?_replicate] at hi
    split at hi <;> cases hi
theorem vx_ok {n : Nat} {M : vx_M} (hM : vx_mt[n]? = some M) {ow : Nat} (hcn : vx_cn[ow]? = some M.1.cls) {tab : List (Nat × List vx_I)} (hck : vx_ckM M.2.1 ow M.2.2.1 M.2.2.2.2.1 (decide (M.2.2.2.2.2.2.2.2 = 2)) M.2.2.2.1 tab = true) {As : List Value} {sz : Nat} {h : vx_H} {P : Option Value → vx_H → Prop} {L0 : vx_L} (hlen : (vx_ar As).length ≤ M.2.2.1) (hL0 : vx_ar As ++ List.replicate (M.2.2.1 - (vx_ar As).length) none = L0)
    {Q : Option Value → vx_Z → vx_H → Prop} (hQP : ∀ r z' h', Q r z' h' → z'.1 = sz + M.2.2.2.2.2.1 ∧ P r h')
    (body : ∀ X, vx_cl0 none (sz + M.2.2.2.2.2.1, M.2.2.2.2.2.2.1) tab Q X → X 0 L0 [] (sz, 0) h) : vx_Ok n As sz h P := by
  intro M' hM' l base b cI cS D
  cases hM.symm.trans hM'
  obtain ⟨f1, f2, f3, f4, -, -, f5⟩ := vx_mf (List.mem_of_getElem? hM)
  refine Met.ofW (cc := M.2.1) (maxL := M.2.2.1) (ret := M.2.2.2.1) f4 rfl ?_
  intro p e s m args below meth c s₁ B hml hv
  obtain ⟨rfl, hsz, hso, hP, hK, hN⟩ := hv
  have hr := B.returns
  have hlocks := B.notSynchronized
  have hts : ∀ w ∈ vx_TB, w.before (As.map (vx_v base b)).toArray s = true := fun w hw => atoms_spec (ws := Cond.code M.1 M.2.1 M.2.2.1 M.2.2.2.1 :: vx_TB) B.pre w (List.mem_cons_of_mem _ hw)
  have hown : s.vm.findClass M.1.cls = some m.cls := findClass_of_methodNamed B.named
  have F : vx_Fx p (headSpec (Cond.code M.1 M.2.1 M.2.2.1 M.2.2.2.1 :: vx_TB) { frames := M.2.2.2.2.1, cells := M.2.2.2.2.2.1, slots := M.2.2.2.2.2.2.1, locals := 40 * M.2.2.2.2.1 }).room s m (As.map (vx_v base b)).toArray meth c base b cI cS D none (sz + M.2.2.2.2.2.1, M.2.2.2.2.2.2.1) M.2.1 M.1.cls M.2.2.1 M.2.2.2.2.1 (decide (M.2.2.2.2.2.2.2.2 = 2)) :=
    ⟨B.exec, B.bytes, hml, hown, hts, hK, hN, by omega, Nat.le_refl _, Nat.le_refl _, by show base + (sz + M.2.2.2.2.2.1) ≤ s.heap.size + M.2.2.2.2.2.1; omega, Nat.le_refl _, fun hi => by
      have := (name_of_methodNamed B.named B.method).1
      rw [this]
      exact (f5 (by simpa using hi)).2.1, fun q hq => by cases hq⟩
  have hW := vx_walk (l := l) (e := e) (below := below) (Qs := MQ below (vx_Qc base b cI cS D (sz + M.2.2.2.2.2.1) P) (As.map (vx_v base b)).toArray s M.2.2.2.2.2.1 M.2.2.2.2.2.2.1 (fun q => base ≤ q)) (rt := M.2.2.2.1) F hcn hck (fun r z h hq pc ls H locs cells slots hI hc => by
    obtain ⟨hq1, hq2⟩ := hQP _ _ _ hq
    have i1 := hI.1
    have i2 := hI.2.1
    dsimp only at i2
    have hc1 : cells = M.2.2.2.2.2.1 := by omega
    refine W.widen (k := M.2.2.2.2.2.1) (n := M.2.2.2.2.2.2.1) (by omega) (by omega) ?_
    have hP1 := hI.2.2.2.1
    have hso1 := hI.2.2.1
    rw [hq1] at hP1 hso1
    have hS := hI.2.2.2.2
    rcases hc with ⟨x, rfl, hd, hrt⟩ | ⟨x, rfl, hd, hrt⟩ | ⟨rfl, hd, hrt⟩
    · rcases hrt with hrt | ⟨hrt, hx⟩
      · exact W.iret (v := x) B.exec B.bytes (hr.trans hrt) (fun t ht hW => ⟨⟨_, h, hq2, rfl, hso1, by rw [ht]; exact hP1⟩, hS.F ht⟩) hS.2.2 hd
      · exact W.zret (v := x) B.exec B.bytes (hr.trans hrt) (by rcases hx with rfl | rfl <;> decide) (fun t ht hW => ⟨⟨_, h, hq2, rfl, hso1, by rw [ht]; exact hP1⟩, hS.F ht⟩) hS.2.2 hd
    · exact W.lret (v := x) B.exec B.bytes (hr.trans hrt) (fun t ht hW => ⟨⟨_, h, hq2, rfl, hso1, by rw [ht]; exact hP1⟩, hS.F ht⟩) hS.2.2 hd
    · exact W.vret B.exec B.bytes (hr.trans hrt) (fun t ht hW => ⟨⟨_, h, hq2, rfl, hso1, by rw [ht]; exact hP1⟩, hS.F ht⟩) hS.2.2 hd) body
  rw [lg_entry_eq]
  exact hW _ _ _ _ ⟨rfl, rfl, rfl, rfl⟩ _ _ _ 0 0 (by rw [← hL0]; exact vx_entry hlen) ⟨hsz, ⟨rfl, by dsimp only; omega, Nat.zero_le _⟩, hso, hP, va_S.rf⟩
/-- a method that makes nothing -/
theorem vx_ok0 {n : Nat} {M : vx_M} (hM : vx_mt[n]? = some M) {ow : Nat} (hcn : vx_cn[ow]? = some M.1.cls) {tab : List (Nat × List vx_I)} (hck : vx_ckM M.2.1 ow M.2.2.1 M.2.2.2.2.1 (decide (M.2.2.2.2.2.2.2.2 = 2)) M.2.2.2.1 tab = true) (hmc : M.2.2.2.2.2.1 = 0) {As : List Value} {sz : Nat} {h : vx_H} {P : Option Value → vx_H → Prop} {L0 : vx_L} (hlen : (vx_ar As).length ≤ M.2.2.1) (hL0 : vx_ar As ++ List.replicate (M.2.2.1 - (vx_ar As).length) none = L0)
    (body : ∀ (lim z : vx_Z) X, vx_cl0 none lim tab (fun r z' h' => z' = z ∧ P r h') X → X 0 L0 [] z h) : vx_Ok n As sz h P := by
  exact vx_ok hM hcn hck hlen hL0 (Q := fun r z' h' => z' = (sz, 0) ∧ P r h') (fun r z' h' hq => ⟨by rw [hq.1, hmc]; rfl, hq.2⟩) (fun X hX => body (sz + M.2.2.2.2.2.1, M.2.2.2.2.2.2.1) (sz, 0) X hX)
