/-! the step is sound -/
def vx_RL (base b nL : Nat) (L : vx_L) (ls : Array Slot) : Prop := L.length = nL ∧ ls.size = nL ∧ lv_wf ls ∧ ∀ (i : Nat) (v : Value), L[i]? = some (some v) → ls[i]? = some (.val (vx_v base b v))
/-- the listed locals -/
def vx_as (base b : Nat) (L : vx_L) : List (Nat × Value) := (List.range L.length).filterMap (fun i => (L[i]?).join.map (fun v => (i, vx_v base b v)))
theorem vx_as_mem {base b : Nat} {L : vx_L} {q : Nat × Value} : q ∈ vx_as base b L ↔ ∃ v, L[q.1]? = some (some v) ∧ q.2 = vx_v base b v := by
  unfold vx_as
  rw [List.mem_filterMap]
  constructor
  · rintro ⟨i, hi, h⟩
    rw [Option.map_eq_some_iff] at h
    obtain ⟨v, h1, rfl⟩ := h
    refine ⟨v, ?_, rfl⟩
    cases hL : L[i]? with
    | none => rw [hL] at h1; cases h1
    | some x => rw [hL] at h1; simp at h1; simp [h1]
  · rintro ⟨v, h1, h2⟩
    refine ⟨q.1, List.mem_range.mpr (List.getElem?_eq_some_iff.mp h1).1, ?_⟩
    rw [h1]
    simp [← h2]
theorem vx_RL.has {base b nL : Nat} {L : vx_L} {ls : Array Slot} (h : vx_RL base b nL L ls) : lv_has ls nL (vx_as base b L) := by
  refine ⟨h.2.1, h.2.2.1, fun q hq => ?_⟩
  obtain ⟨v, h1, h2⟩ := vx_as_mem.mp hq
  rw [h2]
  exact h.2.2.2 q.1 v h1
theorem vx_nl_use {L : vx_L} {a j : Nat} {w : Value} (h : vx_nl L a) (hj : a = j + 1) (e : L[j]? = some (some w)) : w.category ≠ 2 := by
  subst hj
  cases w <;> simp [vx_nl, e, Value.category] at h ⊢
theorem vx_RL.set {base b nL : Nat} {L : vx_L} {ls ls' : Array Slot} {a : Nat} {v : Value} (h : vx_RL base b nL L ls) (hn : vx_nl L a)
    (h' : lv_has ls' nL ((a, vx_v base b v) :: (vx_as base b L).filter (fun q => !(q.1 == a) && !(q.1 + 1 == a && q.2.category == 2)))) : vx_RL base b nL (L.set a (some v)) ls' := by
  refine ⟨by rw [List.length_set]; exact h.1, h'.1, h'.2.1, fun i w hi => ?_⟩
  by_cases e : i = a
  · subst e
    have hl : i < L.length := by
      have := (List.getElem?_eq_some_iff.mp hi).1
      simpa using this
    rw [List.getElem?_set_self hl] at hi
    cases hi
    exact h'.2.2 (i, vx_v base b v) List.mem_cons_self
  · rw [List.getElem?_set_ne (Ne.symm e)] at hi
    refine h'.2.2 (i, vx_v base b w) (List.mem_cons_of_mem _ (List.mem_filter.mpr ⟨vx_as_mem.mpr ⟨w, hi, rfl⟩, ?_⟩))
    simp only [Bool.and_eq_true, Bool.not_eq_true', beq_eq_false_iff_ne, ne_eq, Bool.and_eq_false_iff]
    refine ⟨e, ?_⟩
    by_cases e2 : i + 1 = a
    · right
      rw [vx_v_cat]
      exact vx_nl_use hn e2.symm hi
    · left; exact e2
theorem vx_RL.set2 {base b nL : Nat} {L : vx_L} {ls ls' : Array Slot} {a : Nat} {v : Value} (h : vx_RL base b nL L ls) (hn : vx_nl L a)
    (h' : lv_has ls' nL ((a, vx_v base b v) :: (vx_as base b L).filter (fun q => !(q.1 == a) && (!(q.1 == a + 1) && !(q.1 + 1 == a && q.2.category == 2))))) : vx_RL base b nL ((L.set a (some v)).set (a + 1) none) ls' := by
  refine ⟨by rw [List.length_set, List.length_set]; exact h.1, h'.1, h'.2.1, fun i w hi => ?_⟩
  by_cases e1 : i = a + 1
  · subst e1
    by_cases hl : a + 1 < (L.set a (some v)).length
    · rw [List.getElem?_set_self hl] at hi
      cases hi
    · rw [List.getElem?_eq_none (by rw [List.length_set]; omega)] at hi
      cases hi
  rw [List.getElem?_set_ne (Ne.symm e1)] at hi
  by_cases e : i = a
  · subst e
    have hl : i < L.length := by
      have := (List.getElem?_eq_some_iff.mp hi).1
      simpa using this
    rw [List.getElem?_set_self hl] at hi
    cases hi
    exact h'.2.2 (i, vx_v base b v) List.mem_cons_self
  · rw [List.getElem?_set_ne (Ne.symm e)] at hi
    refine h'.2.2 (i, vx_v base b w) (List.mem_cons_of_mem _ (List.mem_filter.mpr ⟨vx_as_mem.mpr ⟨w, hi, rfl⟩, ?_⟩))
    simp only [Bool.and_eq_true, Bool.not_eq_true', beq_eq_false_iff_ne, ne_eq, Bool.and_eq_false_iff]
    refine ⟨e, e1, ?_⟩
    by_cases e2 : i + 1 = a
    · right
      rw [vx_v_cat]
      exact vx_nl_use hn e2.symm hi
    · left; exact e2
/-! what stands at a point of a walk -/
section VXS
variable {p : Program} {l : Launch} {e : Env} {R : Room} {s : State} {m : MethodId} {args : Array Value} {below : List Frame} {meth : Method} {c : Code} {Qs : State → Prop}
def vx_In (s : State) (base b : Nat) (cI cS : ClassId) (D : va_G) (lim : vx_Z) (H : Heap) (locs : List Loc) (cells slots : Nat) (z : vx_Z) (h : vx_H) : Prop :=
  s.heap.size + cells = base + z.1 ∧ (slots = z.2 ∧ z.1 ≤ lim.1 ∧ z.2 ≤ lim.2) ∧ (∀ k, (h k).isSome = true ↔ k < z.1) ∧ va_P D vx_cl (vx_w base b cI cS z.1 h) H ∧ va_S (fun q => base ≤ q) s.heap H locs
/-- from every state that is as told the machine comes to its end -/
def vx_G (p : Program) (l : Launch) (e : Env) (R : Room) (s : State) (m : MethodId) (args : Array Value) (below : List Frame) (meth : Method) (c : Code) (Qs : State → Prop) (base b : Nat) (cI cS : ClassId) (D : va_G) (lim : vx_Z) (nL : Nat) (pc : Nat) (g : vx_K) : Prop :=
  ∀ (L : vx_L) (S : List Value) (z : vx_Z) (h : vx_H), g L S z h → ∀ (ls : Array Slot) (H : Heap) (locs : List Loc) (cells slots : Nat), vx_RL base b nL L ls → vx_In s base b cI cS D lim H locs cells slots z h →
    W p l e R s m args below meth c H locs cells slots Qs (F0 m pc ls (S.map (vx_v base b)))
/-- what stays the same during a walk -/
def vx_Fx (p : Program) (R : Room) (s : State) (m : MethodId) (args : Array Value) (meth : Method) (c : Code) (base b : Nat) (cI cS : ClassId) (D : va_G) (sc : Option (Nat × (Nat → Int32))) (lim : vx_Z) (cc : ByteArray) (ow : String) (nL lev : Nat) (isI : Bool) : Prop :=
  p.tables.exec = Jvm.exec ∧ c.code = cc ∧ c.maxLocals = nL ∧ s.vm.findClass ow = some m.cls ∧ (∀ w ∈ vx_TB, w.before args s = true) ∧ va_K D vx_cl (vx_tys cI cS) s ∧ vx_NW s ∧ base ≤ s.heap.size ∧
  lev ≤ R.frames ∧ 40 * lev ≤ R.locals ∧ base + lim.1 ≤ s.heap.size + R.cells ∧ lim.2 ≤ R.slots ∧ (isI = true → meth.name = "<init>") ∧ (∀ q, sc = some q → va_X b q.1 q.2 s s.heap ∧ b < base)
end VXS
