/-! the abstract machine: cells by number, a step per instruction, and what its truth says of the machine -/
abbrev vx_C : Type := (Nat × (Nat → Int32)) ⊕ ((Nat × (Nat → Option Nat)) ⊕ (Nat × List Value))
abbrev vx_H : Type := Nat → Option vx_C
abbrev vx_L : Type := List (Option Value)
abbrev vx_Z : Type := Nat × Nat
abbrev vx_I : Type := Instr × Nat × Nat × Nat × Value × List (Int32 × Nat)
abbrev vx_K : Type := vx_L → List Value → vx_Z → vx_H → Prop
abbrev vx_ia (n : Nat) (f : Nat → Int32) : vx_C := Sum.inl (n, f)
abbrev vx_ra (n : Nat) (f : Nat → Option Nat) : vx_C := Sum.inr (Sum.inl (n, f))
abbrev vx_ob (c : Nat) (fs : List Value) : vx_C := Sum.inr (Sum.inr (c, fs))
def vx_up (h : vx_H) (k : Nat) (c : vx_C) : vx_H := fun j => if j = k then some c else h j
theorem vx_up_s (h : vx_H) (k : Nat) (c : vx_C) : vx_up h k c k = some c := if_pos rfl
theorem vx_up_n (h : vx_H) {k j : Nat} (c : vx_C) (hn : j ≠ k) : vx_up h k c j = h j := if_neg hn
theorem vx_up_up (h : vx_H) (k : Nat) (c d : vx_C) : vx_up (vx_up h k c) k d = vx_up h k d := by
  funext j
  by_cases hj : j = k <;> simp [vx_up, hj]
/-! what numbers stand for -/
def vx_v (base b : Nat) : Value → Value
  | .ref k => .ref (base + k)
  | .float _ => .ref b
  | v => v
def vx_e (base b : Nat) (cI cS : ClassId) : vx_C → va_E
  | .inl (n, f) => .inl (cI, n, .inl f)
  | .inr (.inl (n, f)) => .inl (cS, n, .inr (.inr (.inr (.inr (fun j => (f j).map (base + ·))))))
  | .inr (.inr (c, fs)) => .inr (c, fs.map (vx_v base b))
def vx_w (base b : Nat) (cI cS : ClassId) (sz : Nat) (h : vx_H) : va_W := (List.range sz).map (fun k => (base + k, vx_e base b cI cS ((h k).getD (.inl (0, fun _ => 0)))))
theorem vx_w_get {base b : Nat} {cI cS : ClassId} {sz : Nat} {h : vx_H} {k : Nat} {e : vx_C} (hk : k < sz) (he : h k = some e) : (vx_w base b cI cS sz h)[k]? = some (base + k, vx_e base b cI cS e) := by
  simp [vx_w, hk, he]
theorem vx_w_set {base b : Nat} {cI cS : ClassId} {sz : Nat} {h : vx_H} {k : Nat} {e : vx_C} (hk : k < sz) : (vx_w base b cI cS sz h).set k (base + k, vx_e base b cI cS e) = vx_w base b cI cS sz (vx_up h k e) := by
  apply List.ext_getElem?
  intro j
  by_cases hj : j = k
  · subst hj
    simp [vx_w, hk, vx_up]
  · rw [List.getElem?_set_ne (Ne.symm hj)]
    by_cases hl : j < sz
    · simp [vx_w, vx_up, hj, hl]
    · simp [vx_w, hl]
theorem vx_w_push {base b : Nat} {cI cS : ClassId} {sz : Nat} {h : vx_H} {e : vx_C} : vx_w base b cI cS sz h ++ [(base + sz, vx_e base b cI cS e)] = vx_w base b cI cS (sz + 1) (vx_up h sz e) := by
  unfold vx_w
  rw [List.range_succ, List.map_append]
  congr 1
  · apply List.map_congr_left
    intro k hk
    have : k ≠ sz := by have := List.mem_range.mp hk; omega
    simp [vx_up, this]
  · simp [vx_up]
theorem vx_w_D (base b : Nat) (cI cS : ClassId) (sz : Nat) (h : vx_H) : va_D (fun q => base ≤ q) (vx_w base b cI cS sz h) := by
  refine ⟨fun i j x y hi hj hxy => ?_, fun k q hk => ?_⟩
  · simp only [vx_w, List.getElem?_map, Option.map_eq_some_iff] at hi hj
    obtain ⟨i', hi1, rfl⟩ := hi
    obtain ⟨j', hj1, rfl⟩ := hj
    have e1 := (List.getElem?_eq_some_iff.mp hi1).2
    have e2 := (List.getElem?_eq_some_iff.mp hj1).2
    simp at e1 e2
    simp at hxy
    omega
  · simp only [vx_w, List.getElem?_map, Option.map_eq_some_iff] at hk
    obtain ⟨k', _, rfl⟩ := hk
    simp
theorem vx_v_cat (base b : Nat) (v : Value) : (vx_v base b v).category = v.category := by cases v <;> rfl
def vx_sel : List (Int32 × Nat) → Nat → Int32 → Nat
  | [], d, _ => d
  | (k, t) :: r, d, x => if x = k then t else vx_sel r d x
def vx_nl (L : vx_L) (a : Nat) : Prop := match a with
  | 0 => True
  | j + 1 => match L[j]? with
    | some (some (.long _)) => False
    | some (some (.double _)) => False
    | _ => True
/-- the fields of a new object -/
def vx_df (ci : Nat) : List Value := match vx_cl[ci]? with
  | some q => (List.range q.2.2).map (fun j => defaultValue (vx_ty ci j))
  | none => []
def vx_isob (c : Option vx_C) (ci : Nat) : Prop := match c with
  | some (.inr (.inr (d, _))) => d = ci
  | _ => False
/-! contracts -/
def vx_NW (U : State) : Prop :=
  (∀ q ∈ vx_fn, ∀ (o : String) (c : vw_C), vx_cn[q.1]? = some o → vx_cl[q.2.2.1]? = some c → va_Nw (.fieldLinkNest o q.2.1 (c.2.1 q.2.2.2.1).1 (c.2.1 q.2.2.2.1).2.1 (c.2.1 q.2.2.2.1).2.2.1 "VoteWalls") U) ∧
  (∀ q ∈ vx_mn, ∀ (o : String) (M : vx_M), vx_cn[q.1]? = some o → vx_mt[q.2.2.1]? = some M → va_Nw (.methodLinkNest o q.2.1 M.1 "VoteWalls") U) ∧ va_AO RX1 U
theorem vx_NW.warm {s U : State} (hW : s.WarmedH U.vm) (h : vx_NW s) : vx_NW U :=
  ⟨fun q hq o c h1 h2 => va_Nw.warmF hW (h.1 q hq o c h1 h2), fun q hq o M h1 h2 => va_Nw.warmM hW (h.2.1 q hq o M h1 h2), va_AO.moved hW.alike h.2.2⟩
theorem vx_NW.same {u U : State} (e : u.vm = U.vm) (h : vx_NW u) : vx_NW U :=
  ⟨fun q hq o c h1 h2 => va_Nw.same rfl e (h.1 q hq o c h1 h2), fun q hq o M h1 h2 => va_Nw.same rfl e (h.2.1 q hq o M h1 h2), va_AO.moved (by rw [e]; exact Vm.Alike.refl _) h.2.2⟩
abbrev vx_tys (cI cS : ClassId) : List (ClassId × FieldType) := [(cI, .int), (cS, .object RX1)]
def vx_Pc (base b : Nat) (cI cS : ClassId) (D : va_G) (As : List Value) (sz : Nat) (h : vx_H) : Array Value → State → Prop := fun v U =>
  v = (As.map (vx_v base b)).toArray ∧ U.heap.size = base + sz ∧ (∀ k, (h k).isSome = true ↔ k < sz) ∧ va_P D vx_cl (vx_w base b cI cS sz h) U.heap ∧ va_K D vx_cl (vx_tys cI cS) U ∧ vx_NW U
def vx_Qc (base b : Nat) (cI cS : ClassId) (D : va_G) (sz : Nat) (P : Option Value → vx_H → Prop) : Array Value → State → Outcome → State → Prop := fun _ st oc t =>
  (∃ (r : Option Value) (h : vx_H), P r h ∧ oc = .returned (r.map (vx_v base b)) ∧ (∀ k, (h k).isSome = true ↔ k < sz) ∧ va_P D vx_cl (vx_w base b cI cS sz h) t.heap) ∧ va_F (fun q => base ≤ q) st t
def vx_Ok (n : Nat) (As : List Value) (sz : Nat) (h : vx_H) (P : Option Value → vx_H → Prop) : Prop :=
  ∀ M : vx_M, vx_mt[n]? = some M → ∀ (l : Launch) (base b : Nat) (cI cS : ClassId) (D : va_G),
    Met l M.1 (.code M.1 M.2.1 M.2.2.1 M.2.2.2.1 :: vx_TB) { frames := M.2.2.2.2.1, cells := M.2.2.2.2.2.1, slots := M.2.2.2.2.2.2.1, locals := 40 * M.2.2.2.2.1 } (vx_Pc base b cI cS D As sz h) (vx_Qc base b cI cS D (sz + M.2.2.2.2.2.1) P) M.2.2.2.2.2.1 M.2.2.2.2.2.2.1 (fun q => base ≤ q)
theorem vx_Pc.blind (base b : Nat) (cI cS : ClassId) (D : va_G) (As : List Value) (sz : Nat) (h : vx_H) : FrameBlind (vx_Pc base b cI cS D As sz h) := by
  intro a U g mk q
  obtain ⟨q0, q1, q2, q3, q4, q5⟩ := q
  exact ⟨q0, q1, q2, q3, va_K.moved (u := U) (U := U.calling g mk a) (Vm.Alike.refl U.vm) q4, vx_NW.same (u := U) (U := U.calling g mk a) rfl q5⟩
/-! the step -/
def vx_st (sc : Option (Nat × (Nat → Int32))) (lim : vx_Z) (it : vx_I) (L : vx_L) (S : List Value) (z : vx_Z) (h : vx_H) (J : Nat → vx_K) (Q : Option Value → vx_Z → vx_H → Prop) (k : vx_K) : Prop :=
  match it with
  | (i, _, a, b, v, ps) =>
    match i with
    | .iconst _ => k L (v :: S) z h
    | .bipush _ => k L (v :: S) z h
    | .sipush _ => k L (v :: S) z h
    | .lconst _ => k L (v :: S) z h
    | .ldc_w _ => k L (v :: S) z h
    | .ldc2_w _ => k L (v :: S) z h
    | .iload _ => match L[a]? with | some (some (.int x)) => k L (.int x :: S) z h | _ => False
    | .iload_n _ => match L[a]? with | some (some (.int x)) => k L (.int x :: S) z h | _ => False
    | .lload _ => match L[a]? with | some (some (.long x)) => k L (.long x :: S) z h | _ => False
    | .lload_n _ => match L[a]? with | some (some (.long x)) => k L (.long x :: S) z h | _ => False
    | .aload _ => match L[a]? with | some (some (.ref x)) => k L (.ref x :: S) z h | some (some (.float x)) => k L (.float x :: S) z h | _ => False
    | .aload_n _ => match L[a]? with | some (some (.ref x)) => k L (.ref x :: S) z h | some (some (.float x)) => k L (.float x :: S) z h | _ => False
    | .istore _ => match S with | .int x :: S => vx_nl L a ∧ k (L.set a (some (.int x))) S z h | _ => False
    | .istore_n _ => match S with | .int x :: S => vx_nl L a ∧ k (L.set a (some (.int x))) S z h | _ => False
    | .astore _ => match S with | .ref x :: S => vx_nl L a ∧ k (L.set a (some (.ref x))) S z h | _ => False
    | .astore_n _ => match S with | .ref x :: S => vx_nl L a ∧ k (L.set a (some (.ref x))) S z h | _ => False
    | .lstore _ => match S with | .long x :: S => vx_nl L a ∧ k ((L.set a (some (.long x))).set (a + 1) none) S z h | _ => False
    | .iinc _ _ => match L[a]?, v with | some (some (.int x)), .int c => vx_nl L a ∧ k (L.set a (some (.int (x + c)))) S z h | _, _ => False
    | .iadd => match S with | .int y :: .int x :: S => k L (.int (x + y) :: S) z h | _ => False
    | .isub => match S with | .int y :: .int x :: S => k L (.int (x - y) :: S) z h | _ => False
    | .imul => match S with | .int y :: .int x :: S => k L (.int (x * y) :: S) z h | _ => False
    | .iand => match S with | .int y :: .int x :: S => k L (.int (x &&& y) :: S) z h | _ => False
    | .ior => match S with | .int y :: .int x :: S => k L (.int (x ||| y) :: S) z h | _ => False
    | .ishl => match S with | .int y :: .int x :: S => k L (.int (x <<< (y &&& 31)) :: S) z h | _ => False
    | .ishr => match S with | .int y :: .int x :: S => k L (.int (x >>> (y &&& 31)) :: S) z h | _ => False
    | .iushr => match S with | .int y :: .int x :: S => k L (.int ((x.toUInt32 >>> (y.toUInt32 &&& Int32.toUInt32 31)).toInt32) :: S) z h | _ => False
    | .idiv => match S with | .int y :: .int x :: S => ¬ y = 0 ∧ k L (.int (x / y) :: S) z h | _ => False
    | .irem => match S with | .int y :: .int x :: S => ¬ y = 0 ∧ k L (.int (x - x / y * y) :: S) z h | _ => False
    | .ineg => match S with | .int x :: S => k L (.int (-x) :: S) z h | _ => False
    | .ldiv => match S with | .long y :: .long x :: S => ¬ y = 0 ∧ k L (.long (x / y) :: S) z h | _ => False
    | .lrem => match S with | .long y :: .long x :: S => ¬ y = 0 ∧ k L (.long (x - x / y * y) :: S) z h | _ => False
    | .lshl => match S with | .int y :: .long x :: S => k L (.long (x <<< (y.toInt64 &&& 63)) :: S) z h | _ => False
    | .lcmp => match S with | .long y :: .long x :: S => k L (.int (lg_cmp x y) :: S) z h | _ => False
    | .i2l => match S with | .int x :: S => k L (.long x.toInt64 :: S) z h | _ => False
    | .i2b => match S with | .int x :: S => k L (.int x.toInt8.toInt32 :: S) z h | _ => False
    | .i2s => match S with | .int x :: S => k L (.int x.toInt16.toInt32 :: S) z h | _ => False
    | .dup => match S with | .int x :: S => k L (.int x :: .int x :: S) z h | .ref x :: S => k L (.ref x :: .ref x :: S) z h | _ => False
    | .dup2 => match S with | .int y :: .ref x :: S => k L (.int y :: .ref x :: .int y :: .ref x :: S) z h | _ => False
    | .ifCond .eq _ => match S with | .int x :: S => (x = 0 → J a L S z h) ∧ (¬ x = 0 → k L S z h) | _ => False
    | .ifCond .ne _ => match S with | .int x :: S => (¬ x = 0 → J a L S z h) ∧ (x = 0 → k L S z h) | _ => False
    | .ifCond .lt _ => match S with | .int x :: S => (x < 0 → J a L S z h) ∧ (¬ x < 0 → k L S z h) | _ => False
    | .ifCond .ge _ => match S with | .int x :: S => (0 ≤ x → J a L S z h) ∧ (¬ 0 ≤ x → k L S z h) | _ => False
    | .ifCond .gt _ => match S with | .int x :: S => (0 < x → J a L S z h) ∧ (¬ 0 < x → k L S z h) | _ => False
    | .ifCond .le _ => match S with | .int x :: S => (x ≤ 0 → J a L S z h) ∧ (¬ x ≤ 0 → k L S z h) | _ => False
    | .if_icmp .eq _ => match S with | .int y :: .int x :: S => (x = y → J a L S z h) ∧ (¬ x = y → k L S z h) | _ => False
    | .if_icmp .ne _ => match S with | .int y :: .int x :: S => (¬ x = y → J a L S z h) ∧ (x = y → k L S z h) | _ => False
    | .if_icmp .lt _ => match S with | .int y :: .int x :: S => (x < y → J a L S z h) ∧ (¬ x < y → k L S z h) | _ => False
    | .if_icmp .ge _ => match S with | .int y :: .int x :: S => (y ≤ x → J a L S z h) ∧ (¬ y ≤ x → k L S z h) | _ => False
    | .if_icmp .gt _ => match S with | .int y :: .int x :: S => (y < x → J a L S z h) ∧ (¬ y < x → k L S z h) | _ => False
    | .if_icmp .le _ => match S with | .int y :: .int x :: S => (x ≤ y → J a L S z h) ∧ (¬ x ≤ y → k L S z h) | _ => False
    | .ifnull _ => match S with | .ref _ :: S => k L S z h | .null :: S => J a L S z h | _ => False
    | .goto _ => J a L S z h
    | .tableswitch _ _ _ _ => match S with | .int x :: S => J (vx_sel ps a x) L S z h | _ => False
    | .lookupswitch _ _ => match S with | .int x :: S => J (vx_sel ps a x) L S z h | _ => False
    | .getfield _ => match S with
      | .ref x :: S => match h x with
        | some (.inr (.inr (c, fs))) => c = a ∧ (match fs[b]? with | some v => k L (v :: S) z h | none => False)
        | _ => False
      | _ => False
    | .putfield _ => match v with
      | .int _ => match S with
        | .int y :: .ref x :: S => match h x with
          | some (.inr (.inr (c, fs))) => c = a ∧ b < fs.length ∧ k L S z (vx_up h x (.inr (.inr (c, fs.set b (.int y)))))
          | _ => False
        | _ => False
      | .long _ => match S with
        | .int y :: .ref x :: S => match h x with
          | some (.inr (.inr (c, fs))) => c = a ∧ b < fs.length ∧ (y = 0 ∨ y = 1) ∧ k L S z (vx_up h x (.inr (.inr (c, fs.set b (.int y)))))
          | _ => False
        | _ => False
      | .null => match S with
        | .ref y :: .ref x :: S => match h x with
          | some (.inr (.inr (c, fs))) => c = a ∧ b < fs.length ∧ k L S z (vx_up h x (.inr (.inr (c, fs.set b (.ref y)))))
          | _ => False
        | _ => False
      | _ => False
    | .new _ => z.1 + 1 ≤ lim.1 ∧ z.2 + b ≤ lim.2 ∧ k L (.ref z.1 :: S) (z.1 + 1, z.2 + b) (vx_up h z.1 (.inr (.inr (a, vx_df a))))
    | .newarray _ => match S with
      | .int n :: S => n = Int32.ofNat b ∧ b ≤ 100000 ∧ z.1 + 1 ≤ lim.1 ∧ z.2 + b ≤ lim.2 ∧ k L (.ref z.1 :: S) (z.1 + 1, z.2 + b) (vx_up h z.1 (.inl (b, fun _ => 0)))
      | _ => False
    | .anewarray _ => match S with
      | .int n :: S => n = Int32.ofNat b ∧ b ≤ 100000 ∧ z.1 + 1 ≤ lim.1 ∧ z.2 + b ≤ lim.2 ∧ k L (.ref z.1 :: S) (z.1 + 1, z.2 + b) (vx_up h z.1 (.inr (.inl (b, fun _ => none))))
      | _ => False
    | .iaload => match S with
      | .int j :: .ref x :: S => match h x with
        | some (.inl (n, f)) => vp_in j n ∧ k L (.int (f j.toNatClampNeg) :: S) z h
        | _ => False
      | .int j :: .float _ :: S => match sc with
        | some q => vp_in j q.1 ∧ k L (.int (q.2 j.toNatClampNeg) :: S) z h
        | none => False
      | _ => False
    | .iastore => match S with
      | .int y :: .int j :: .ref x :: S => match h x with
        | some (.inl (n, f)) => vp_in j n ∧ k L S z (vx_up h x (.inl (n, upd f j.toNatClampNeg y)))
        | _ => False
      | _ => False
    | .aaload => match S with
      | .int j :: .ref x :: S => match h x with
        | some (.inr (.inl (n, f))) => vp_in j n ∧ (match f j.toNatClampNeg with | some y => k L (.ref y :: S) z h | none => False)
        | _ => False
      | _ => False
    | .aastore => match S with
      | .ref y :: .int j :: .ref x :: S => match h x with
        | some (.inr (.inl (n, f))) => vp_in j n ∧ vx_isob (h y) 1 ∧ k L S z (vx_up h x (.inr (.inl (n, va_up f j.toNatClampNeg (some y)))))
        | _ => False
      | _ => False
    | .arraylength => match S with
      | .ref x :: S => match h x with
        | some (.inl (n, _)) => k L (.int (Int32.ofNat n) :: S) z h
        | _ => False
      | .float _ :: S => match sc with
        | some q => k L (.int (Int32.ofNat q.1) :: S) z h
        | none => False
      | _ => False
    | .invokevirtual _ => match (S.take (b + 1)).reverse with
      | .ref x :: As => As.length = b ∧ (S.drop (b + 1)).length ≤ 4 ∧ vx_isob (h x) ps.length ∧ ∃ P, vx_Ok a (.ref x :: As) z.1 h P ∧ ∀ r h', P r h' → k L (r.toList ++ S.drop (b + 1)) z h'
      | _ => False
    | .invokestatic _ => match v with
      | .int _ => match S with
        | .int n :: .int dp :: .ref y :: .int sp :: .ref x :: S => match h x, h y with
          | some (.inl (n0, f)), some (.inl (n1, g)) => S.length ≤ 4 ∧ ¬ sp < 0 ∧ ¬ dp < 0 ∧ ¬ n < 0 ∧ sp.toNatClampNeg + n.toNatClampNeg ≤ n0 ∧ dp.toNatClampNeg + n.toNatClampNeg ≤ n1 ∧ k L S z (vx_up h y (.inl (n1, va_cpy f g sp.toNatClampNeg dp.toNatClampNeg n.toNatClampNeg)))
          | _, _ => False
        | _ => False
      | .long _ => match S with
        | .int y :: .int x :: S => S.length ≤ 4 ∧ k L (.int (if y < x then y else x) :: S) z h
        | _ => False
      | .float _ => match S with
        | .int y :: .int x :: S => S.length ≤ 4 ∧ k L (.int (if x < y then y else x) :: S) z h
        | _ => False
      | .double _ => match S with
        | .int x :: S => S.length ≤ 4 ∧ k L (.int (if 0 ≤ x then x else 0 - x) :: S) z h
        | _ => False
      | _ => (S.take b).length = b ∧ (S.drop b).length ≤ 4 ∧ ∃ P, vx_Ok a (S.take b).reverse z.1 h P ∧ ∀ r h', P r h' → k L (r.toList ++ S.drop b) z h'
    | .invokespecial _ => match v with
      | .int _ => match S with
        | .ref _ :: S => S.length ≤ 4 ∧ k L S z h
        | _ => False
      | _ => match (S.take (b + 1)).reverse with
        | .ref x :: As => As.length = b ∧ (S.drop (b + 1)).length ≤ 4 ∧ z.1 + (ps.map (·.2)).headD 0 ≤ lim.1 ∧ z.2 + ((ps.map (·.2)).getLastD 0) ≤ lim.2 ∧ ∃ P, vx_Ok a (.ref x :: As) z.1 h P ∧ ∀ r h', P r h' → k L (r.toList ++ S.drop (b + 1)) (z.1 + (ps.map (·.2)).headD 0, z.2 + (ps.map (·.2)).getLastD 0) h'
        | _ => False
    | .ireturn => match S with | [.int x] => (a = 1 → x = 0 ∨ x = 1) ∧ Q (some (.int x)) z h | _ => False
    | .lreturn => match S with | [.long x] => Q (some (.long x)) z h | _ => False
    | .return_ => match S with | [] => Q none z h | _ => False
    | _ => False
def vx_b (sc : Option (Nat × (Nat → Int32))) (lim : vx_Z) (J : Nat → vx_K) (Q : Option Value → vx_Z → vx_H → Prop) : Nat → List vx_I → vx_K
  | pc, [] => J pc
  | pc, it :: is => fun L S z h => vx_st sc lim it L S z h J Q (vx_b sc lim J Q (pc + it.2.1) is)
