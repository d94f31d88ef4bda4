/-! the check of a method's items, and a method's contract out of its blocks -/
def vx_any4 (l : List (Nat × Nat × Nat × Nat)) (x y w : Nat) : Bool := l.any (fun q => decide (q.1 = x ∧ q.2.1 = y ∧ q.2.2.1 = w))
def vx_any5 (l : List (Nat × Nat × Nat × Nat × Nat)) (x y w u : Nat) : Bool := l.any (fun q => decide (q.1 = x ∧ q.2.1 = y ∧ q.2.2.1 = w ∧ q.2.2.2.1 = u))
theorem vx_any4_use {l : List (Nat × Nat × Nat × Nat)} {x y w : Nat} (h : vx_any4 l x y w = true) : ∃ pl, (x, y, w, pl) ∈ l := by
  obtain ⟨⟨q1, q2, q3, q4⟩, hq, h⟩ := List.any_eq_true.mp h
  simp only [decide_eq_true_eq] at h
  obtain ⟨rfl, rfl, rfl⟩ := h
  exact ⟨q4, hq⟩
theorem vx_any5_use {l : List (Nat × Nat × Nat × Nat × Nat)} {x y w u : Nat} (h : vx_any5 l x y w u = true) : ∃ pl, (x, y, w, u, pl) ∈ l := by
  obtain ⟨⟨q1, q2, q3, q4, q5⟩, hq, h⟩ := List.any_eq_true.mp h
  simp only [decide_eq_true_eq] at h
  obtain ⟨rfl, rfl, rfl, rfl⟩ := h
  exact ⟨q5, hq⟩
/-- a callee of a kind, with so many arguments, cells and slots, below a level -/
def vx_mck (kind n mc ms lev a : Nat) : Bool := match vx_mt[a]? with
  | some M => decide (M.2.2.2.2.2.2.2.2 = kind ∧ M.2.2.2.2.2.2.2.1 = n ∧ M.2.2.2.2.2.1 = mc ∧ M.2.2.2.2.2.2.1 = ms ∧ M.2.2.2.2.1 + 1 ≤ lev ∧ 8 + (M.2.2.1 + 11) + 40 * M.2.2.2.2.1 ≤ 40 * lev)
  | none => false
theorem vx_mck_use {kind n mc ms lev a : Nat} (h : vx_mck kind n mc ms lev a = true) : ∀ M, vx_mt[a]? = some M → M.2.2.2.2.2.2.2.2 = kind ∧ M.2.2.2.2.2.2.2.1 = n ∧ M.2.2.2.2.2.1 = mc ∧ M.2.2.2.2.2.2.1 = ms ∧ M.2.2.2.2.1 + 1 ≤ lev ∧ 8 + (M.2.2.1 + 11) + 40 * M.2.2.2.2.1 ≤ 40 * lev := by
  intro M hM
  unfold vx_mck at h
  rw [hM] at h
  simpa using h
def vx_ccl (a j : Nat) : Bool := match vx_mt[a]? with
  | some M => decide ((vx_cl[j]?).map (·.1) = some M.1.cls)
  | none => false
def vx_ck (ow nL lev : Nat) (isI : Bool) (rt : Option FieldType) (pc : Nat) (it : vx_I) : Bool :=
  match it with
  | (i, ln, a, b, v, ps) =>
    match i with
    | .iconst n => decide (v = .int (Int32.ofInt n)) && decide (ln = 1)
    | .bipush n => decide (v = .int (Int8.ofInt n).toInt32) && decide (ln = 2)
    | .sipush n => decide (v = .int (Int16.ofInt n).toInt32) && decide (ln = 3)
    | .lconst n => decide (v = .long (Int64.ofNat n.val)) && decide (ln = 1)
    | .ldc_w ix => decide (ln = 3) && (match v with | .int x => vx_ki.any (fun q => decide (q.1 = ow ∧ q.2.1 = ix ∧ q.2.2.1 = x)) | _ => false)
    | .ldc2_w ix => decide (ln = 3) && (match v with | .long x => vx_kl.any (fun q => decide (q.1 = ow ∧ q.2.1 = ix ∧ q.2.2.1 = x)) | _ => false)
    | .iload j => decide (a = j) && decide (ln = 2)
    | .iload_n j => decide (j.val = a) && decide (ln = 1)
    | .lload j => decide (a = j) && decide (ln = 2)
    | .lload_n j => decide (j.val = a) && decide (ln = 1)
    | .aload j => decide (a = j) && decide (ln = 2)
    | .aload_n j => decide (j.val = a) && decide (ln = 1)
    | .istore j => decide (a = j) && decide (ln = 2) && decide (a < nL)
    | .istore_n j => decide (j.val = a) && decide (ln = 1) && decide (a < nL)
    | .astore j => decide (a = j) && decide (ln = 2) && decide (a < nL)
    | .astore_n j => decide (j.val = a) && decide (ln = 1) && decide (a < nL)
    | .lstore j => decide (a = j) && decide (ln = 2) && decide (a + 1 < nL)
    | .iinc j n => decide (a = j) && decide (ln = 3) && decide (a < nL) && decide (v = .int (Int32.ofInt n))
    | .iadd => decide (ln = 1)
    | .isub => decide (ln = 1)
    | .imul => decide (ln = 1)
    | .iand => decide (ln = 1)
    | .ior => decide (ln = 1)
    | .ishl => decide (ln = 1)
    | .ishr => decide (ln = 1)
    | .iushr => decide (ln = 1)
    | .idiv => decide (ln = 1)
    | .irem => decide (ln = 1)
    | .ineg => decide (ln = 1)
    | .ldiv => decide (ln = 1)
    | .lrem => decide (ln = 1)
    | .lshl => decide (ln = 1)
    | .lcmp => decide (ln = 1)
    | .i2l => decide (ln = 1)
    | .i2b => decide (ln = 1)
    | .i2s => decide (ln = 1)
    | .dup => decide (ln = 1)
    | .dup2 => decide (ln = 1)
    | .ifCond _ off => decide ((pc : Int) + off = (a : Int)) && decide (ln = 3)
    | .if_icmp _ off => decide ((pc : Int) + off = (a : Int)) && decide (ln = 3)
    | .ifnull off => decide ((pc : Int) + off = (a : Int)) && decide (ln = 3)
    | .goto off => decide ((pc : Int) + off = (a : Int)) && decide (ln = 3)
    | .tableswitch dflt lo hi offs => vx_tck pc lo offs 0 ps && decide (hi = lo + (ps.length : Int) - 1) && decide ((pc : Int) + dflt = (a : Int))
    | .lookupswitch dflt qs => vx_lck pc qs.toList ps && (qs.toList.zip (qs.toList.drop 1)).all (fun (a, next) => a.1 < next.1) && decide ((pc : Int) + dflt = (a : Int))
    | .getfield ix => decide (ln = 3) && (vx_any5 vx_fl ow ix a b || vx_any5 vx_fn ow ix a b)
    | .putfield ix => decide (ln = 3) && vx_tag (vx_ty a b) v && (match vx_cl[a]? with
      | some q => (vx_any5 vx_fl ow ix a b && (decide ((q.2.1 b).2.2.2 = false) || (isI && decide (vx_cn[ow]? = some (q.2.1 b).1)))) || (vx_any5 vx_fn ow ix a b && decide ((q.2.1 b).2.2.2 = false))
      | none => false)
    | .new ix => decide (ln = 3) && vx_any4 vx_kc ow ix a && decide (a < 8) && (match vx_cl[a]? with | some q => decide (q.2.2 = b) | none => false)
    | .newarray t => decide (ln = 2) && decide (t = .int)
    | .anewarray ix => decide (ln = 3) && vx_any4 vx_kc ow ix 1
    | .iaload => decide (ln = 1)
    | .iastore => decide (ln = 1)
    | .aaload => decide (ln = 1)
    | .aastore => decide (ln = 1)
    | .arraylength => decide (ln = 1)
    | .invokevirtual ix => decide (ln = 3) && vx_any4 vx_ml ow ix a && vx_mck 0 b 0 0 lev a && vx_ccl a ps.length
    | .invokestatic ix => decide (ln = 3) && (match v with
      | .int _ => vx_any4 vx_ms ow ix 1 && decide (1 ≤ lev)
      | .long _ => vx_any4 vx_ms ow ix 2 && decide (1 ≤ lev)
      | .float _ => vx_any4 vx_ms ow ix 3 && decide (1 ≤ lev)
      | .double _ => vx_any4 vx_ms ow ix 4 && decide (1 ≤ lev)
      | .null => (vx_any4 vx_ml ow ix a || vx_any4 vx_mn ow ix a) && vx_mck 1 b 0 0 lev a
      | _ => false)
    | .invokespecial ix => decide (ln = 3) && (match v with
      | .int _ => vx_any4 vx_ms ow ix 0 && decide (1 ≤ lev)
      | .null => (vx_any4 vx_ml ow ix a || vx_any4 vx_mn ow ix a) && vx_mck 2 b ((ps.map (·.2)).headD 0) ((ps.map (·.2)).getLastD 0) lev a
      | _ => false)
    | .ireturn => decide (ln = 1) && (decide (a = 1 ∧ rt = some .boolean) || decide (a = 0 ∧ rt = some .int))
    | .lreturn => decide (ln = 1) && decide (rt = some .long)
    | .return_ => decide (ln = 1) && decide (rt = none)
    | _ => false
section VXE
variable {p : Program} {l : Launch} {e : Env} {R : Room} {s : State} {m : MethodId} {args : Array Value} {below : List Frame} {meth : Method} {c : Code} {Qs : State → Prop}
variable {base b : Nat} {cI cS : ClassId} {D : va_G} {sc : Option (Nat × (Nat → Int32))} {lim : vx_Z} {cc : ByteArray} {ow : String} {nL lev : Nat} {isI : Bool} {J : Nat → vx_K} {Q : Option Value → vx_Z → vx_H → Prop} {k : vx_K} {rt : Option FieldType}
/-- what is asked at an end of a method -/
def vx_Rt (p : Program) (l : Launch) (e : Env) (R : Room) (s : State) (m : MethodId) (args : Array Value) (below : List Frame) (meth : Method) (c : Code) (Qs : State → Prop) (base b : Nat) (cI cS : ClassId) (D : va_G) (lim : vx_Z) (cc : ByteArray) (rt : Option FieldType) (Q : Option Value → vx_Z → vx_H → Prop) : Prop :=
  ∀ (r : Option Value) (z : vx_Z) (h : vx_H), Q r z h → ∀ (pc : Nat) (ls : Array Slot) (H : Heap) (locs : List Loc) (cells slots : Nat), vx_In s base b cI cS D lim H locs cells slots z h →
    ((∃ x, r = some (.int x) ∧ decode cc pc = .ok (.ireturn, 1) ∧ (rt = some .int ∨ rt = some .boolean ∧ (x = 0 ∨ x = 1))) ∨ (∃ x, r = some (.long x) ∧ decode cc pc = .ok (.lreturn, 1) ∧ rt = some .long) ∨ (r = none ∧ decode cc pc = .ok (.return_, 1) ∧ rt = none)) →
    W p l e R s m args below meth c H locs cells slots Qs (F0 m pc ls (r.toList.map (vx_v base b)))
set_option maxHeartbeats 1000000 in
theorem vx_sound (F : vx_Fx p R s m args meth c base b cI cS D sc lim cc ow nL lev isI) {owN : Nat} (hcn : vx_cn[owN]? = some ow) (it : vx_I) {pc : Nat} (hd : decode cc pc = .ok (it.1, it.2.1)) (hck : vx_ck owN nL lev isI rt pc it = true)
    (hk : vx_G p l e R s m args below meth c Qs base b cI cS D lim nL (pc + it.2.1) k) (hJ : ∀ t, vx_G p l e R s m args below meth c Qs base b cI cS D lim nL t (J t)) (hQ : vx_Rt p l e R s m args below meth c Qs base b cI cS D lim cc rt Q) :
    vx_G p l e R s m args below meth c Qs base b cI cS D lim nL pc (fun L S z h => vx_st sc lim it L S z h J Q k) := by
  obtain ⟨i, ln, a, b', v, ps⟩ := it
  dsimp only at hd hk
  cases i with
  | iconst n => simp only [vx_ck, Bool.and_eq_true, decide_eq_true_eq] at hck; exact vx_s_iconst F hd hck.2 hck.1 hk
  | bipush n => simp only [vx_ck, Bool.and_eq_true, decide_eq_true_eq] at hck; exact vx_s_bipush F hd hck.2 hck.1 hk
  | sipush n => simp only [vx_ck, Bool.and_eq_true, decide_eq_true_eq] at hck; exact vx_s_sipush F hd hck.2 hck.1 hk
  | lconst n => simp only [vx_ck, Bool.and_eq_true, decide_eq_true_eq] at hck; exact vx_s_lconst F hd hck.2 hck.1 hk
  | ldc_w ix =>
    simp only [vx_ck, Bool.and_eq_true, decide_eq_true_eq] at hck
    cases v with
    | int x =>
      obtain ⟨⟨q1, q2, q3, q4⟩, hq, h⟩ := List.any_eq_true.mp hck.2
      simp only [decide_eq_true_eq] at h
      obtain ⟨rfl, rfl, rfl⟩ := h
      exact vx_s_ldc_w F hcn hd hck.1 ⟨q4, hq⟩ hk
    | _ => simp at hck
  | ldc2_w ix =>
    simp only [vx_ck, Bool.and_eq_true, decide_eq_true_eq] at hck
    cases v with
    | long x =>
      obtain ⟨⟨q1, q2, q3, q4⟩, hq, h⟩ := List.any_eq_true.mp hck.2
      simp only [decide_eq_true_eq] at h
      obtain ⟨rfl, rfl, rfl⟩ := h
      exact vx_s_ldc2_w F hcn hd hck.1 ⟨q4, hq⟩ hk
    | _ => simp at hck
  | iload j => simp only [vx_ck, Bool.and_eq_true, decide_eq_true_eq] at hck; exact vx_s_iload F hd hck.2 hck.1 hk
  | iload_n j => simp only [vx_ck, Bool.and_eq_true, decide_eq_true_eq] at hck; exact vx_s_iload_n F hd hck.2 hck.1 hk
  | lload j => simp only [vx_ck, Bool.and_eq_true, decide_eq_true_eq] at hck; exact vx_s_lload F hd hck.2 hck.1 hk
  | lload_n j => simp only [vx_ck, Bool.and_eq_true, decide_eq_true_eq] at hck; exact vx_s_lload_n F hd hck.2 hck.1 hk
  | aload j => simp only [vx_ck, Bool.and_eq_true, decide_eq_true_eq] at hck; exact vx_s_aload F hd hck.2 hck.1 hk
  | aload_n j => simp only [vx_ck, Bool.and_eq_true, decide_eq_true_eq] at hck; exact vx_s_aload_n F hd hck.2 hck.1 hk
  | istore j => simp only [vx_ck, Bool.and_eq_true, decide_eq_true_eq] at hck; exact vx_s_istore F hd hck.1.2 hck.1.1 hck.2 hk
  | istore_n j => simp only [vx_ck, Bool.and_eq_true, decide_eq_true_eq] at hck; exact vx_s_istore_n F hd hck.1.2 hck.1.1 hck.2 hk
  | astore j => simp only [vx_ck, Bool.and_eq_true, decide_eq_true_eq] at hck; exact vx_s_astore F hd hck.1.2 hck.1.1 hck.2 hk
  | astore_n j => simp only [vx_ck, Bool.and_eq_true, decide_eq_true_eq] at hck; exact vx_s_astore_n F hd hck.1.2 hck.1.1 hck.2 hk
  | lstore j => simp only [vx_ck, Bool.and_eq_true, decide_eq_true_eq] at hck; exact vx_s_lstore F hd hck.1.2 hck.1.1 hck.2 hk
  | iinc j n => simp only [vx_ck, Bool.and_eq_true, decide_eq_true_eq] at hck; exact vx_s_iinc F hd hck.1.1.2 hck.1.1.1 hck.1.2 hck.2 hk
  | iadd => simp only [vx_ck, decide_eq_true_eq] at hck; exact vx_s_iadd F hd hck hk
  | isub => simp only [vx_ck, decide_eq_true_eq] at hck; exact vx_s_isub F hd hck hk
  | imul => simp only [vx_ck, decide_eq_true_eq] at hck; exact vx_s_imul F hd hck hk
  | iand => simp only [vx_ck, decide_eq_true_eq] at hck; exact vx_s_iand F hd hck hk
  | ior => simp only [vx_ck, decide_eq_true_eq] at hck; exact vx_s_ior F hd hck hk
  | ishl => simp only [vx_ck, decide_eq_true_eq] at hck; exact vx_s_ishl F hd hck hk
  | ishr => simp only [vx_ck, decide_eq_true_eq] at hck; exact vx_s_ishr F hd hck hk
  | iushr => simp only [vx_ck, decide_eq_true_eq] at hck; exact vx_s_iushr F hd hck hk
  | idiv => simp only [vx_ck, decide_eq_true_eq] at hck; exact vx_s_idiv F hd hck hk
  | irem => simp only [vx_ck, decide_eq_true_eq] at hck; exact vx_s_irem F hd hck hk
  | ineg => simp only [vx_ck, decide_eq_true_eq] at hck; exact vx_s_ineg F hd hck hk
  | ldiv => simp only [vx_ck, decide_eq_true_eq] at hck; exact vx_s_ldiv F hd hck hk
  | lrem => simp only [vx_ck, decide_eq_true_eq] at hck; exact vx_s_lrem F hd hck hk
  | lshl => simp only [vx_ck, decide_eq_true_eq] at hck; exact vx_s_lshl F hd hck hk
  | lcmp => simp only [vx_ck, decide_eq_true_eq] at hck; exact vx_s_lcmp F hd hck hk
  | i2l => simp only [vx_ck, decide_eq_true_eq] at hck; exact vx_s_i2l F hd hck hk
  | i2b => simp only [vx_ck, decide_eq_true_eq] at hck; exact vx_s_i2b F hd hck hk
  | i2s => simp only [vx_ck, decide_eq_true_eq] at hck; exact vx_s_i2s F hd hck hk
  | dup => simp only [vx_ck, decide_eq_true_eq] at hck; exact vx_s_dup F hd hck hk
  | dup2 => simp only [vx_ck, decide_eq_true_eq] at hck; exact vx_s_dup2 F hd hck hk
  | ifCond q off =>
    simp only [vx_ck, Bool.and_eq_true, decide_eq_true_eq] at hck
    cases q with
    | eq => exact vx_s_if_eq F hd hck.2 hck.1 hk hJ
    | ne => exact vx_s_if_ne F hd hck.2 hck.1 hk hJ
    | lt => exact vx_s_if_lt F hd hck.2 hck.1 hk hJ
    | ge => exact vx_s_if_ge F hd hck.2 hck.1 hk hJ
    | gt => exact vx_s_if_gt F hd hck.2 hck.1 hk hJ
    | le => exact vx_s_if_le F hd hck.2 hck.1 hk hJ
  | if_icmp q off =>
    simp only [vx_ck, Bool.and_eq_true, decide_eq_true_eq] at hck
    cases q with
    | eq => exact vx_s_icmp_eq F hd hck.2 hck.1 hk hJ
    | ne => exact vx_s_icmp_ne F hd hck.2 hck.1 hk hJ
    | lt => exact vx_s_icmp_lt F hd hck.2 hck.1 hk hJ
    | ge => exact vx_s_icmp_ge F hd hck.2 hck.1 hk hJ
    | gt => exact vx_s_icmp_gt F hd hck.2 hck.1 hk hJ
    | le => exact vx_s_icmp_le F hd hck.2 hck.1 hk hJ
  | ifnull off => simp only [vx_ck, Bool.and_eq_true, decide_eq_true_eq] at hck; exact vx_s_ifnull F hd hck.2 hck.1 hk hJ
  | goto off => simp only [vx_ck, Bool.and_eq_true, decide_eq_true_eq] at hck; exact vx_s_goto F hd hck.2 hck.1 hJ
  | tableswitch dflt lo hi offs => simp only [vx_ck, Bool.and_eq_true, decide_eq_true_eq] at hck; exact vx_s_tableswitch F hd hck.1.1 hck.1.2 hck.2 hJ
  | lookupswitch dflt qs => simp only [vx_ck, Bool.and_eq_true, decide_eq_true_eq] at hck; exact vx_s_lookupswitch F hd hck.1.2 hck.1.1 hck.2 hJ
  | getfield ix =>
    simp only [vx_ck, Bool.and_eq_true, Bool.or_eq_true, decide_eq_true_eq] at hck
    exact vx_s_getfield F hcn hd hck.1 (hck.2.imp vx_any5_use vx_any5_use) hk
  | putfield ix =>
    simp only [vx_ck, Bool.and_eq_true, decide_eq_true_eq] at hck
    obtain ⟨⟨h1, h2⟩, h3⟩ := hck
    refine vx_s_putfield F hcn hd h1 h2 ?_ hk
    cases hq : vx_cl[a]? with
    | none => rw [hq] at h3; cases h3
    | some q =>
      rw [hq] at h3
      simp only [Bool.and_eq_true, Bool.or_eq_true, decide_eq_true_eq] at h3
      rcases h3 with ⟨h3, h4⟩ | ⟨h3, h4⟩
      · refine Or.inl ⟨vx_any5_use h3, fun C T N hc => ?_⟩
        cases hc
        rcases h4 with h4 | ⟨h4, h5⟩
        · exact Or.inl h4
        · exact Or.inr ⟨h4, Option.some.inj (h5.symm.trans hcn)⟩
      · refine Or.inr ⟨vx_any5_use h3, fun C T N hc => ?_⟩
        cases hc
        exact h4
  | new ix =>
    simp only [vx_ck, Bool.and_eq_true, decide_eq_true_eq] at hck
    obtain ⟨⟨⟨h1, h2⟩, h3⟩, h4⟩ := hck
    refine vx_s_new F hcn hd h1 (vx_any4_use h2) h3 (fun q hq => ?_) hk
    rw [hq] at h4
    simpa using h4
  | newarray t => simp only [vx_ck, Bool.and_eq_true, decide_eq_true_eq] at hck; exact vx_s_newarray F hd hck.1 hck.2 hk
  | anewarray ix => simp only [vx_ck, Bool.and_eq_true, decide_eq_true_eq] at hck; exact vx_s_anewarray F hcn hd hck.1 (vx_any4_use hck.2) hk
  | iaload => simp only [vx_ck, decide_eq_true_eq] at hck; exact vx_s_iaload F hd hck hk
  | iastore => simp only [vx_ck, decide_eq_true_eq] at hck; exact vx_s_iastore F hd hck hk
  | aaload => simp only [vx_ck, decide_eq_true_eq] at hck; exact vx_s_aaload F hd hck hk
  | aastore => simp only [vx_ck, decide_eq_true_eq] at hck; exact vx_s_aastore F hd hck hk
  | arraylength => simp only [vx_ck, decide_eq_true_eq] at hck; exact vx_s_arraylength F hd hck hk
  | invokevirtual ix =>
    simp only [vx_ck, Bool.and_eq_true, decide_eq_true_eq] at hck
    obtain ⟨⟨⟨h1, h2⟩, h3⟩, h4⟩ := hck
    refine vx_s_invokevirtual F hcn hd h1 (vx_any4_use h2) (fun M hM => ?_) hk
    obtain ⟨g1, g2, g3, g4, g5, g6⟩ := vx_mck_use h3 M hM
    refine ⟨g1, g2, g3, g4, g5, g6, ?_⟩
    unfold vx_ccl at h4
    rw [hM] at h4
    simpa using h4
  | invokestatic ix =>
    simp only [vx_ck, Bool.and_eq_true, decide_eq_true_eq] at hck
    obtain ⟨h1, h2⟩ := hck
    cases v with
    | int u => simp only [Bool.and_eq_true, decide_eq_true_eq] at h2; exact vx_s_arraycopy F hcn hd h1 (vx_any4_use h2.1) h2.2 hk
    | long u => simp only [Bool.and_eq_true, decide_eq_true_eq] at h2; exact vx_s_min F hcn hd h1 (vx_any4_use h2.1) h2.2 hk
    | float u => simp only [Bool.and_eq_true, decide_eq_true_eq] at h2; exact vx_s_max F hcn hd h1 (vx_any4_use h2.1) h2.2 hk
    | double u => simp only [Bool.and_eq_true, decide_eq_true_eq] at h2; exact vx_s_abs F hcn hd h1 (vx_any4_use h2.1) h2.2 hk
    | null =>
      simp only [Bool.and_eq_true, Bool.or_eq_true] at h2
      exact vx_s_invokestatic F hcn hd h1 (h2.1.imp vx_any4_use vx_any4_use) (vx_mck_use h2.2) hk
    | _ => cases h2
  | invokespecial ix =>
    simp only [vx_ck, Bool.and_eq_true, decide_eq_true_eq] at hck
    obtain ⟨h1, h2⟩ := hck
    cases v with
    | int u => simp only [Bool.and_eq_true, decide_eq_true_eq] at h2; exact vx_s_objInit F hcn hd h1 (vx_any4_use h2.1) h2.2 hk
    | null =>
      simp only [Bool.and_eq_true, Bool.or_eq_true] at h2
      exact vx_s_invokespecial F hcn hd h1 (h2.1.imp vx_any4_use vx_any4_use) (vx_mck_use h2.2) hk
    | _ => cases h2
  | ireturn =>
    simp only [vx_ck, Bool.and_eq_true, Bool.or_eq_true, decide_eq_true_eq] at hck
    obtain ⟨h1, h2⟩ := hck
    subst h1
    intro L S z h hst ls H locs cells slots hL hI
    replace hst : (match (generalizing := false) S with | [.int x] => (a = 1 → x = 0 ∨ x = 1) ∧ Q (some (.int x)) z h | _ => False) := hst
    split at hst
    · rename_i x
      refine hQ _ _ _ hst.2 pc ls H locs cells slots hI (Or.inl ⟨x, rfl, hd, ?_⟩)
      rcases h2 with ⟨h2, h3⟩ | ⟨h2, h3⟩
      · exact Or.inr ⟨h3, hst.1 h2⟩
      · exact Or.inl h3
    · exact False.elim hst
  | lreturn =>
    simp only [vx_ck, Bool.and_eq_true, decide_eq_true_eq] at hck
    obtain ⟨h1, h2⟩ := hck
    subst h1
    intro L S z h hst ls H locs cells slots hL hI
    replace hst : (match (generalizing := false) S with | [.long x] => Q (some (.long x)) z h | _ => False) := hst
    split at hst
    · rename_i x
      exact hQ _ _ _ hst pc ls H locs cells slots hI (Or.inr (Or.inl ⟨x, rfl, hd, h2⟩))
    · exact False.elim hst
  | return_ =>
    simp only [vx_ck, Bool.and_eq_true, decide_eq_true_eq] at hck
    obtain ⟨h1, h2⟩ := hck
    subst h1
    intro L S z h hst ls H locs cells slots hL hI
    replace hst : (match (generalizing := false) S with | [] => Q none z h | _ => False) := hst
    split at hst
    · exact hQ _ _ _ hst pc ls H locs cells slots hI (Or.inr (Or.inr ⟨rfl, hd, h2⟩))
    · exact False.elim hst
  | _ => cases hck
/-- a block: its items stand one behind another in the code -/
def vx_ckB (cc : ByteArray) (ow nL lev : Nat) (isI : Bool) (rt : Option FieldType) : Nat → List vx_I → Bool
  | _, [] => true
  | pc, it :: is => decide (decode cc pc = .ok (it.1, it.2.1)) && vx_ck ow nL lev isI rt pc it && vx_ckB cc ow nL lev isI rt (pc + it.2.1) is
theorem vx_block (F : vx_Fx p R s m args meth c base b cI cS D sc lim cc ow nL lev isI) {owN : Nat} (hcn : vx_cn[owN]? = some ow) (hJ : ∀ t, vx_G p l e R s m args below meth c Qs base b cI cS D lim nL t (J t)) (hQ : vx_Rt p l e R s m args below meth c Qs base b cI cS D lim cc rt Q) :
    ∀ (is : List vx_I) (pc : Nat), vx_ckB cc owN nL lev isI rt pc is = true → vx_G p l e R s m args below meth c Qs base b cI cS D lim nL pc (vx_b sc lim J Q pc is)
  | [], pc, _ => hJ pc
  | it :: is, pc, h => by
    simp only [vx_ckB, Bool.and_eq_true, decide_eq_true_eq] at h
    exact vx_sound F hcn it h.1.1 h.1.2 (vx_block F hcn hJ hQ is _ h.2) hJ hQ
def vx_bk : List (Nat × List vx_I) → Nat → List vx_I
  | [], _ => []
  | (u, is) :: r, t => if t = u then is else vx_bk r t
def vx_ckM (cc : ByteArray) (ow nL lev : Nat) (isI : Bool) (rt : Option FieldType) (tab : List (Nat × List vx_I)) : Bool := tab.all (fun q => vx_ckB cc ow nL lev isI rt q.1 q.2)
theorem vx_ckM_bk {cc : ByteArray} {ow nL lev : Nat} {isI : Bool} {rt : Option FieldType} : ∀ {tab : List (Nat × List vx_I)}, vx_ckM cc ow nL lev isI rt tab = true → ∀ t, vx_ckB cc ow nL lev isI rt t (vx_bk tab t) = true
  | [], _, t => rfl
  | (u, is) :: r, h, t => by
    simp only [vx_ckM, List.all_cons, Bool.and_eq_true] at h
    by_cases ht : t = u
    · subst ht
      rw [show vx_bk ((t, is) :: r) t = is from if_pos rfl]
      exact h.1
    · rw [show vx_bk ((u, is) :: r) t = vx_bk r t from if_neg ht]
      exact vx_ckM_bk (tab := r) h.2 t
/-- a walk: every closed predicate that holds at a point -/
def vx_cl0 (sc : Option (Nat × (Nat → Int32))) (lim : vx_Z) (tab : List (Nat × List vx_I)) (Q : Option Value → vx_Z → vx_H → Prop) (X : Nat → vx_K) : Prop := ∀ t L S z h, vx_b sc lim X Q t (vx_bk tab t) L S z h → X t L S z h
theorem vx_walk (F : vx_Fx p R s m args meth c base b cI cS D sc lim cc ow nL lev isI) {owN : Nat} (hcn : vx_cn[owN]? = some ow) {tab : List (Nat × List vx_I)} (hck : vx_ckM cc owN nL lev isI rt tab = true) (hQ : vx_Rt p l e R s m args below meth c Qs base b cI cS D lim cc rt Q)
    {t : Nat} {L : vx_L} {S : List Value} {z : vx_Z} {h : vx_H} (body : ∀ X, vx_cl0 sc lim tab Q X → X t L S z h) : vx_G p l e R s m args below meth c Qs base b cI cS D lim nL t (fun L' S' z' h' => L' = L ∧ S' = S ∧ z' = z ∧ h' = h) := by
  rintro L' S' z' h' ⟨rfl, rfl, rfl, rfl⟩
  have key := body (fun t L S z h => ∀ (ls : Array Slot) (H : Heap) (locs : List Loc) (cells slots : Nat), vx_RL base b nL L ls → vx_In s base b cI cS D lim H locs cells slots z h → W p l e R s m args below meth c H locs cells slots Qs (F0 m t ls (S.map (vx_v base b))))
    (fun t L S z h hb => vx_block F hcn (fun t L S z h hx => hx) hQ (vx_bk tab t) t (vx_ckM_bk hck t) L S z h hb)
  exact key
end VXE
