/-! the step is sound, instruction by instruction (printed by wip/gensound.py) -/
section VXT
variable {p : Program} {l : Launch} {e : Env} {R : Room} {s : State} {m : MethodId} {args : Array Value} {below : List Frame} {meth : Method} {c : Code} {Qs : State → Prop}
variable {base b : Nat} {cI cS : ClassId} {D : va_G} {sc : Option (Nat × (Nat → Int32))} {lim : vx_Z} {cc : ByteArray} {ow : String} {nL lev : Nat} {isI : Bool} {pc ln a b' : Nat} {v : Value} {ps : List (Int32 × Nat)} {J : Nat → vx_K} {Q : Option Value → vx_Z → vx_H → Prop} {k : vx_K}

theorem vx_s_iconst (F : vx_Fx p R s m args meth c base b cI cS D sc lim cc ow nL lev isI) {n : Int} (hd : decode cc pc = .ok (.iconst n, ln)) (hln : ln = 1) (hv : v = .int (Int32.ofInt n)) (hk : vx_G p l e R s m args below meth c Qs base b cI cS D lim nL (pc + ln) k) : vx_G p l e R s m args below meth c Qs base b cI cS D lim nL pc (fun L S z h => vx_st sc lim (.iconst n, ln, a, b', v, ps) L S z h J Q k) := by
  subst hln; subst hv
  intro L S z h hst ls H locs cells slots hL hI
  exact lv_iconst F.1 F.2.1 hd rfl (hk _ _ _ _ hst ls H locs cells slots hL hI)
theorem vx_s_bipush (F : vx_Fx p R s m args meth c base b cI cS D sc lim cc ow nL lev isI) {n : Int} (hd : decode cc pc = .ok (.bipush n, ln)) (hln : ln = 2) (hv : v = .int (Int8.ofInt n).toInt32) (hk : vx_G p l e R s m args below meth c Qs base b cI cS D lim nL (pc + ln) k) : vx_G p l e R s m args below meth c Qs base b cI cS D lim nL pc (fun L S z h => vx_st sc lim (.bipush n, ln, a, b', v, ps) L S z h J Q k) := by
  subst hln; subst hv
  intro L S z h hst ls H locs cells slots hL hI
  exact lv_bipush F.1 F.2.1 hd rfl (hk _ _ _ _ hst ls H locs cells slots hL hI)
theorem vx_s_sipush (F : vx_Fx p R s m args meth c base b cI cS D sc lim cc ow nL lev isI) {n : Int} (hd : decode cc pc = .ok (.sipush n, ln)) (hln : ln = 3) (hv : v = .int (Int16.ofInt n).toInt32) (hk : vx_G p l e R s m args below meth c Qs base b cI cS D lim nL (pc + ln) k) : vx_G p l e R s m args below meth c Qs base b cI cS D lim nL pc (fun L S z h => vx_st sc lim (.sipush n, ln, a, b', v, ps) L S z h J Q k) := by
  subst hln; subst hv
  intro L S z h hst ls H locs cells slots hL hI
  exact lv_sipush F.1 F.2.1 hd rfl (hk _ _ _ _ hst ls H locs cells slots hL hI)
theorem vx_s_lconst (F : vx_Fx p R s m args meth c base b cI cS D sc lim cc ow nL lev isI) {n : Fin 2} (hd : decode cc pc = .ok (.lconst n, ln)) (hln : ln = 1) (hv : v = .long (Int64.ofNat n.val)) (hk : vx_G p l e R s m args below meth c Qs base b cI cS D lim nL (pc + ln) k) : vx_G p l e R s m args below meth c Qs base b cI cS D lim nL pc (fun L S z h => vx_st sc lim (.lconst n, ln, a, b', v, ps) L S z h J Q k) := by
  subst hln; subst hv
  intro L S z h hst ls H locs cells slots hL hI
  exact lv_lconst F.1 F.2.1 hd rfl (hk _ _ _ _ hst ls H locs cells slots hL hI)
theorem vx_s_iload (F : vx_Fx p R s m args meth c base b cI cS D sc lim cc ow nL lev isI) {i : Nat} (hd : decode cc pc = .ok (.iload i, ln)) (hln : ln = 2) (ha : a = i) (hk : vx_G p l e R s m args below meth c Qs base b cI cS D lim nL (pc + ln) k) : vx_G p l e R s m args below meth c Qs base b cI cS D lim nL pc (fun L S z h => vx_st sc lim (.iload i, ln, a, b', v, ps) L S z h J Q k) := by
  subst hln; subst ha
  intro L S z h hst ls H locs cells slots hL hI
  have hst : (match L[a]? with | some (some (.int x)) => k L (.int x :: S) z h | _ => False) := hst
  split at hst
  · rename_i x hx
    exact lv_iload F.1 F.2.1 hd (hL.2.2.2 _ _ hx) (hk _ _ _ _ hst ls H locs cells slots hL hI)
  · exact False.elim hst
theorem vx_s_iload_n (F : vx_Fx p R s m args meth c base b cI cS D sc lim cc ow nL lev isI) {i : Fin 4} (hd : decode cc pc = .ok (.iload_n i, ln)) (hln : ln = 1) (ha : i.val = a) (hk : vx_G p l e R s m args below meth c Qs base b cI cS D lim nL (pc + ln) k) : vx_G p l e R s m args below meth c Qs base b cI cS D lim nL pc (fun L S z h => vx_st sc lim (.iload_n i, ln, a, b', v, ps) L S z h J Q k) := by
  subst hln
  intro L S z h hst ls H locs cells slots hL hI
  have hst : (match L[a]? with | some (some (.int x)) => k L (.int x :: S) z h | _ => False) := hst
  split at hst
  · rename_i x hx
    exact lv_iload_n F.1 F.2.1 hd ha (hL.2.2.2 _ _ hx) (hk _ _ _ _ hst ls H locs cells slots hL hI)
  · exact False.elim hst
theorem vx_s_lload (F : vx_Fx p R s m args meth c base b cI cS D sc lim cc ow nL lev isI) {i : Nat} (hd : decode cc pc = .ok (.lload i, ln)) (hln : ln = 2) (ha : a = i) (hk : vx_G p l e R s m args below meth c Qs base b cI cS D lim nL (pc + ln) k) : vx_G p l e R s m args below meth c Qs base b cI cS D lim nL pc (fun L S z h => vx_st sc lim (.lload i, ln, a, b', v, ps) L S z h J Q k) := by
  subst hln; subst ha
  intro L S z h hst ls H locs cells slots hL hI
  have hst : (match L[a]? with | some (some (.long x)) => k L (.long x :: S) z h | _ => False) := hst
  split at hst
  · rename_i x hx
    exact lv_lload F.1 F.2.1 hd (hL.2.2.2 _ _ hx) (hk _ _ _ _ hst ls H locs cells slots hL hI)
  · exact False.elim hst
theorem vx_s_lload_n (F : vx_Fx p R s m args meth c base b cI cS D sc lim cc ow nL lev isI) {i : Fin 4} (hd : decode cc pc = .ok (.lload_n i, ln)) (hln : ln = 1) (ha : i.val = a) (hk : vx_G p l e R s m args below meth c Qs base b cI cS D lim nL (pc + ln) k) : vx_G p l e R s m args below meth c Qs base b cI cS D lim nL pc (fun L S z h => vx_st sc lim (.lload_n i, ln, a, b', v, ps) L S z h J Q k) := by
  subst hln
  intro L S z h hst ls H locs cells slots hL hI
  have hst : (match L[a]? with | some (some (.long x)) => k L (.long x :: S) z h | _ => False) := hst
  split at hst
  · rename_i x hx
    exact lv_lload_n F.1 F.2.1 hd ha (hL.2.2.2 _ _ hx) (hk _ _ _ _ hst ls H locs cells slots hL hI)
  · exact False.elim hst
theorem vx_s_aload (F : vx_Fx p R s m args meth c base b cI cS D sc lim cc ow nL lev isI) {i : Nat} (hd : decode cc pc = .ok (.aload i, ln)) (hln : ln = 2) (ha : a = i) (hk : vx_G p l e R s m args below meth c Qs base b cI cS D lim nL (pc + ln) k) : vx_G p l e R s m args below meth c Qs base b cI cS D lim nL pc (fun L S z h => vx_st sc lim (.aload i, ln, a, b', v, ps) L S z h J Q k) := by
  subst hln; subst ha
  intro L S z h hst ls H locs cells slots hL hI
  have hst : (match L[a]? with | some (some (.ref x)) => k L (.ref x :: S) z h | some (some (.float x)) => k L (.float x :: S) z h | _ => False) := hst
  split at hst
  · rename_i x hx
    exact lv_aload F.1 F.2.1 hd (hL.2.2.2 _ _ hx) (hk _ _ _ _ hst ls H locs cells slots hL hI)
  · rename_i x hx
    exact lv_aload F.1 F.2.1 hd (hL.2.2.2 _ _ hx) (hk _ _ _ _ hst ls H locs cells slots hL hI)
  · exact False.elim hst
theorem vx_s_aload_n (F : vx_Fx p R s m args meth c base b cI cS D sc lim cc ow nL lev isI) {i : Fin 4} (hd : decode cc pc = .ok (.aload_n i, ln)) (hln : ln = 1) (ha : i.val = a) (hk : vx_G p l e R s m args below meth c Qs base b cI cS D lim nL (pc + ln) k) : vx_G p l e R s m args below meth c Qs base b cI cS D lim nL pc (fun L S z h => vx_st sc lim (.aload_n i, ln, a, b', v, ps) L S z h J Q k) := by
  subst hln
  intro L S z h hst ls H locs cells slots hL hI
  have hst : (match L[a]? with | some (some (.ref x)) => k L (.ref x :: S) z h | some (some (.float x)) => k L (.float x :: S) z h | _ => False) := hst
  split at hst
  · rename_i x hx
    exact lv_aload_n F.1 F.2.1 hd ha (hL.2.2.2 _ _ hx) (hk _ _ _ _ hst ls H locs cells slots hL hI)
  · rename_i x hx
    exact lv_aload_n F.1 F.2.1 hd ha (hL.2.2.2 _ _ hx) (hk _ _ _ _ hst ls H locs cells slots hL hI)
  · exact False.elim hst
theorem vx_s_istore (F : vx_Fx p R s m args meth c base b cI cS D sc lim cc ow nL lev isI) {i : Nat} (hd : decode cc pc = .ok (.istore i, ln)) (hln : ln = 2) (ha : a = i) (hn : a < nL) (hk : vx_G p l e R s m args below meth c Qs base b cI cS D lim nL (pc + ln) k) : vx_G p l e R s m args below meth c Qs base b cI cS D lim nL pc (fun L S z h => vx_st sc lim (.istore i, ln, a, b', v, ps) L S z h J Q k) := by
  subst hln; subst ha
  intro L S z h hst ls H locs cells slots hL hI
  rcases S with _ | ⟨v1, S⟩
  · exact False.elim hst
  · cases v1 with
    | int x =>
      have hst : vx_nl L a ∧ k (L.set a (some (.int x))) S z h := hst
      exact lv_istore F.1 F.2.1 hd hL.has hn rfl (fun ls' h' => hk _ _ _ _ hst.2 ls' H locs cells slots (hL.set (v := .int x) hst.1 h') hI)
    | _ => exact False.elim hst
theorem vx_s_istore_n (F : vx_Fx p R s m args meth c base b cI cS D sc lim cc ow nL lev isI) {i : Fin 4} (hd : decode cc pc = .ok (.istore_n i, ln)) (hln : ln = 1) (ha : i.val = a) (hn : a < nL) (hk : vx_G p l e R s m args below meth c Qs base b cI cS D lim nL (pc + ln) k) : vx_G p l e R s m args below meth c Qs base b cI cS D lim nL pc (fun L S z h => vx_st sc lim (.istore_n i, ln, a, b', v, ps) L S z h J Q k) := by
  subst hln
  intro L S z h hst ls H locs cells slots hL hI
  rcases S with _ | ⟨v1, S⟩
  · exact False.elim hst
  · cases v1 with
    | int x =>
      have hst : vx_nl L a ∧ k (L.set a (some (.int x))) S z h := hst
      exact lv_istore_n F.1 F.2.1 hd ha hL.has hn rfl (fun ls' h' => hk _ _ _ _ hst.2 ls' H locs cells slots (hL.set (v := .int x) hst.1 h') hI)
    | _ => exact False.elim hst
theorem vx_s_astore (F : vx_Fx p R s m args meth c base b cI cS D sc lim cc ow nL lev isI) {i : Nat} (hd : decode cc pc = .ok (.astore i, ln)) (hln : ln = 2) (ha : a = i) (hn : a < nL) (hk : vx_G p l e R s m args below meth c Qs base b cI cS D lim nL (pc + ln) k) : vx_G p l e R s m args below meth c Qs base b cI cS D lim nL pc (fun L S z h => vx_st sc lim (.astore i, ln, a, b', v, ps) L S z h J Q k) := by
  subst hln; subst ha
  intro L S z h hst ls H locs cells slots hL hI
  rcases S with _ | ⟨v1, S⟩
  · exact False.elim hst
  · cases v1 with
    | ref x =>
      have hst : vx_nl L a ∧ k (L.set a (some (.ref x))) S z h := hst
      exact lv_astore F.1 F.2.1 hd hL.has hn rfl (fun ls' h' => hk _ _ _ _ hst.2 ls' H locs cells slots (hL.set (v := .ref x) hst.1 h') hI)
    | _ => exact False.elim hst
theorem vx_s_astore_n (F : vx_Fx p R s m args meth c base b cI cS D sc lim cc ow nL lev isI) {i : Fin 4} (hd : decode cc pc = .ok (.astore_n i, ln)) (hln : ln = 1) (ha : i.val = a) (hn : a < nL) (hk : vx_G p l e R s m args below meth c Qs base b cI cS D lim nL (pc + ln) k) : vx_G p l e R s m args below meth c Qs base b cI cS D lim nL pc (fun L S z h => vx_st sc lim (.astore_n i, ln, a, b', v, ps) L S z h J Q k) := by
  subst hln
  intro L S z h hst ls H locs cells slots hL hI
  rcases S with _ | ⟨v1, S⟩
  · exact False.elim hst
  · cases v1 with
    | ref x =>
      have hst : vx_nl L a ∧ k (L.set a (some (.ref x))) S z h := hst
      exact lv_astore_n F.1 F.2.1 hd ha hL.has hn rfl (fun ls' h' => hk _ _ _ _ hst.2 ls' H locs cells slots (hL.set (v := .ref x) hst.1 h') hI)
    | _ => exact False.elim hst
theorem vx_s_lstore (F : vx_Fx p R s m args meth c base b cI cS D sc lim cc ow nL lev isI) {i : Nat} (hd : decode cc pc = .ok (.lstore i, ln)) (hln : ln = 2) (ha : a = i) (hn : a + 1 < nL) (hk : vx_G p l e R s m args below meth c Qs base b cI cS D lim nL (pc + ln) k) : vx_G p l e R s m args below meth c Qs base b cI cS D lim nL pc (fun L S z h => vx_st sc lim (.lstore i, ln, a, b', v, ps) L S z h J Q k) := by
  subst hln; subst ha
  intro L S z h hst ls H locs cells slots hL hI
  rcases S with _ | ⟨v1, S⟩
  · exact False.elim hst
  · cases v1 with
    | long x =>
      have hst : vx_nl L a ∧ k ((L.set a (some (.long x))).set (a + 1) none) S z h := hst
      exact lv_lstore F.1 F.2.1 hd hL.has hn rfl (fun ls' h' => hk _ _ _ _ hst.2 ls' H locs cells slots (hL.set2 (v := .long x) hst.1 h') hI)
    | _ => exact False.elim hst
theorem vx_s_iinc (F : vx_Fx p R s m args meth c base b cI cS D sc lim cc ow nL lev isI) {i : Nat} {n : Int} (hd : decode cc pc = .ok (.iinc i n, ln)) (hln : ln = 3) (ha : a = i) (hn : a < nL) (hv : v = .int (Int32.ofInt n)) (hk : vx_G p l e R s m args below meth c Qs base b cI cS D lim nL (pc + ln) k) : vx_G p l e R s m args below meth c Qs base b cI cS D lim nL pc (fun L S z h => vx_st sc lim (.iinc i n, ln, a, b', v, ps) L S z h J Q k) := by
  subst hln; subst ha; subst hv
  intro L S z h hst ls H locs cells slots hL hI
  have hst : (match L[a]? with | some (some (.int x)) => vx_nl L a ∧ k (L.set a (some (.int (x + Int32.ofInt n)))) S z h | _ => False) := by
    have h2 := hst
    unfold vx_st at h2
    dsimp only at h2
    split at h2
    · rename_i h3 h4
      cases h4
      rw [h3]
      exact h2
    · exact False.elim h2
  split at hst
  · rename_i x hx
    obtain ⟨q, hq⟩ := List.getElem?_of_mem (vx_as_mem (base := base) (b := b) (q := (a, .int x)) |>.mpr ⟨_, hx, rfl⟩)
    exact lv_iinc F.1 F.2.1 hd hL.has hq rfl hn rfl (fun ls' h' => hk _ _ _ _ hst.2 ls' H locs cells slots (hL.set (v := .int (x + Int32.ofInt n)) hst.1 h') hI)
  · exact False.elim hst
theorem vx_s_iadd (F : vx_Fx p R s m args meth c base b cI cS D sc lim cc ow nL lev isI) (hd : decode cc pc = .ok (.iadd, ln)) (hln : ln = 1) (hk : vx_G p l e R s m args below meth c Qs base b cI cS D lim nL (pc + ln) k) : vx_G p l e R s m args below meth c Qs base b cI cS D lim nL pc (fun L S z h => vx_st sc lim (.iadd, ln, a, b', v, ps) L S z h J Q k) := by
  subst hln
  intro L S z h hst ls H locs cells slots hL hI
  rcases S with _ | ⟨v1, _ | ⟨v2, S⟩⟩
  · exact False.elim hst
  · cases v1 <;> exact False.elim hst
  · cases v1 with
    | int y => cases v2 with
      | int x =>
        have hst : k L (.int (x + y) :: S) z h := hst
        exact lv_iadd F.1 F.2.1 hd (hk _ _ _ _ hst ls H locs cells slots hL hI)
      | _ => exact False.elim hst
    | _ => exact False.elim hst
theorem vx_s_isub (F : vx_Fx p R s m args meth c base b cI cS D sc lim cc ow nL lev isI) (hd : decode cc pc = .ok (.isub, ln)) (hln : ln = 1) (hk : vx_G p l e R s m args below meth c Qs base b cI cS D lim nL (pc + ln) k) : vx_G p l e R s m args below meth c Qs base b cI cS D lim nL pc (fun L S z h => vx_st sc lim (.isub, ln, a, b', v, ps) L S z h J Q k) := by
  subst hln
  intro L S z h hst ls H locs cells slots hL hI
  rcases S with _ | ⟨v1, _ | ⟨v2, S⟩⟩
  · exact False.elim hst
  · cases v1 <;> exact False.elim hst
  · cases v1 with
    | int y => cases v2 with
      | int x =>
        have hst : k L (.int (x - y) :: S) z h := hst
        exact lv_isub F.1 F.2.1 hd (hk _ _ _ _ hst ls H locs cells slots hL hI)
      | _ => exact False.elim hst
    | _ => exact False.elim hst
theorem vx_s_imul (F : vx_Fx p R s m args meth c base b cI cS D sc lim cc ow nL lev isI) (hd : decode cc pc = .ok (.imul, ln)) (hln : ln = 1) (hk : vx_G p l e R s m args below meth c Qs base b cI cS D lim nL (pc + ln) k) : vx_G p l e R s m args below meth c Qs base b cI cS D lim nL pc (fun L S z h => vx_st sc lim (.imul, ln, a, b', v, ps) L S z h J Q k) := by
  subst hln
  intro L S z h hst ls H locs cells slots hL hI
  rcases S with _ | ⟨v1, _ | ⟨v2, S⟩⟩
  · exact False.elim hst
  · cases v1 <;> exact False.elim hst
  · cases v1 with
    | int y => cases v2 with
      | int x =>
        have hst : k L (.int (x * y) :: S) z h := hst
        exact lv_imul F.1 F.2.1 hd (hk _ _ _ _ hst ls H locs cells slots hL hI)
      | _ => exact False.elim hst
    | _ => exact False.elim hst
theorem vx_s_iand (F : vx_Fx p R s m args meth c base b cI cS D sc lim cc ow nL lev isI) (hd : decode cc pc = .ok (.iand, ln)) (hln : ln = 1) (hk : vx_G p l e R s m args below meth c Qs base b cI cS D lim nL (pc + ln) k) : vx_G p l e R s m args below meth c Qs base b cI cS D lim nL pc (fun L S z h => vx_st sc lim (.iand, ln, a, b', v, ps) L S z h J Q k) := by
  subst hln
  intro L S z h hst ls H locs cells slots hL hI
  rcases S with _ | ⟨v1, _ | ⟨v2, S⟩⟩
  · exact False.elim hst
  · cases v1 <;> exact False.elim hst
  · cases v1 with
    | int y => cases v2 with
      | int x =>
        have hst : k L (.int (x &&& y) :: S) z h := hst
        exact lv_iand F.1 F.2.1 hd (hk _ _ _ _ hst ls H locs cells slots hL hI)
      | _ => exact False.elim hst
    | _ => exact False.elim hst
theorem vx_s_ior (F : vx_Fx p R s m args meth c base b cI cS D sc lim cc ow nL lev isI) (hd : decode cc pc = .ok (.ior, ln)) (hln : ln = 1) (hk : vx_G p l e R s m args below meth c Qs base b cI cS D lim nL (pc + ln) k) : vx_G p l e R s m args below meth c Qs base b cI cS D lim nL pc (fun L S z h => vx_st sc lim (.ior, ln, a, b', v, ps) L S z h J Q k) := by
  subst hln
  intro L S z h hst ls H locs cells slots hL hI
  rcases S with _ | ⟨v1, _ | ⟨v2, S⟩⟩
  · exact False.elim hst
  · cases v1 <;> exact False.elim hst
  · cases v1 with
    | int y => cases v2 with
      | int x =>
        have hst : k L (.int (x ||| y) :: S) z h := hst
        exact lv_ior F.1 F.2.1 hd (hk _ _ _ _ hst ls H locs cells slots hL hI)
      | _ => exact False.elim hst
    | _ => exact False.elim hst
theorem vx_s_ishl (F : vx_Fx p R s m args meth c base b cI cS D sc lim cc ow nL lev isI) (hd : decode cc pc = .ok (.ishl, ln)) (hln : ln = 1) (hk : vx_G p l e R s m args below meth c Qs base b cI cS D lim nL (pc + ln) k) : vx_G p l e R s m args below meth c Qs base b cI cS D lim nL pc (fun L S z h => vx_st sc lim (.ishl, ln, a, b', v, ps) L S z h J Q k) := by
  subst hln
  intro L S z h hst ls H locs cells slots hL hI
  rcases S with _ | ⟨v1, _ | ⟨v2, S⟩⟩
  · exact False.elim hst
  · cases v1 <;> exact False.elim hst
  · cases v1 with
    | int y => cases v2 with
      | int x =>
        have hst : k L (.int (x <<< (y &&& 31)) :: S) z h := hst
        exact lv_ishl F.1 F.2.1 hd (hk _ _ _ _ hst ls H locs cells slots hL hI)
      | _ => exact False.elim hst
    | _ => exact False.elim hst
theorem vx_s_ishr (F : vx_Fx p R s m args meth c base b cI cS D sc lim cc ow nL lev isI) (hd : decode cc pc = .ok (.ishr, ln)) (hln : ln = 1) (hk : vx_G p l e R s m args below meth c Qs base b cI cS D lim nL (pc + ln) k) : vx_G p l e R s m args below meth c Qs base b cI cS D lim nL pc (fun L S z h => vx_st sc lim (.ishr, ln, a, b', v, ps) L S z h J Q k) := by
  subst hln
  intro L S z h hst ls H locs cells slots hL hI
  rcases S with _ | ⟨v1, _ | ⟨v2, S⟩⟩
  · exact False.elim hst
  · cases v1 <;> exact False.elim hst
  · cases v1 with
    | int y => cases v2 with
      | int x =>
        have hst : k L (.int (x >>> (y &&& 31)) :: S) z h := hst
        exact lv_ishr F.1 F.2.1 hd (hk _ _ _ _ hst ls H locs cells slots hL hI)
      | _ => exact False.elim hst
    | _ => exact False.elim hst
theorem vx_s_iushr (F : vx_Fx p R s m args meth c base b cI cS D sc lim cc ow nL lev isI) (hd : decode cc pc = .ok (.iushr, ln)) (hln : ln = 1) (hk : vx_G p l e R s m args below meth c Qs base b cI cS D lim nL (pc + ln) k) : vx_G p l e R s m args below meth c Qs base b cI cS D lim nL pc (fun L S z h => vx_st sc lim (.iushr, ln, a, b', v, ps) L S z h J Q k) := by
  subst hln
  intro L S z h hst ls H locs cells slots hL hI
  rcases S with _ | ⟨v1, _ | ⟨v2, S⟩⟩
  · exact False.elim hst
  · cases v1 <;> exact False.elim hst
  · cases v1 with
    | int y => cases v2 with
      | int x =>
        have hst : k L (.int ((x.toUInt32 >>> (y.toUInt32 &&& Int32.toUInt32 31)).toInt32) :: S) z h := hst
        exact lv_iushr F.1 F.2.1 hd rfl (hk _ _ _ _ hst ls H locs cells slots hL hI)
      | _ => exact False.elim hst
    | _ => exact False.elim hst
theorem vx_s_idiv (F : vx_Fx p R s m args meth c base b cI cS D sc lim cc ow nL lev isI) (hd : decode cc pc = .ok (.idiv, ln)) (hln : ln = 1) (hk : vx_G p l e R s m args below meth c Qs base b cI cS D lim nL (pc + ln) k) : vx_G p l e R s m args below meth c Qs base b cI cS D lim nL pc (fun L S z h => vx_st sc lim (.idiv, ln, a, b', v, ps) L S z h J Q k) := by
  subst hln
  intro L S z h hst ls H locs cells slots hL hI
  rcases S with _ | ⟨v1, _ | ⟨v2, S⟩⟩
  · exact False.elim hst
  · cases v1 <;> exact False.elim hst
  · cases v1 with
    | int y => cases v2 with
      | int x =>
        have hst : ¬ y = 0 ∧ k L (.int (x / y) :: S) z h := hst
        exact lv_idiv F.1 F.2.1 hd hst.1 (hk _ _ _ _ hst.2 ls H locs cells slots hL hI)
      | _ => exact False.elim hst
    | _ => exact False.elim hst
theorem vx_s_irem (F : vx_Fx p R s m args meth c base b cI cS D sc lim cc ow nL lev isI) (hd : decode cc pc = .ok (.irem, ln)) (hln : ln = 1) (hk : vx_G p l e R s m args below meth c Qs base b cI cS D lim nL (pc + ln) k) : vx_G p l e R s m args below meth c Qs base b cI cS D lim nL pc (fun L S z h => vx_st sc lim (.irem, ln, a, b', v, ps) L S z h J Q k) := by
  subst hln
  intro L S z h hst ls H locs cells slots hL hI
  rcases S with _ | ⟨v1, _ | ⟨v2, S⟩⟩
  · exact False.elim hst
  · cases v1 <;> exact False.elim hst
  · cases v1 with
    | int y => cases v2 with
      | int x =>
        have hst : ¬ y = 0 ∧ k L (.int (x - x / y * y) :: S) z h := hst
        exact lv_irem F.1 F.2.1 hd hst.1 (hk _ _ _ _ hst.2 ls H locs cells slots hL hI)
      | _ => exact False.elim hst
    | _ => exact False.elim hst
theorem vx_s_ldiv (F : vx_Fx p R s m args meth c base b cI cS D sc lim cc ow nL lev isI) (hd : decode cc pc = .ok (.ldiv, ln)) (hln : ln = 1) (hk : vx_G p l e R s m args below meth c Qs base b cI cS D lim nL (pc + ln) k) : vx_G p l e R s m args below meth c Qs base b cI cS D lim nL pc (fun L S z h => vx_st sc lim (.ldiv, ln, a, b', v, ps) L S z h J Q k) := by
  subst hln
  intro L S z h hst ls H locs cells slots hL hI
  rcases S with _ | ⟨v1, _ | ⟨v2, S⟩⟩
  · exact False.elim hst
  · cases v1 <;> exact False.elim hst
  · cases v1 with
    | long y => cases v2 with
      | long x =>
        have hst : ¬ y = 0 ∧ k L (.long (x / y) :: S) z h := hst
        exact lv_ldiv F.1 F.2.1 hd hst.1 (hk _ _ _ _ hst.2 ls H locs cells slots hL hI)
      | _ => exact False.elim hst
    | _ => exact False.elim hst
theorem vx_s_lrem (F : vx_Fx p R s m args meth c base b cI cS D sc lim cc ow nL lev isI) (hd : decode cc pc = .ok (.lrem, ln)) (hln : ln = 1) (hk : vx_G p l e R s m args below meth c Qs base b cI cS D lim nL (pc + ln) k) : vx_G p l e R s m args below meth c Qs base b cI cS D lim nL pc (fun L S z h => vx_st sc lim (.lrem, ln, a, b', v, ps) L S z h J Q k) := by
  subst hln
  intro L S z h hst ls H locs cells slots hL hI
  rcases S with _ | ⟨v1, _ | ⟨v2, S⟩⟩
  · exact False.elim hst
  · cases v1 <;> exact False.elim hst
  · cases v1 with
    | long y => cases v2 with
      | long x =>
        have hst : ¬ y = 0 ∧ k L (.long (x - x / y * y) :: S) z h := hst
        exact lv_lrem F.1 F.2.1 hd hst.1 (hk _ _ _ _ hst.2 ls H locs cells slots hL hI)
      | _ => exact False.elim hst
    | _ => exact False.elim hst
theorem vx_s_lshl (F : vx_Fx p R s m args meth c base b cI cS D sc lim cc ow nL lev isI) (hd : decode cc pc = .ok (.lshl, ln)) (hln : ln = 1) (hk : vx_G p l e R s m args below meth c Qs base b cI cS D lim nL (pc + ln) k) : vx_G p l e R s m args below meth c Qs base b cI cS D lim nL pc (fun L S z h => vx_st sc lim (.lshl, ln, a, b', v, ps) L S z h J Q k) := by
  subst hln
  intro L S z h hst ls H locs cells slots hL hI
  rcases S with _ | ⟨v1, _ | ⟨v2, S⟩⟩
  · exact False.elim hst
  · cases v1 <;> exact False.elim hst
  · cases v1 with
    | int y => cases v2 with
      | long x =>
        have hst : k L (.long (x <<< (y.toInt64 &&& 63)) :: S) z h := hst
        exact lv_lshl F.1 F.2.1 hd rfl (hk _ _ _ _ hst ls H locs cells slots hL hI)
      | _ => exact False.elim hst
    | _ => exact False.elim hst
theorem vx_s_lcmp (F : vx_Fx p R s m args meth c base b cI cS D sc lim cc ow nL lev isI) (hd : decode cc pc = .ok (.lcmp, ln)) (hln : ln = 1) (hk : vx_G p l e R s m args below meth c Qs base b cI cS D lim nL (pc + ln) k) : vx_G p l e R s m args below meth c Qs base b cI cS D lim nL pc (fun L S z h => vx_st sc lim (.lcmp, ln, a, b', v, ps) L S z h J Q k) := by
  subst hln
  intro L S z h hst ls H locs cells slots hL hI
  rcases S with _ | ⟨v1, _ | ⟨v2, S⟩⟩
  · exact False.elim hst
  · cases v1 <;> exact False.elim hst
  · cases v1 with
    | long y => cases v2 with
      | long x =>
        have hst : k L (.int (lg_cmp x y) :: S) z h := hst
        exact W.lcmp F.1 F.2.1 hd (hk _ _ _ _ hst ls H locs cells slots hL hI)
      | _ => exact False.elim hst
    | _ => exact False.elim hst
theorem vx_s_ineg (F : vx_Fx p R s m args meth c base b cI cS D sc lim cc ow nL lev isI) (hd : decode cc pc = .ok (.ineg, ln)) (hln : ln = 1) (hk : vx_G p l e R s m args below meth c Qs base b cI cS D lim nL (pc + ln) k) : vx_G p l e R s m args below meth c Qs base b cI cS D lim nL pc (fun L S z h => vx_st sc lim (.ineg, ln, a, b', v, ps) L S z h J Q k) := by
  subst hln
  intro L S z h hst ls H locs cells slots hL hI
  rcases S with _ | ⟨v1, S⟩
  · exact False.elim hst
  · cases v1 with
    | int x =>
      have hst : k L (.int (-x) :: S) z h := hst
      exact lv_ineg F.1 F.2.1 hd (hk _ _ _ _ hst ls H locs cells slots hL hI)
    | _ => exact False.elim hst
theorem vx_s_i2l (F : vx_Fx p R s m args meth c base b cI cS D sc lim cc ow nL lev isI) (hd : decode cc pc = .ok (.i2l, ln)) (hln : ln = 1) (hk : vx_G p l e R s m args below meth c Qs base b cI cS D lim nL (pc + ln) k) : vx_G p l e R s m args below meth c Qs base b cI cS D lim nL pc (fun L S z h => vx_st sc lim (.i2l, ln, a, b', v, ps) L S z h J Q k) := by
  subst hln
  intro L S z h hst ls H locs cells slots hL hI
  rcases S with _ | ⟨v1, S⟩
  · exact False.elim hst
  · cases v1 with
    | int x =>
      have hst : k L (.long x.toInt64 :: S) z h := hst
      exact lv_i2l F.1 F.2.1 hd rfl (hk _ _ _ _ hst ls H locs cells slots hL hI)
    | _ => exact False.elim hst
theorem vx_s_i2b (F : vx_Fx p R s m args meth c base b cI cS D sc lim cc ow nL lev isI) (hd : decode cc pc = .ok (.i2b, ln)) (hln : ln = 1) (hk : vx_G p l e R s m args below meth c Qs base b cI cS D lim nL (pc + ln) k) : vx_G p l e R s m args below meth c Qs base b cI cS D lim nL pc (fun L S z h => vx_st sc lim (.i2b, ln, a, b', v, ps) L S z h J Q k) := by
  subst hln
  intro L S z h hst ls H locs cells slots hL hI
  rcases S with _ | ⟨v1, S⟩
  · exact False.elim hst
  · cases v1 with
    | int x =>
      have hst : k L (.int x.toInt8.toInt32 :: S) z h := hst
      exact lv_i2b F.1 F.2.1 hd rfl (hk _ _ _ _ hst ls H locs cells slots hL hI)
    | _ => exact False.elim hst
theorem vx_s_i2s (F : vx_Fx p R s m args meth c base b cI cS D sc lim cc ow nL lev isI) (hd : decode cc pc = .ok (.i2s, ln)) (hln : ln = 1) (hk : vx_G p l e R s m args below meth c Qs base b cI cS D lim nL (pc + ln) k) : vx_G p l e R s m args below meth c Qs base b cI cS D lim nL pc (fun L S z h => vx_st sc lim (.i2s, ln, a, b', v, ps) L S z h J Q k) := by
  subst hln
  intro L S z h hst ls H locs cells slots hL hI
  rcases S with _ | ⟨v1, S⟩
  · exact False.elim hst
  · cases v1 with
    | int x =>
      have hst : k L (.int x.toInt16.toInt32 :: S) z h := hst
      exact lv_i2s F.1 F.2.1 hd rfl (hk _ _ _ _ hst ls H locs cells slots hL hI)
    | _ => exact False.elim hst
theorem vx_s_dup (F : vx_Fx p R s m args meth c base b cI cS D sc lim cc ow nL lev isI) (hd : decode cc pc = .ok (.dup, ln)) (hln : ln = 1) (hk : vx_G p l e R s m args below meth c Qs base b cI cS D lim nL (pc + ln) k) : vx_G p l e R s m args below meth c Qs base b cI cS D lim nL pc (fun L S z h => vx_st sc lim (.dup, ln, a, b', v, ps) L S z h J Q k) := by
  subst hln
  intro L S z h hst ls H locs cells slots hL hI
  rcases S with _ | ⟨v1, S⟩
  · exact False.elim hst
  · cases v1 with
    | int x =>
      have hst : k L (.int x :: .int x :: S) z h := hst
      exact lv_dup F.1 F.2.1 hd rfl (hk _ _ _ _ hst ls H locs cells slots hL hI)
    | ref x =>
      have hst : k L (.ref x :: .ref x :: S) z h := hst
      exact lv_dup F.1 F.2.1 hd rfl (hk _ _ _ _ hst ls H locs cells slots hL hI)
    | _ => exact False.elim hst
theorem vx_s_dup2 (F : vx_Fx p R s m args meth c base b cI cS D sc lim cc ow nL lev isI) (hd : decode cc pc = .ok (.dup2, ln)) (hln : ln = 1) (hk : vx_G p l e R s m args below meth c Qs base b cI cS D lim nL (pc + ln) k) : vx_G p l e R s m args below meth c Qs base b cI cS D lim nL pc (fun L S z h => vx_st sc lim (.dup2, ln, a, b', v, ps) L S z h J Q k) := by
  subst hln
  intro L S z h hst ls H locs cells slots hL hI
  rcases S with _ | ⟨v1, _ | ⟨v2, S⟩⟩
  · exact False.elim hst
  · cases v1 <;> exact False.elim hst
  · cases v1 with
    | int y => cases v2 with
      | ref x =>
        have hst : k L (.int y :: .ref x :: .int y :: .ref x :: S) z h := hst
        exact lv_dup2_11 F.1 F.2.1 hd rfl rfl (hk _ _ _ _ hst ls H locs cells slots hL hI)
      | _ => exact False.elim hst
    | _ => exact False.elim hst
theorem vx_s_if_eq (F : vx_Fx p R s m args meth c base b cI cS D sc lim cc ow nL lev isI) {off : Int} (hd : decode cc pc = .ok (.ifCond .eq off, ln)) (hln : ln = 3) (ht : (pc : Int) + off = (a : Int)) (hk : vx_G p l e R s m args below meth c Qs base b cI cS D lim nL (pc + ln) k) (hJ : ∀ t, vx_G p l e R s m args below meth c Qs base b cI cS D lim nL t (J t)) : vx_G p l e R s m args below meth c Qs base b cI cS D lim nL pc (fun L S z h => vx_st sc lim (.ifCond .eq off, ln, a, b', v, ps) L S z h J Q k) := by
  subst hln
  intro L S z h hst ls H locs cells slots hL hI
  rcases S with _ | ⟨v1, S⟩
  · exact False.elim hst
  · cases v1 with
    | int x =>
      have hst : (x = 0 → J a L S z h) ∧ (¬ x = 0 → k L S z h) := hst
      exact lv_if_eq F.1 F.2.1 hd ht (fun q => hJ _ _ _ _ _ (hst.1 q) ls H locs cells slots hL hI) (fun q => hk _ _ _ _ (hst.2 q) ls H locs cells slots hL hI)
    | _ => exact False.elim hst
theorem vx_s_if_ne (F : vx_Fx p R s m args meth c base b cI cS D sc lim cc ow nL lev isI) {off : Int} (hd : decode cc pc = .ok (.ifCond .ne off, ln)) (hln : ln = 3) (ht : (pc : Int) + off = (a : Int)) (hk : vx_G p l e R s m args below meth c Qs base b cI cS D lim nL (pc + ln) k) (hJ : ∀ t, vx_G p l e R s m args below meth c Qs base b cI cS D lim nL t (J t)) : vx_G p l e R s m args below meth c Qs base b cI cS D lim nL pc (fun L S z h => vx_st sc lim (.ifCond .ne off, ln, a, b', v, ps) L S z h J Q k) := by
  subst hln
  intro L S z h hst ls H locs cells slots hL hI
  rcases S with _ | ⟨v1, S⟩
  · exact False.elim hst
  · cases v1 with
    | int x =>
      have hst : (¬ x = 0 → J a L S z h) ∧ (x = 0 → k L S z h) := hst
      exact lv_if_ne F.1 F.2.1 hd ht (fun q => hJ _ _ _ _ _ (hst.1 q) ls H locs cells slots hL hI) (fun q => hk _ _ _ _ (hst.2 q) ls H locs cells slots hL hI)
    | _ => exact False.elim hst
theorem vx_s_if_lt (F : vx_Fx p R s m args meth c base b cI cS D sc lim cc ow nL lev isI) {off : Int} (hd : decode cc pc = .ok (.ifCond .lt off, ln)) (hln : ln = 3) (ht : (pc : Int) + off = (a : Int)) (hk : vx_G p l e R s m args below meth c Qs base b cI cS D lim nL (pc + ln) k) (hJ : ∀ t, vx_G p l e R s m args below meth c Qs base b cI cS D lim nL t (J t)) : vx_G p l e R s m args below meth c Qs base b cI cS D lim nL pc (fun L S z h => vx_st sc lim (.ifCond .lt off, ln, a, b', v, ps) L S z h J Q k) := by
  subst hln
  intro L S z h hst ls H locs cells slots hL hI
  rcases S with _ | ⟨v1, S⟩
  · exact False.elim hst
  · cases v1 with
    | int x =>
      have hst : (x < 0 → J a L S z h) ∧ (¬ x < 0 → k L S z h) := hst
      exact lv_if_lt F.1 F.2.1 hd ht (fun q => hJ _ _ _ _ _ (hst.1 q) ls H locs cells slots hL hI) (fun q => hk _ _ _ _ (hst.2 q) ls H locs cells slots hL hI)
    | _ => exact False.elim hst
theorem vx_s_if_ge (F : vx_Fx p R s m args meth c base b cI cS D sc lim cc ow nL lev isI) {off : Int} (hd : decode cc pc = .ok (.ifCond .ge off, ln)) (hln : ln = 3) (ht : (pc : Int) + off = (a : Int)) (hk : vx_G p l e R s m args below meth c Qs base b cI cS D lim nL (pc + ln) k) (hJ : ∀ t, vx_G p l e R s m args below meth c Qs base b cI cS D lim nL t (J t)) : vx_G p l e R s m args below meth c Qs base b cI cS D lim nL pc (fun L S z h => vx_st sc lim (.ifCond .ge off, ln, a, b', v, ps) L S z h J Q k) := by
  subst hln
  intro L S z h hst ls H locs cells slots hL hI
  rcases S with _ | ⟨v1, S⟩
  · exact False.elim hst
  · cases v1 with
    | int x =>
      have hst : (0 ≤ x → J a L S z h) ∧ (¬ 0 ≤ x → k L S z h) := hst
      exact lv_if_ge F.1 F.2.1 hd ht (fun q => hJ _ _ _ _ _ (hst.1 q) ls H locs cells slots hL hI) (fun q => hk _ _ _ _ (hst.2 q) ls H locs cells slots hL hI)
    | _ => exact False.elim hst
theorem vx_s_if_gt (F : vx_Fx p R s m args meth c base b cI cS D sc lim cc ow nL lev isI) {off : Int} (hd : decode cc pc = .ok (.ifCond .gt off, ln)) (hln : ln = 3) (ht : (pc : Int) + off = (a : Int)) (hk : vx_G p l e R s m args below meth c Qs base b cI cS D lim nL (pc + ln) k) (hJ : ∀ t, vx_G p l e R s m args below meth c Qs base b cI cS D lim nL t (J t)) : vx_G p l e R s m args below meth c Qs base b cI cS D lim nL pc (fun L S z h => vx_st sc lim (.ifCond .gt off, ln, a, b', v, ps) L S z h J Q k) := by
  subst hln
  intro L S z h hst ls H locs cells slots hL hI
  rcases S with _ | ⟨v1, S⟩
  · exact False.elim hst
  · cases v1 with
    | int x =>
      have hst : (0 < x → J a L S z h) ∧ (¬ 0 < x → k L S z h) := hst
      exact lv_if_gt F.1 F.2.1 hd ht (fun q => hJ _ _ _ _ _ (hst.1 q) ls H locs cells slots hL hI) (fun q => hk _ _ _ _ (hst.2 q) ls H locs cells slots hL hI)
    | _ => exact False.elim hst
theorem vx_s_if_le (F : vx_Fx p R s m args meth c base b cI cS D sc lim cc ow nL lev isI) {off : Int} (hd : decode cc pc = .ok (.ifCond .le off, ln)) (hln : ln = 3) (ht : (pc : Int) + off = (a : Int)) (hk : vx_G p l e R s m args below meth c Qs base b cI cS D lim nL (pc + ln) k) (hJ : ∀ t, vx_G p l e R s m args below meth c Qs base b cI cS D lim nL t (J t)) : vx_G p l e R s m args below meth c Qs base b cI cS D lim nL pc (fun L S z h => vx_st sc lim (.ifCond .le off, ln, a, b', v, ps) L S z h J Q k) := by
  subst hln
  intro L S z h hst ls H locs cells slots hL hI
  rcases S with _ | ⟨v1, S⟩
  · exact False.elim hst
  · cases v1 with
    | int x =>
      have hst : (x ≤ 0 → J a L S z h) ∧ (¬ x ≤ 0 → k L S z h) := hst
      exact lv_if_le F.1 F.2.1 hd ht (fun q => hJ _ _ _ _ _ (hst.1 q) ls H locs cells slots hL hI) (fun q => hk _ _ _ _ (hst.2 q) ls H locs cells slots hL hI)
    | _ => exact False.elim hst
theorem vx_s_icmp_eq (F : vx_Fx p R s m args meth c base b cI cS D sc lim cc ow nL lev isI) {off : Int} (hd : decode cc pc = .ok (.if_icmp .eq off, ln)) (hln : ln = 3) (ht : (pc : Int) + off = (a : Int)) (hk : vx_G p l e R s m args below meth c Qs base b cI cS D lim nL (pc + ln) k) (hJ : ∀ t, vx_G p l e R s m args below meth c Qs base b cI cS D lim nL t (J t)) : vx_G p l e R s m args below meth c Qs base b cI cS D lim nL pc (fun L S z h => vx_st sc lim (.if_icmp .eq off, ln, a, b', v, ps) L S z h J Q k) := by
  subst hln
  intro L S z h hst ls H locs cells slots hL hI
  rcases S with _ | ⟨v1, _ | ⟨v2, S⟩⟩
  · exact False.elim hst
  · cases v1 <;> exact False.elim hst
  · cases v1 with
    | int y => cases v2 with
      | int x =>
        have hst : (x = y → J a L S z h) ∧ (¬ x = y → k L S z h) := hst
        exact lv_icmp_eq F.1 F.2.1 hd ht (fun q => hJ _ _ _ _ _ (hst.1 q) ls H locs cells slots hL hI) (fun q => hk _ _ _ _ (hst.2 q) ls H locs cells slots hL hI)
      | _ => exact False.elim hst
    | _ => exact False.elim hst
theorem vx_s_icmp_ne (F : vx_Fx p R s m args meth c base b cI cS D sc lim cc ow nL lev isI) {off : Int} (hd : decode cc pc = .ok (.if_icmp .ne off, ln)) (hln : ln = 3) (ht : (pc : Int) + off = (a : Int)) (hk : vx_G p l e R s m args below meth c Qs base b cI cS D lim nL (pc + ln) k) (hJ : ∀ t, vx_G p l e R s m args below meth c Qs base b cI cS D lim nL t (J t)) : vx_G p l e R s m args below meth c Qs base b cI cS D lim nL pc (fun L S z h => vx_st sc lim (.if_icmp .ne off, ln, a, b', v, ps) L S z h J Q k) := by
  subst hln
  intro L S z h hst ls H locs cells slots hL hI
  rcases S with _ | ⟨v1, _ | ⟨v2, S⟩⟩
  · exact False.elim hst
  · cases v1 <;> exact False.elim hst
  · cases v1 with
    | int y => cases v2 with
      | int x =>
        have hst : (¬ x = y → J a L S z h) ∧ (x = y → k L S z h) := hst
        exact lv_icmp_ne F.1 F.2.1 hd ht (fun q => hJ _ _ _ _ _ (hst.1 q) ls H locs cells slots hL hI) (fun q => hk _ _ _ _ (hst.2 q) ls H locs cells slots hL hI)
      | _ => exact False.elim hst
    | _ => exact False.elim hst
theorem vx_s_icmp_lt (F : vx_Fx p R s m args meth c base b cI cS D sc lim cc ow nL lev isI) {off : Int} (hd : decode cc pc = .ok (.if_icmp .lt off, ln)) (hln : ln = 3) (ht : (pc : Int) + off = (a : Int)) (hk : vx_G p l e R s m args below meth c Qs base b cI cS D lim nL (pc + ln) k) (hJ : ∀ t, vx_G p l e R s m args below meth c Qs base b cI cS D lim nL t (J t)) : vx_G p l e R s m args below meth c Qs base b cI cS D lim nL pc (fun L S z h => vx_st sc lim (.if_icmp .lt off, ln, a, b', v, ps) L S z h J Q k) := by
  subst hln
  intro L S z h hst ls H locs cells slots hL hI
  rcases S with _ | ⟨v1, _ | ⟨v2, S⟩⟩
  · exact False.elim hst
  · cases v1 <;> exact False.elim hst
  · cases v1 with
    | int y => cases v2 with
      | int x =>
        have hst : (x < y → J a L S z h) ∧ (¬ x < y → k L S z h) := hst
        exact lv_icmp_lt F.1 F.2.1 hd ht (fun q => hJ _ _ _ _ _ (hst.1 q) ls H locs cells slots hL hI) (fun q => hk _ _ _ _ (hst.2 q) ls H locs cells slots hL hI)
      | _ => exact False.elim hst
    | _ => exact False.elim hst
theorem vx_s_icmp_ge (F : vx_Fx p R s m args meth c base b cI cS D sc lim cc ow nL lev isI) {off : Int} (hd : decode cc pc = .ok (.if_icmp .ge off, ln)) (hln : ln = 3) (ht : (pc : Int) + off = (a : Int)) (hk : vx_G p l e R s m args below meth c Qs base b cI cS D lim nL (pc + ln) k) (hJ : ∀ t, vx_G p l e R s m args below meth c Qs base b cI cS D lim nL t (J t)) : vx_G p l e R s m args below meth c Qs base b cI cS D lim nL pc (fun L S z h => vx_st sc lim (.if_icmp .ge off, ln, a, b', v, ps) L S z h J Q k) := by
  subst hln
  intro L S z h hst ls H locs cells slots hL hI
  rcases S with _ | ⟨v1, _ | ⟨v2, S⟩⟩
  · exact False.elim hst
  · cases v1 <;> exact False.elim hst
  · cases v1 with
    | int y => cases v2 with
      | int x =>
        have hst : (y ≤ x → J a L S z h) ∧ (¬ y ≤ x → k L S z h) := hst
        exact lv_icmp_ge F.1 F.2.1 hd ht (fun q => hJ _ _ _ _ _ (hst.1 q) ls H locs cells slots hL hI) (fun q => hk _ _ _ _ (hst.2 q) ls H locs cells slots hL hI)
      | _ => exact False.elim hst
    | _ => exact False.elim hst
theorem vx_s_icmp_gt (F : vx_Fx p R s m args meth c base b cI cS D sc lim cc ow nL lev isI) {off : Int} (hd : decode cc pc = .ok (.if_icmp .gt off, ln)) (hln : ln = 3) (ht : (pc : Int) + off = (a : Int)) (hk : vx_G p l e R s m args below meth c Qs base b cI cS D lim nL (pc + ln) k) (hJ : ∀ t, vx_G p l e R s m args below meth c Qs base b cI cS D lim nL t (J t)) : vx_G p l e R s m args below meth c Qs base b cI cS D lim nL pc (fun L S z h => vx_st sc lim (.if_icmp .gt off, ln, a, b', v, ps) L S z h J Q k) := by
  subst hln
  intro L S z h hst ls H locs cells slots hL hI
  rcases S with _ | ⟨v1, _ | ⟨v2, S⟩⟩
  · exact False.elim hst
  · cases v1 <;> exact False.elim hst
  · cases v1 with
    | int y => cases v2 with
      | int x =>
        have hst : (y < x → J a L S z h) ∧ (¬ y < x → k L S z h) := hst
        exact lv_icmp_gt F.1 F.2.1 hd ht (fun q => hJ _ _ _ _ _ (hst.1 q) ls H locs cells slots hL hI) (fun q => hk _ _ _ _ (hst.2 q) ls H locs cells slots hL hI)
      | _ => exact False.elim hst
    | _ => exact False.elim hst
theorem vx_s_icmp_le (F : vx_Fx p R s m args meth c base b cI cS D sc lim cc ow nL lev isI) {off : Int} (hd : decode cc pc = .ok (.if_icmp .le off, ln)) (hln : ln = 3) (ht : (pc : Int) + off = (a : Int)) (hk : vx_G p l e R s m args below meth c Qs base b cI cS D lim nL (pc + ln) k) (hJ : ∀ t, vx_G p l e R s m args below meth c Qs base b cI cS D lim nL t (J t)) : vx_G p l e R s m args below meth c Qs base b cI cS D lim nL pc (fun L S z h => vx_st sc lim (.if_icmp .le off, ln, a, b', v, ps) L S z h J Q k) := by
  subst hln
  intro L S z h hst ls H locs cells slots hL hI
  rcases S with _ | ⟨v1, _ | ⟨v2, S⟩⟩
  · exact False.elim hst
  · cases v1 <;> exact False.elim hst
  · cases v1 with
    | int y => cases v2 with
      | int x =>
        have hst : (x ≤ y → J a L S z h) ∧ (¬ x ≤ y → k L S z h) := hst
        exact lv_icmp_le F.1 F.2.1 hd ht (fun q => hJ _ _ _ _ _ (hst.1 q) ls H locs cells slots hL hI) (fun q => hk _ _ _ _ (hst.2 q) ls H locs cells slots hL hI)
      | _ => exact False.elim hst
    | _ => exact False.elim hst
theorem vx_s_ifnull (F : vx_Fx p R s m args meth c base b cI cS D sc lim cc ow nL lev isI) {off : Int} (hd : decode cc pc = .ok (.ifnull off, ln)) (hln : ln = 3) (ht : (pc : Int) + off = (a : Int)) (hk : vx_G p l e R s m args below meth c Qs base b cI cS D lim nL (pc + ln) k) (hJ : ∀ t, vx_G p l e R s m args below meth c Qs base b cI cS D lim nL t (J t)) : vx_G p l e R s m args below meth c Qs base b cI cS D lim nL pc (fun L S z h => vx_st sc lim (.ifnull off, ln, a, b', v, ps) L S z h J Q k) := by
  subst hln
  intro L S z h hst ls H locs cells slots hL hI
  rcases S with _ | ⟨v1, S⟩
  · exact False.elim hst
  · cases v1 with
    | ref x =>
      have hst : k L S z h := hst
      exact lv_ifnull F.1 F.2.1 hd (hk _ _ _ _ hst ls H locs cells slots hL hI)
    | null =>
      have hst : J a L S z h := hst
      exact lv_ifnullN F.1 F.2.1 hd ht (hJ _ _ _ _ _ hst ls H locs cells slots hL hI)
    | _ => exact False.elim hst
theorem vx_s_goto (F : vx_Fx p R s m args meth c base b cI cS D sc lim cc ow nL lev isI) {off : Int} (hd : decode cc pc = .ok (.goto off, ln)) (hln : ln = 3) (ht : (pc : Int) + off = (a : Int)) (hJ : ∀ t, vx_G p l e R s m args below meth c Qs base b cI cS D lim nL t (J t)) : vx_G p l e R s m args below meth c Qs base b cI cS D lim nL pc (fun L S z h => vx_st sc lim (.goto off, ln, a, b', v, ps) L S z h J Q k) := by
  subst hln
  intro L S z h hst ls H locs cells slots hL hI
  have hst : J a L S z h := hst
  exact lv_goto F.1 F.2.1 hd ht (hJ _ _ _ _ _ hst ls H locs cells slots hL hI)
end VXT
