/-! the step is sound: constants of the pool, switches, calls -/
theorem vx_good {w : Cond} (h : w ∈ vx_TB) : (w.onTables && w.keeps) = true ∨ ∃ ty, w = .arrayClass ty := good_of_word (List.mem_filter.mp h).2
theorem vx_GI {w0 : Cond} (h : w0 ∈ vx_TB) : GoodIn vx_TB (w0 :: vx_TB) := fun w hw => by
  rcases List.mem_cons.mp hw with rfl | hw
  · exact ⟨h, vx_good h⟩
  · exact ⟨hw, vx_good hw⟩
/-- what the tables say of a method -/
def vx_mfacts (M : vx_M) : Prop := Cond.code M.1 M.2.1 M.2.2.1 M.2.2.2.1 ∈ vx_TB ∧ Cond.initialized M.1.cls ∈ vx_TB ∧ (M.1.cls ≠ "java/lang/invoke/MethodHandle" ∧ M.1.cls ≠ "java/lang/invoke/VarHandle" ∧ (parseMethodDescriptor M.1.desc).map (fun d => d.parameters.length) = some M.2.2.2.2.2.2.2.1) ∧ plainName M.1.cls = true ∧
  (M.2.2.2.2.2.2.2.2 = 0 → Cond.instanceMethod M.1 ∈ vx_TB ∧ Cond.selects M.1.cls M.1 M.1 ∈ vx_TB) ∧ (M.2.2.2.2.2.2.2.2 = 1 → Cond.static M.1 ∈ vx_TB) ∧ (M.2.2.2.2.2.2.2.2 = 2 → Cond.instanceMethod M.1 ∈ vx_TB ∧ M.1.name = "<init>" ∧ M.2.2.2.1 = none)
theorem vx_mf {M : vx_M} (h : M ∈ vx_mt) : vx_mfacts M := by
  obtain ⟨q, hq⟩ := vx_mok M h
  unfold vx_mb at hq
  simp only [Bool.and_eq_true, decide_eq_true_eq] at hq
  obtain ⟨⟨⟨⟨⟨⟨h1, h2⟩, h3⟩, h4⟩, h5⟩, h6⟩, h7⟩ := hq
  refine ⟨vx_at_mem h1, vx_at_mem h2, ⟨h3, h4, h5⟩, h6, fun e => ?_, fun e => ?_, fun e => ?_⟩
  · rw [e] at h7
    simp only [Bool.and_eq_true, decide_eq_true_eq] at h7
    exact ⟨vx_at_mem h7.1.1, vx_at_mem h7.1.2⟩
  · rw [e] at h7
    exact vx_at_mem h7
  · rw [e] at h7
    simp only [Bool.and_eq_true, decide_eq_true_eq] at h7
    exact ⟨vx_at_mem h7.1.1, h7.1.2, h7.2⟩
theorem vx_ml_use {owN ix n : Nat} {ow : String} (hcn : vx_cn[owN]? = some ow) (hf : ∃ pl, (owN, ix, n, pl) ∈ vx_ml) : ∃ M, vx_mt[n]? = some M ∧ Cond.methodLink ow ix M.1 ∈ vx_TB := by
  obtain ⟨pl, hm⟩ := hf
  have h1 := List.all_eq_true.mp vx_ml_ok _ hm
  unfold vx_mw at h1
  dsimp only at h1
  rw [hcn] at h1
  cases hc : vx_mt[n]? with
  | none => rw [hc] at h1; cases h1
  | some M => rw [hc] at h1; exact ⟨M, rfl, vx_at_mem h1⟩
theorem vx_mn_use {owN ix n : Nat} {ow : String} {s : State} (hN : vx_NW s) (hcn : vx_cn[owN]? = some ow) (hf : ∃ pl, (owN, ix, n, pl) ∈ vx_mn) : ∃ M, vx_mt[n]? = some M ∧ va_Nw (.methodLinkNest ow ix M.1 "VoteWalls") s := by
  obtain ⟨pl, hm⟩ := hf
  have h1 := List.all_eq_true.mp vx_mn_ok _ hm
  unfold vx_mw2 at h1
  dsimp only at h1
  rw [hcn] at h1
  cases hc : vx_mt[n]? with
  | none => rw [hc] at h1; cases h1
  | some M => exact ⟨M, rfl, hN.2.1 _ hm ow M hcn hc⟩
theorem vx_ms_use {owN ix n : Nat} {ow : String} (hcn : vx_cn[owN]? = some ow) (hf : ∃ pl, (owN, ix, n, pl) ∈ vx_ms) : ∃ y, vx_sn[n]? = some y ∧ Cond.methodLink ow ix y ∈ vx_TB := by
  obtain ⟨pl, hm⟩ := hf
  have h1 := List.all_eq_true.mp vx_ms_ok _ hm
  unfold vx_mw3 at h1
  dsimp only at h1
  rw [hcn] at h1
  cases hc : vx_sn[n]? with
  | none => rw [hc] at h1; cases h1
  | some y => rw [hc] at h1; exact ⟨y, rfl, vx_at_mem h1⟩
section VXC
variable {p : Program} {l : Launch} {e : Env} {R : Room} {s : State} {m : MethodId} {args : Array Value} {below : List Frame} {meth : Method} {c : Code} {Qs : State → Prop}
variable {base b : Nat} {cI cS : ClassId} {D : va_G} {sc : Option (Nat × (Nat → Int32))} {lim : vx_Z} {cc : ByteArray} {ow : String} {nL lev : Nat} {isI : Bool} {pc ln a b' : Nat} {v : Value} {ps : List (Int32 × Nat)} {J : Nat → vx_K} {Q : Option Value → vx_Z → vx_H → Prop} {k : vx_K}
variable {H : Heap} {locs : List Loc} {cells slots : Nat} {z : vx_Z} {h : vx_H}
theorem vx_s_ldc_w (F : vx_Fx p R s m args meth c base b cI cS D sc lim cc ow nL lev isI) {owN ix : Nat} {x : Int32} (hcn : vx_cn[owN]? = some ow) (hd : decode cc pc = .ok (.ldc_w ix, ln)) (hln : ln = 3) (hf : ∃ pl, (owN, ix, x, pl) ∈ vx_ki)
    (hk : vx_G p l e R s m args below meth c Qs base b cI cS D lim nL (pc + ln) k) : vx_G p l e R s m args below meth c Qs base b cI cS D lim nL pc (fun L S z h => vx_st sc lim (.ldc_w ix, ln, a, b', .int x, ps) L S z h J Q k) := by
  subst hln
  intro L S z h hst ls H locs cells slots hL hI
  obtain ⟨hx, hb, hml, hown, hts, -⟩ := F
  obtain ⟨pl, hm⟩ := hf
  have h1 := List.all_eq_true.mp vx_ki_ok _ hm
  unfold vx_iw at h1
  dsimp only at h1
  rw [hcn] at h1
  exact lv_ldcw hx hb hown (hts _ (vx_at_mem h1)) hd (hk _ _ _ _ hst ls H locs cells slots hL hI)
theorem vx_s_ldc2_w (F : vx_Fx p R s m args meth c base b cI cS D sc lim cc ow nL lev isI) {owN ix : Nat} {x : Int64} (hcn : vx_cn[owN]? = some ow) (hd : decode cc pc = .ok (.ldc2_w ix, ln)) (hln : ln = 3) (hf : ∃ pl, (owN, ix, x, pl) ∈ vx_kl)
    (hk : vx_G p l e R s m args below meth c Qs base b cI cS D lim nL (pc + ln) k) : vx_G p l e R s m args below meth c Qs base b cI cS D lim nL pc (fun L S z h => vx_st sc lim (.ldc2_w ix, ln, a, b', .long x, ps) L S z h J Q k) := by
  subst hln
  intro L S z h hst ls H locs cells slots hL hI
  obtain ⟨hx, hb, hml, hown, hts, -⟩ := F
  obtain ⟨pl, hm⟩ := hf
  have h1 := List.all_eq_true.mp vx_kl_ok _ hm
  unfold vx_lw at h1
  dsimp only at h1
  rw [hcn] at h1
  exact lv_ldc2 hx hb hown (hts _ (vx_at_mem h1)) hd (hk _ _ _ _ hst ls H locs cells slots hL hI)
/-- a table of a switch, held against the instruction's -/
def vx_tck (pc : Nat) (lo : Int) (offs : Array Int) : Nat → List (Int32 × Nat) → Bool
  | _, [] => true
  | j, (x, t) :: r => decide (x.toInt = lo + j) && decide (offs[j]? = some ((t : Int) - (pc : Int))) && vx_tck pc lo offs (j + 1) r
theorem vx_tck_sel {pc : Nat} {lo : Int} {offs : Array Int} {d : Nat} {x : Int32} : ∀ (ps : List (Int32 × Nat)) (j : Nat), vx_tck pc lo offs j ps = true →
    (∃ i, j ≤ i ∧ i < j + ps.length ∧ x.toInt = lo + i ∧ offs[i]? = some ((vx_sel ps d x : Int) - (pc : Int))) ∨ ((∀ i, j ≤ i → i < j + ps.length → x.toInt ≠ lo + (i : Int)) ∧ vx_sel ps d x = d)
  | [], j, _ => Or.inr ⟨fun i h1 h2 => by simp at h2; omega, rfl⟩
  | (y, t) :: r, j, h => by
    simp only [vx_tck, Bool.and_eq_true, decide_eq_true_eq] at h
    obtain ⟨⟨h1, h2⟩, h3⟩ := h
    by_cases hxy : x = y
    · subst hxy
      refine Or.inl ⟨j, Nat.le_refl _, by simp, h1, ?_⟩
      rw [show vx_sel ((x, t) :: r) d x = t from if_pos rfl]
      exact h2
    · have e1 : vx_sel ((y, t) :: r) d x = vx_sel r d x := if_neg hxy
      rw [e1]
      rcases vx_tck_sel (d := d) (x := x) r (j + 1) h3 with ⟨i, g1, g2, g3, g4⟩ | ⟨g1, g2⟩
      · exact Or.inl ⟨i, by omega, by simp; omega, g3, g4⟩
      · refine Or.inr ⟨fun i h4 h5 => ?_, g2⟩
        by_cases hi : i = j
        · subst hi
          intro q
          exact hxy (Int32.toInt_inj.mp (q.trans h1.symm))
        · exact g1 i (by omega) (by simp at h5; omega)
theorem vx_s_tableswitch (F : vx_Fx p R s m args meth c base b cI cS D sc lim cc ow nL lev isI) {dflt lo hi : Int} {offs : Array Int} (hd : decode cc pc = .ok (.tableswitch dflt lo hi offs, ln)) (ht : vx_tck pc lo offs 0 ps = true) (hhi : hi = lo + (ps.length : Int) - 1) (hdf : (pc : Int) + dflt = (a : Int))
    (hJ : ∀ t, vx_G p l e R s m args below meth c Qs base b cI cS D lim nL t (J t)) : vx_G p l e R s m args below meth c Qs base b cI cS D lim nL pc (fun L S z h => vx_st sc lim (.tableswitch dflt lo hi offs, ln, a, b', v, ps) L S z h J Q k) := by
  intro L S z h hst ls H locs cells slots hL hI
  obtain ⟨hx, hb, -⟩ := F
  rcases S with _ | ⟨v1, S⟩
  · exact False.elim hst
  · cases v1 with
    | int x =>
      have hst : J (vx_sel ps a x) L S z h := hst
      rcases vx_tck_sel (d := a) (x := x) ps 0 ht with ⟨i, g1, g2, g3, g4⟩ | ⟨g1, g2⟩
      · refine lv_tableIn hx hb hd (by omega) (by omega) (off := (vx_sel ps a x : Int) - (pc : Int)) ?_ (tgt := vx_sel ps a x) (by omega) (hJ _ _ _ _ _ hst ls H locs cells slots hL hI)
        rw [show (x.toInt - lo).toNat = i by omega]
        exact g4
      · rw [g2] at hst
        refine lv_tableOut hx hb hd ?_ hdf (hJ _ _ _ _ _ hst ls H locs cells slots hL hI)
        by_cases h1 : x.toInt < lo
        · exact Or.inl h1
        · by_cases h2 : hi < x.toInt
          · exact Or.inr h2
          · exfalso
            exact g1 (x.toInt - lo).toNat (Nat.zero_le _) (by omega) (by omega)
    | _ => exact False.elim hst
def vx_lck (pc : Nat) : List (Int × Int) → List (Int32 × Nat) → Bool
  | [], [] => true
  | (y, o) :: r, (x, t) :: r' => decide (x.toInt = y) && decide (o = (t : Int) - (pc : Int)) && vx_lck pc r r'
  | _, _ => false
theorem vx_lck_sel {pc d : Nat} {dflt : Int} {x : Int32} (hd : (pc : Int) + dflt = (d : Int)) : ∀ (qs : List (Int × Int)) (ps : List (Int32 × Nat)), vx_lck pc qs ps = true → Op.lookupswitch.offset qs dflt x.toInt = (vx_sel ps d x : Int) - (pc : Int)
  | [], [], _ => by
    show Op.lookupswitch.offset [] dflt x.toInt = (d : Int) - pc
    have : Op.lookupswitch.offset [] dflt x.toInt = dflt := rfl
    rw [this]; omega
  | [], _ :: _, h => by simp [vx_lck] at h
  | _ :: _, [], h => by simp [vx_lck] at h
  | (y, o) :: r, (u, t) :: r', h => by
    simp only [vx_lck, Bool.and_eq_true, decide_eq_true_eq] at h
    obtain ⟨⟨h1, h2⟩, h3⟩ := h
    by_cases hxu : x = u
    · subst hxu
      rw [Op.lookupswitch.offset_cons, if_pos h1.symm, show vx_sel ((x, t) :: r') d x = t from if_pos rfl]
      exact h2
    · rw [lv_osw hxu h1, show vx_sel ((u, t) :: r') d x = vx_sel r' d x from if_neg hxu]
      exact vx_lck_sel hd r r' h3
theorem vx_s_lookupswitch (F : vx_Fx p R s m args meth c base b cI cS D sc lim cc ow nL lev isI) {dflt : Int} {qs : Array (Int × Int)} (hd : decode cc pc = .ok (.lookupswitch dflt qs, ln)) (hp : (qs.toList.zip (qs.toList.drop 1)).all (fun (a, next) => a.1 < next.1) = true) (ht : vx_lck pc qs.toList ps = true) (hdf : (pc : Int) + dflt = (a : Int))
    (hJ : ∀ t, vx_G p l e R s m args below meth c Qs base b cI cS D lim nL t (J t)) : vx_G p l e R s m args below meth c Qs base b cI cS D lim nL pc (fun L S z h => vx_st sc lim (.lookupswitch dflt qs, ln, a, b', v, ps) L S z h J Q k) := by
  intro L S z h hst ls H locs cells slots hL hI
  obtain ⟨hx, hb, -⟩ := F
  rcases S with _ | ⟨v1, S⟩
  · exact False.elim hst
  · cases v1 with
    | int x =>
      have hst : J (vx_sel ps a x) L S z h := hst
      exact lv_lookup hx hb hd hp (vx_lck_sel hdf qs.toList ps ht) (tgt := vx_sel ps a x) (by omega) (hJ _ _ _ _ _ hst ls H locs cells slots hL hI)
    | _ => exact False.elim hst
/-- what a call that has ended says -/
theorem vx_call {mc ms : Nat} {P : Option Value → vx_H → Prop} {a0 : Array Value} {rest st0 : List Value} {ls : Array Slot} (hr : va_Run p l e R s m args below meth c H locs cells slots mc ms (F0 m pc ls st0) rest (vx_Qc base b cI cS D (z.1 + mc) P a0) (fun q => base ≤ q)) (hI : vx_In s base b cI cS D lim H locs cells slots z h) (hl1 : z.1 + mc ≤ lim.1) (hl2 : z.2 + ms ≤ lim.2)
    (kk : ∀ r h', P r h' → ∀ H1 locs1, vx_In s base b cI cS D lim H1 locs1 (cells + mc) (slots + ms) (z.1 + mc, z.2 + ms) h' → W p l e R s m args below meth c H1 locs1 (cells + mc) (slots + ms) Qs (F0 m (pc + 3) ls ((r.map (vx_v base b)).toList ++ rest))) :
    W p l e R s m args below meth c H locs cells slots Qs (F0 m pc ls st0) := by
  intro T hT X
  obtain ⟨v, st₀, t, T', L, h0, X', hL, e1, e2, ⟨⟨r, h', hp, hv, hs, hP⟩, hz, hk⟩, st⟩ := hr T hT X
  cases hv
  rw [h0] at hz hk
  have i1 := hI.1
  have i2 := hI.2.1
  have hS := hI.2.2.2.2
  obtain ⟨t2, a1, b1⟩ := kk r h' hp T'.heap (locs ++ L) ⟨by dsimp only; omega, ⟨by dsimp only; omega, hl1, hl2⟩, hs, by rw [e1]; exact hP, Nat.le_trans hS.1 (by rw [e1]; exact hz),
    fun q h1 h2 => by rw [e1, hk q (Nat.lt_of_lt_of_le h1 hS.1) h2]; exact hS.2.1 q h1 h2, fun q hq => by
      rcases List.mem_append.mp hq with h | h
      · exact hS.2.2 q h
      · exact hL q h⟩ T' rfl X'
  exact ⟨t2, st t2 a1, b1⟩
theorem vx_In.size (hI : vx_In s base b cI cS D lim H locs cells slots z h) (hbs : base ≤ s.heap.size) (hz : H.size ≤ s.heap.size + cells) : H.size = base + z.1 := by
  have i1 := hI.1
  have hS := hI.2.2.2.2.1
  by_cases h0 : z.1 = 0
  · omega
  · have hx : (vx_w base b cI cS z.1 h)[z.1 - 1]? = some (base + (z.1 - 1), vx_e base b cI cS ((h (z.1 - 1)).getD (.inl (0, fun _ => 0)))) := by
      simp [vx_w, show z.1 - 1 < z.1 by omega]
    have := (hI.2.2.2.1 _ _ hx).lt
    dsimp only at this
    omega
theorem vx_pre {As : List Value} {U : State} (hI : vx_In s base b cI cS D lim H locs cells slots z h) (hsz : H.size = base + z.1) (hK : va_K D vx_cl (vx_tys cI cS) s) (hN : vx_NW s) (hU : U.heap = H) (hW : s.WarmedH U.vm) : vx_Pc base b cI cS D As z.1 h (As.map (vx_v base b)).toArray U :=
  ⟨rfl, by rw [hU]; exact hsz, hI.2.2.1, by rw [hU]; exact hI.2.2.2.1, va_K.moved hW.alike hK, hN.warm hW⟩
theorem vx_cat_le (S : List Value) : (S.map fun v => v.category).sum ≤ 2 * S.length := by
  induction S with
  | nil => simp
  | cons v S ih =>
    have : v.category ≤ 2 := by cases v <;> simp [Value.category]
    simp only [List.map_cons, List.sum_cons, List.length_cons]
    omega
theorem vx_room {S : List Value} {ls : Array Slot} {st : List Value} (h : S.length ≤ 4) : 2 * (F0 m pc ls st).monitorRoom + (((S.map (vx_v base b)).map fun v => v.category).sum) ≤ 8 := by
  refine lv_room ?_
  have := vx_cat_le (S.map (vx_v base b))
  simp only [List.length_map] at this
  omega
theorem vx_stack {S As : List Value} {n : Nat} {x : Nat} (h : (S.take (n + 1)).reverse = .ref x :: As) : S.map (vx_v base b) = (As.map (vx_v base b)).reverse ++ .ref (base + x) :: (S.drop (n + 1)).map (vx_v base b) := by
  have h1 : S.take (n + 1) = As.reverse ++ [.ref x] := by rw [← List.reverse_reverse (S.take (n + 1)), h, List.reverse_cons]
  conv => lhs; rw [← List.take_append_drop (n + 1) S]
  rw [h1]
  simp [vx_v]
theorem vx_toL {r : Option Value} {S : List Value} : (r.map (vx_v base b)).toList ++ S.map (vx_v base b) = (r.toList ++ S).map (vx_v base b) := by cases r <;> simp
theorem vx_s_invokevirtual (F : vx_Fx p R s m args meth c base b cI cS D sc lim cc ow nL lev isI) {owN ix : Nat} (hcn : vx_cn[owN]? = some ow) (hd : decode cc pc = .ok (.invokevirtual ix, ln)) (hln : ln = 3) (hf : ∃ pl, (owN, ix, a, pl) ∈ vx_ml)
    (hM : ∀ M, vx_mt[a]? = some M → M.2.2.2.2.2.2.2.2 = 0 ∧ M.2.2.2.2.2.2.2.1 = b' ∧ M.2.2.2.2.2.1 = 0 ∧ M.2.2.2.2.2.2.1 = 0 ∧ M.2.2.2.2.1 + 1 ≤ lev ∧ 8 + (M.2.2.1 + 11) + 40 * M.2.2.2.2.1 ≤ 40 * lev ∧ (vx_cl[ps.length]?).map (·.1) = some M.1.cls)
    (hk : vx_G p l e R s m args below meth c Qs base b cI cS D lim nL (pc + ln) k) : vx_G p l e R s m args below meth c Qs base b cI cS D lim nL pc (fun L S z h => vx_st sc lim (.invokevirtual ix, ln, a, b', v, ps) L S z h J Q k) := by
  subst hln
  intro L S z h hst ls H locs cells slots hL hI
  obtain ⟨hx, hb, hml, hown, hts, hK, hN, hbs, hfr, hlo, hlc, hls, -, hsc⟩ := F
  replace hst : (match (S.take (b' + 1)).reverse with | .ref x :: As => As.length = b' ∧ (S.drop (b' + 1)).length ≤ 4 ∧ vx_isob (h x) ps.length ∧ ∃ P, vx_Ok a (.ref x :: As) z.1 h P ∧ ∀ r h', P r h' → k L (r.toList ++ S.drop (b' + 1)) z h' | _ => False) := hst
  split at hst
  · rename_i x As hT
    obtain ⟨hlen, h4, hob, P, hOk, hcont⟩ := hst
    obtain ⟨M, hMt, hlk⟩ := vx_ml_use hcn hf
    obtain ⟨m1, m2, m3, m4, m5, m6, m7⟩ := hM M hMt
    obtain ⟨f1, f2, f3, f4, f5, -, -⟩ := vx_mf (List.mem_of_getElem? hMt)
    obtain ⟨f5a, f5b⟩ := f5 m1
    cases hhx : h x with
    | none => rw [hhx] at hob; exact False.elim hob
    | some q =>
      rw [hhx] at hob
      rcases q with ⟨n, f⟩ | ⟨n, f⟩ | ⟨c', fs⟩
      · exact False.elim hob
      · exact False.elim hob
      · have hob : c' = ps.length := hob
        subst hob
        cases hcl : vx_cl[ps.length]? with
        | none => rw [hcl] at m7; cases m7
        | some q =>
          rw [hcl] at m7
          have hcls : q.1 = M.1.cls := Option.some.inj m7
          refine vx_sz (fun hz => ?_)
          have hsz := hI.size hbs hz
          have hrec := va_recv hK hI.2.2.2.1 hcl (hI.at hhx)
          rw [hcls] at hrec
          have i1 := hI.1
          have i2 := hI.2.1
          have hMet := hOk M hMt l base b cI cS D
          have hrun := va_runV (p := p) (e := e) (below := below) (meth := meth) (H := H) (locs := locs) (cells := cells) (slots := slots) (As := As.map (vx_v base b)) (rest := (S.drop (b' + 1)).map (vx_v base b)) (g := F0 m pc ls (S.map (vx_v base b))) (R := R) (Ts := vx_TB) ⟨hx, hb, hml, hown, hts⟩ hMet
            ⟨callB_of b' hts (vx_GI f1) rfl rfl rfl (hts _ f2) (hts _ hlk) ⟨f3.1, f3.2.1, by rw [f3.2.2, m2]⟩ ⟨by show M.2.2.2.2.1 + 1 ≤ R.frames; omega, by show 8 + (M.2.2.1 + 11) + 40 * M.2.2.2.2.1 ≤ R.locals; omega⟩, hts _ f5a, hts _ f5b⟩
            ⟨vx_Pc.blind _ _ _ _ _ _ _ _, hrec, fun U hU hW => vx_pre (As := .ref x :: As) hI hsz hK hN hU hW⟩ rfl (by rw [List.length_map]; exact hlen) hL.2.1 (vx_stack hT) (vx_room h4) hd ⟨by omega, by omega⟩
          rw [m3, m4] at hrun
          refine vx_call hrun hI (by omega) (by omega) (fun r h' hp H1 locs1 hI1 => ?_)
          rw [vx_toL]
          exact hk _ _ _ _ (hcont r h' hp) ls H1 locs1 _ _ hL hI1
  · exact False.elim hst
end VXC
