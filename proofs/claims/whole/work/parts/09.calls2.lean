/-! the step is sound: static calls, constructors, the library's own -/
section VXD
variable {p : Program} {l : Launch} {e : Env} {R : Room} {s : State} {m : MethodId} {args : Array Value} {below : List Frame} {meth : Method} {c : Code} {Qs : State → Prop}
variable {base b : Nat} {cI cS : ClassId} {D : va_G} {sc : Option (Nat × (Nat → Int32))} {lim : vx_Z} {cc : ByteArray} {ow : String} {nL lev : Nat} {isI : Bool} {pc ln a b' : Nat} {v : Value} {ps : List (Int32 × Nat)} {J : Nat → vx_K} {Q : Option Value → vx_Z → vx_H → Prop} {k : vx_K}
variable {H : Heap} {locs : List Loc} {cells slots : Nat} {z : vx_Z} {h : vx_H}
theorem vx_stackS {S : List Value} {n : Nat} : S.map (vx_v base b) = ((S.take n).reverse.map (vx_v base b)).reverse ++ (S.drop n).map (vx_v base b) := by
  conv => lhs; rw [← List.take_append_drop n S]
  simp
theorem vx_s_invokestatic (F : vx_Fx p R s m args meth c base b cI cS D sc lim cc ow nL lev isI) {owN ix : Nat} (hcn : vx_cn[owN]? = some ow) (hd : decode cc pc = .ok (.invokestatic ix, ln)) (hln : ln = 3) (hf : (∃ pl, (owN, ix, a, pl) ∈ vx_ml) ∨ (∃ pl, (owN, ix, a, pl) ∈ vx_mn))
    (hM : ∀ M, vx_mt[a]? = some M → M.2.2.2.2.2.2.2.2 = 1 ∧ M.2.2.2.2.2.2.2.1 = b' ∧ M.2.2.2.2.2.1 = 0 ∧ M.2.2.2.2.2.2.1 = 0 ∧ M.2.2.2.2.1 + 1 ≤ lev ∧ 8 + (M.2.2.1 + 11) + 40 * M.2.2.2.2.1 ≤ 40 * lev)
    (hk : vx_G p l e R s m args below meth c Qs base b cI cS D lim nL (pc + ln) k) : vx_G p l e R s m args below meth c Qs base b cI cS D lim nL pc (fun L S z h => vx_st sc lim (.invokestatic ix, ln, a, b', .null, ps) L S z h J Q k) := by
  subst hln
  intro L S z h hst ls H locs cells slots hL hI
  obtain ⟨hx, hb, hml, hown, hts, hK, hN, hbs, hfr, hlo, hlc, hls, -, hsc⟩ := F
  obtain ⟨hlen, h4, P, hOk, hcont⟩ := (hst : (S.take b').length = b' ∧ (S.drop b').length ≤ 4 ∧ ∃ P, vx_Ok a (S.take b').reverse z.1 h P ∧ ∀ r h', P r h' → k L (r.toList ++ S.drop b') z h')
  refine vx_sz (fun hz => ?_)
  have hsz := hI.size hbs hz
  have i1 := hI.1
  have i2 := hI.2.1
  rcases hf with hf | hf
  · obtain ⟨M, hMt, hlk⟩ := vx_ml_use hcn hf
    obtain ⟨m1, m2, m3, m4, m5, m6⟩ := hM M hMt
    obtain ⟨f1, f2, f3, f4, -, f5, -⟩ := vx_mf (List.mem_of_getElem? hMt)
    have hMet := hOk M hMt l base b cI cS D
    have hrun := va_runS (p := p) (e := e) (below := below) (meth := meth) (H := H) (locs := locs) (cells := cells) (slots := slots) (As := (S.take b').reverse.map (vx_v base b)) (rest := (S.drop b').map (vx_v base b)) (g := F0 m pc ls (S.map (vx_v base b))) (R := R) (Ts := vx_TB) ⟨hx, hb, hml, hown, hts⟩ hMet
      ⟨callB_of b' hts (vx_GI f1) rfl rfl rfl (hts _ f2) (hts _ hlk) ⟨f3.1, f3.2.1, by rw [f3.2.2, m2]⟩ ⟨by show M.2.2.2.2.1 + 1 ≤ R.frames; omega, by show 8 + (M.2.2.1 + 11) + 40 * M.2.2.2.2.1 ≤ R.locals; omega⟩, hts _ (f5 m1)⟩
      ⟨vx_Pc.blind _ _ _ _ _ _ _ _, fun U hU hW => vx_pre hI hsz hK hN hU hW⟩ rfl (by rw [List.length_map, List.length_reverse]; exact hlen) hL.2.1 vx_stackS (vx_room h4) hd ⟨by omega, by omega⟩
    rw [m3, m4] at hrun
    refine vx_call hrun hI (by omega) (by omega) (fun r h' hp H1 locs1 hI1 => ?_)
    rw [vx_toL]
    exact hk _ _ _ _ (hcont r h' hp) ls H1 locs1 _ _ hL hI1
  · obtain ⟨M, hMt, hlk⟩ := vx_mn_use hN hcn hf
    obtain ⟨m1, m2, m3, m4, m5, m6⟩ := hM M hMt
    obtain ⟨f1, f2, f3, f4, -, f5, -⟩ := vx_mf (List.mem_of_getElem? hMt)
    have hMet := hOk M hMt l base b cI cS D
    have hrun := va_runSN (p := p) (e := e) (below := below) (meth := meth) (H := H) (locs := locs) (cells := cells) (slots := slots) (As := (S.take b').reverse.map (vx_v base b)) (rest := (S.drop b').map (vx_v base b)) (g := F0 m pc ls (S.map (vx_v base b))) (R := R) (Ts := vx_TB) ⟨hx, hb, hml, hown, hts⟩ hMet
      ⟨va_cnB b' hts (vx_GI f1) rfl rfl rfl hlk (hts _ f2) ⟨f3.1, f3.2.1, by rw [f3.2.2, m2]⟩ ⟨by show M.2.2.2.2.1 + 1 ≤ R.frames; omega, by show 8 + (M.2.2.1 + 11) + 40 * M.2.2.2.2.1 ≤ R.locals; omega⟩, hts _ (f5 m1), trivial⟩
      ⟨vx_Pc.blind _ _ _ _ _ _ _ _, fun U hU hW => vx_pre hI hsz hK hN hU hW⟩ rfl (by rw [List.length_map, List.length_reverse]; exact hlen) hL.2.1 vx_stackS (vx_room h4) hd ⟨by omega, by omega⟩
    rw [m3, m4] at hrun
    refine vx_call hrun hI (by omega) (by omega) (fun r h' hp H1 locs1 hI1 => ?_)
    rw [vx_toL]
    exact hk _ _ _ _ (hcont r h' hp) ls H1 locs1 _ _ hL hI1
theorem vx_s_invokespecial (F : vx_Fx p R s m args meth c base b cI cS D sc lim cc ow nL lev isI) {owN ix : Nat} (hcn : vx_cn[owN]? = some ow) (hd : decode cc pc = .ok (.invokespecial ix, ln)) (hln : ln = 3) (hf : (∃ pl, (owN, ix, a, pl) ∈ vx_ml) ∨ (∃ pl, (owN, ix, a, pl) ∈ vx_mn))
    (hM : ∀ M, vx_mt[a]? = some M → M.2.2.2.2.2.2.2.2 = 2 ∧ M.2.2.2.2.2.2.2.1 = b' ∧ M.2.2.2.2.2.1 = (ps.map (·.2)).headD 0 ∧ M.2.2.2.2.2.2.1 = (ps.map (·.2)).getLastD 0 ∧ M.2.2.2.2.1 + 1 ≤ lev ∧ 8 + (M.2.2.1 + 11) + 40 * M.2.2.2.2.1 ≤ 40 * lev)
    (hk : vx_G p l e R s m args below meth c Qs base b cI cS D lim nL (pc + ln) k) : vx_G p l e R s m args below meth c Qs base b cI cS D lim nL pc (fun L S z h => vx_st sc lim (.invokespecial ix, ln, a, b', .null, ps) L S z h J Q k) := by
  subst hln
  intro L S z h hst ls H locs cells slots hL hI
  obtain ⟨hx, hb, hml, hown, hts, hK, hN, hbs, hfr, hlo, hlc, hls, -, hsc⟩ := F
  generalize hmc : (ps.map (·.2)).headD 0 = mc at hM
  generalize hms : (ps.map (·.2)).getLastD 0 = ms at hM
  replace hst : (match (S.take (b' + 1)).reverse with | .ref x :: As => As.length = b' ∧ (S.drop (b' + 1)).length ≤ 4 ∧ z.1 + mc ≤ lim.1 ∧ z.2 + ms ≤ lim.2 ∧ ∃ P, vx_Ok a (.ref x :: As) z.1 h P ∧ ∀ r h', P r h' → k L (r.toList ++ S.drop (b' + 1)) (z.1 + mc, z.2 + ms) h' | _ => False) := by
    rw [← hmc, ← hms]
    exact hst
  split at hst
  · rename_i x As hT
    obtain ⟨hlen, h4, hz1, hz2, P, hOk, hcont⟩ := hst
    refine vx_sz (fun hz => ?_)
    have hsz := hI.size hbs hz
    have i1 := hI.1
    have i2 := hI.2.1
    rcases hf with hf | hf
    · obtain ⟨M, hMt, hlk⟩ := vx_ml_use hcn hf
      obtain ⟨m1, m2, m3, m4, m5, m6⟩ := hM M hMt
      obtain ⟨f1, f2, f3, f4, -, -, f5⟩ := vx_mf (List.mem_of_getElem? hMt)
      obtain ⟨f5a, f5b, f5c⟩ := f5 m1
      have hMet := hOk M hMt l base b cI cS D
      have hrun := va_runI (p := p) (e := e) (below := below) (meth := meth) (H := H) (locs := locs) (cells := cells) (slots := slots) (As := As.map (vx_v base b)) (rest := (S.drop (b' + 1)).map (vx_v base b)) (g := F0 m pc ls (S.map (vx_v base b))) (R := R) (Ts := vx_TB) (maxL := M.2.2.1) (bytes := M.2.1) ⟨hx, hb, hml, hown, hts⟩ hMet
        ⟨callB_of b' hts (vx_GI f1) (by rw [f5c]) rfl rfl (hts _ f2) (hts _ hlk) ⟨f3.1, f3.2.1, by rw [f3.2.2, m2]⟩ ⟨by show M.2.2.2.2.1 + 1 ≤ R.frames; omega, by show 8 + (M.2.2.1 + 11) + 40 * M.2.2.2.2.1 ≤ R.locals; omega⟩, f5b, hts _ f5a⟩
        ⟨vx_Pc.blind _ _ _ _ _ _ _ _, fun U hU hW => vx_pre (As := .ref x :: As) hI hsz hK hN hU hW⟩ rfl (by rw [List.length_map]; exact hlen) hL.2.1 (vx_stack hT) (vx_room h4) hd ⟨by omega, by omega⟩
      rw [m3, m4] at hrun
      refine vx_call hrun hI (by omega) (by omega) (fun r h' hp H1 locs1 hI1 => ?_)
      rw [vx_toL]
      exact hk _ _ _ _ (hcont r h' hp) ls H1 locs1 _ _ hL hI1
    · obtain ⟨M, hMt, hlk⟩ := vx_mn_use hN hcn hf
      obtain ⟨m1, m2, m3, m4, m5, m6⟩ := hM M hMt
      obtain ⟨f1, f2, f3, f4, -, -, f5⟩ := vx_mf (List.mem_of_getElem? hMt)
      obtain ⟨f5a, f5b, f5c⟩ := f5 m1
      have hMet := hOk M hMt l base b cI cS D
      have hrun := va_runIN (p := p) (e := e) (below := below) (meth := meth) (H := H) (locs := locs) (cells := cells) (slots := slots) (As := As.map (vx_v base b)) (rest := (S.drop (b' + 1)).map (vx_v base b)) (g := F0 m pc ls (S.map (vx_v base b))) (R := R) (Ts := vx_TB) (maxL := M.2.2.1) (bytes := M.2.1) ⟨hx, hb, hml, hown, hts⟩ hMet
        ⟨va_cnB b' hts (vx_GI f1) (by rw [f5c]) rfl rfl hlk (hts _ f2) ⟨f3.1, f3.2.1, by rw [f3.2.2, m2]⟩ ⟨by show M.2.2.2.2.1 + 1 ≤ R.frames; omega, by show 8 + (M.2.2.1 + 11) + 40 * M.2.2.2.2.1 ≤ R.locals; omega⟩, f5b, hts _ f5a⟩
        ⟨vx_Pc.blind _ _ _ _ _ _ _ _, fun U hU hW => vx_pre (As := .ref x :: As) hI hsz hK hN hU hW⟩ rfl (by rw [List.length_map]; exact hlen) hL.2.1 (vx_stack hT) (vx_room h4) hd ⟨by omega, by omega⟩
      rw [m3, m4] at hrun
      refine vx_call hrun hI (by omega) (by omega) (fun r h' hp H1 locs1 hI1 => ?_)
      rw [vx_toL]
      exact hk _ _ _ _ (hcont r h' hp) ls H1 locs1 _ _ hL hI1
  · exact False.elim hst
theorem vx_s_objInit (F : vx_Fx p R s m args meth c base b cI cS D sc lim cc ow nL lev isI) {owN ix : Nat} {u : Int32} (hcn : vx_cn[owN]? = some ow) (hd : decode cc pc = .ok (.invokespecial ix, ln)) (hln : ln = 3) (hf : ∃ pl, (owN, ix, 0, pl) ∈ vx_ms) (hlev : 1 ≤ lev)
    (hk : vx_G p l e R s m args below meth c Qs base b cI cS D lim nL (pc + ln) k) : vx_G p l e R s m args below meth c Qs base b cI cS D lim nL pc (fun L S z h => vx_st sc lim (.invokespecial ix, ln, a, b', .int u, ps) L S z h J Q k) := by
  subst hln
  intro L S z h hst ls H locs cells slots hL hI
  obtain ⟨hx, hb, hml, hown, hts, hK, hN, hbs, hfr, hlo, hlc, hls, -, hsc⟩ := F
  rcases S with _ | ⟨v1, S⟩
  · exact False.elim hst
  · cases v1 with
    | ref x =>
      obtain ⟨h4, hst⟩ := (hst : S.length ≤ 4 ∧ k L S z h)
      obtain ⟨y, hy, hlk⟩ := vx_ms_use hcn hf
      cases hy
      have := vx_cat_le (S.map (vx_v base b))
      simp only [List.length_map] at this
      refine W.objInit hx hb hown (hts _ hlk) (hts _ vx_oi.1) (hts _ vx_oi.2) rfl (by rw [hml]; exact hL.2.1) rfl hd (by omega) (by show 2 * 0 + _ + 12 ≤ _; omega) ?_
      exact hk _ _ _ _ hst ls H locs cells slots hL hI
    | _ => exact False.elim hst
theorem vx_s_arraycopy (F : vx_Fx p R s m args meth c base b cI cS D sc lim cc ow nL lev isI) {owN ix : Nat} {u : Int32} (hcn : vx_cn[owN]? = some ow) (hd : decode cc pc = .ok (.invokestatic ix, ln)) (hln : ln = 3) (hf : ∃ pl, (owN, ix, 1, pl) ∈ vx_ms) (hlev : 1 ≤ lev)
    (hk : vx_G p l e R s m args below meth c Qs base b cI cS D lim nL (pc + ln) k) : vx_G p l e R s m args below meth c Qs base b cI cS D lim nL pc (fun L S z h => vx_st sc lim (.invokestatic ix, ln, a, b', .int u, ps) L S z h J Q k) := by
  subst hln
  intro L S z h hst ls H locs cells slots hL hI
  obtain ⟨hx, hb, hml, hown, hts, hK, hN, hbs, hfr, hlo, hlc, hls, -, hsc⟩ := F
  replace hst : (match (generalizing := false) S with | .int n :: .int dp :: .ref y :: .int sp :: .ref x :: S => (match h x, h y with | some (.inl (n0, f)), some (.inl (n1, g)) => S.length ≤ 4 ∧ ¬ sp < 0 ∧ ¬ dp < 0 ∧ ¬ n < 0 ∧ sp.toNatClampNeg + n.toNatClampNeg ≤ n0 ∧ dp.toNatClampNeg + n.toNatClampNeg ≤ n1 ∧ k L S z (vx_up h y (.inl (n1, va_cpy f g sp.toNatClampNeg dp.toNatClampNeg n.toNatClampNeg))) | _, _ => False) | _ => False) := hst
  split at hst
  · rename_i n dp y sp x S
    split at hst
    · rename_i n0 f n1 g hhx hhy
      obtain ⟨h4, g1, g2, g3, g4, g5, hst⟩ := hst
      obtain ⟨yy, hy, hlk⟩ := vx_ms_use hcn hf
      cases hy
      have := vx_cat_le (S.map (vx_v base b))
      simp only [List.length_map] at this
      have hw : nativeFrameWords "java/lang/System" "arraycopy" 5 = 7 := by decide
      exact va_copyi hx hb (by rw [hml]; exact hL.2.1.symm) hown (hts _ hlk) (hts _ vx_ac.1) (hts _ vx_ac.2.1) (hts _ vx_ac.2.2) hK hI.2.2.2.1 (vx_w_D base b cI cS z.1 h) hI.2.2.2.2 x y 0 0 (hI.at hhx) (hI.at hhy) rfl rfl rfl g1 g2 g3 g4 g5 (fun _ _ => rfl) (by omega) (by rw [hw]; omega) hd
        (fun H1 locs1 hP _ hS => hk _ _ _ _ hst ls H1 locs1 cells slots hL (hI.put (hI.lt hhy) rfl hP hS))
    · exact False.elim hst
  · exact False.elim hst
theorem vx_s_min (F : vx_Fx p R s m args meth c base b cI cS D sc lim cc ow nL lev isI) {owN ix : Nat} {u : Int64} (hcn : vx_cn[owN]? = some ow) (hd : decode cc pc = .ok (.invokestatic ix, ln)) (hln : ln = 3) (hf : ∃ pl, (owN, ix, 2, pl) ∈ vx_ms) (hlev : 1 ≤ lev)
    (hk : vx_G p l e R s m args below meth c Qs base b cI cS D lim nL (pc + ln) k) : vx_G p l e R s m args below meth c Qs base b cI cS D lim nL pc (fun L S z h => vx_st sc lim (.invokestatic ix, ln, a, b', .long u, ps) L S z h J Q k) := by
  subst hln
  intro L S z h hst ls H locs cells slots hL hI
  obtain ⟨hx, hb, hml, hown, hts, hK, hN, hbs, hfr, hlo, hlc, hls, -, hsc⟩ := F
  replace hst : (match (generalizing := false) S with | .int y :: .int x :: S => S.length ≤ 4 ∧ k L (.int (if y < x then y else x) :: S) z h | _ => False) := hst
  split at hst
  · rename_i y x S
    obtain ⟨h4, hst⟩ := hst
    obtain ⟨yy, hy, hlk⟩ := vx_ms_use hcn hf
    cases hy
    have := vx_cat_le (S.map (vx_v base b))
    simp only [List.length_map] at this
    have i1 := hI.1
    have i2 := hI.2.1
    exact va_mmin hx hb (by rw [hml]; exact hL.2.1.symm) hown (hts _ hlk) (hts _ vx_min.1) (hts _ vx_min.2.1) (hts _ vx_min.2.2) (by omega) (by omega) (by omega) (by omega) hd (hk _ _ _ _ hst ls H locs cells slots hL hI)
  · exact False.elim hst
theorem vx_s_max (F : vx_Fx p R s m args meth c base b cI cS D sc lim cc ow nL lev isI) {owN ix : Nat} {u : UInt32} (hcn : vx_cn[owN]? = some ow) (hd : decode cc pc = .ok (.invokestatic ix, ln)) (hln : ln = 3) (hf : ∃ pl, (owN, ix, 3, pl) ∈ vx_ms) (hlev : 1 ≤ lev)
    (hk : vx_G p l e R s m args below meth c Qs base b cI cS D lim nL (pc + ln) k) : vx_G p l e R s m args below meth c Qs base b cI cS D lim nL pc (fun L S z h => vx_st sc lim (.invokestatic ix, ln, a, b', .float u, ps) L S z h J Q k) := by
  subst hln
  intro L S z h hst ls H locs cells slots hL hI
  obtain ⟨hx, hb, hml, hown, hts, hK, hN, hbs, hfr, hlo, hlc, hls, -, hsc⟩ := F
  replace hst : (match (generalizing := false) S with | .int y :: .int x :: S => S.length ≤ 4 ∧ k L (.int (if x < y then y else x) :: S) z h | _ => False) := hst
  split at hst
  · rename_i y x S
    obtain ⟨h4, hst⟩ := hst
    obtain ⟨yy, hy, hlk⟩ := vx_ms_use hcn hf
    cases hy
    have := vx_cat_le (S.map (vx_v base b))
    simp only [List.length_map] at this
    have i1 := hI.1
    have i2 := hI.2.1
    exact va_mmax hx hb (by rw [hml]; exact hL.2.1.symm) hown (hts _ hlk) (hts _ vx_max.1) (hts _ vx_max.2.1) (hts _ vx_max.2.2) (by omega) (by omega) (by omega) (by omega) hd (hk _ _ _ _ hst ls H locs cells slots hL hI)
  · exact False.elim hst
theorem vx_s_abs (F : vx_Fx p R s m args meth c base b cI cS D sc lim cc ow nL lev isI) {owN ix : Nat} {u : UInt64} (hcn : vx_cn[owN]? = some ow) (hd : decode cc pc = .ok (.invokestatic ix, ln)) (hln : ln = 3) (hf : ∃ pl, (owN, ix, 4, pl) ∈ vx_ms) (hlev : 1 ≤ lev)
    (hk : vx_G p l e R s m args below meth c Qs base b cI cS D lim nL (pc + ln) k) : vx_G p l e R s m args below meth c Qs base b cI cS D lim nL pc (fun L S z h => vx_st sc lim (.invokestatic ix, ln, a, b', .double u, ps) L S z h J Q k) := by
  subst hln
  intro L S z h hst ls H locs cells slots hL hI
  obtain ⟨hx, hb, hml, hown, hts, hK, hN, hbs, hfr, hlo, hlc, hls, -, hsc⟩ := F
  replace hst : (match (generalizing := false) S with | .int x :: S => S.length ≤ 4 ∧ k L (.int (if 0 ≤ x then x else 0 - x) :: S) z h | _ => False) := hst
  split at hst
  · rename_i x S
    obtain ⟨h4, hst⟩ := hst
    obtain ⟨yy, hy, hlk⟩ := vx_ms_use hcn hf
    cases hy
    have := vx_cat_le (S.map (vx_v base b))
    simp only [List.length_map] at this
    have i1 := hI.1
    have i2 := hI.2.1
    exact va_mabs hx hb (by rw [hml]; exact hL.2.1.symm) hown (hts _ hlk) (hts _ vx_abs.1) (hts _ vx_abs.2.1) (hts _ vx_abs.2.2) (by omega) (by omega) (by omega) (by omega) hd (hk _ _ _ _ hst ls H locs cells slots hL hI)
  · exact False.elim hst
end VXD
