/-! the step is sound: rows, new cells -/
section VXV
variable {p : Program} {l : Launch} {e : Env} {R : Room} {s : State} {m : MethodId} {args : Array Value} {below : List Frame} {meth : Method} {c : Code} {Qs : State → Prop}
variable {base b : Nat} {cI cS : ClassId} {D : va_G} {sc : Option (Nat × (Nat → Int32))} {lim : vx_Z} {cc : ByteArray} {ow : String} {nL lev : Nat} {isI : Bool} {pc ln a b' : Nat} {v : Value} {ps : List (Int32 × Nat)} {J : Nat → vx_K} {Q : Option Value → vx_Z → vx_H → Prop} {k : vx_K}
variable {H : Heap} {locs : List Loc} {cells slots : Nat} {z : vx_Z} {h : vx_H}
theorem vx_s_iaload (F : vx_Fx p R s m args meth c base b cI cS D sc lim cc ow nL lev isI) (hd : decode cc pc = .ok (.iaload, ln)) (hln : ln = 1)
    (hk : vx_G p l e R s m args below meth c Qs base b cI cS D lim nL (pc + ln) k) : vx_G p l e R s m args below meth c Qs base b cI cS D lim nL pc (fun L S z h => vx_st sc lim (.iaload, ln, a, b', v, ps) L S z h J Q k) := by
  subst hln
  intro L S z h hst ls H locs cells slots hL hI
  obtain ⟨hx, hb, hml, hown, hts, hK, hN, hbs, -, -, -, -, -, hsc⟩ := F
  rcases S with _ | ⟨v1, _ | ⟨v2, S⟩⟩
  · exact False.elim hst
  · cases v1 <;> exact False.elim hst
  · cases v1 with
    | int j => cases v2 with
      | ref x =>
        replace hst : (match h x with | some (.inl (n, f)) => vp_in j n ∧ k L (.int (f j.toNatClampNeg) :: S) z h | _ => False) := hst
        cases hhx : h x with
        | none => rw [hhx] at hst; exact False.elim hst
        | some q =>
          rw [hhx] at hst
          rcases q with ⟨n, f⟩ | ⟨n, f⟩ | ⟨c', fs⟩
          · exact va_iald hx hb hK hI.2.2.2.1 x 0 (hI.at hhx) rfl hst.1 hd (hk _ _ _ _ hst.2 ls H locs cells slots hL hI)
          · exact False.elim hst
          · exact False.elim hst
      | float x =>
        replace hst : (match (generalizing := false) sc with | some q => vp_in j q.1 ∧ k L (.int (q.2 j.toNatClampNeg) :: S) z h | none => False) := hst
        cases hs : sc with
        | none => rw [hs] at hst; exact False.elim hst
        | some q =>
          rw [hs] at hst
          obtain ⟨h1, h2⟩ := hsc q hs
          exact va_sld hx hb h1 (by omega) (A := fun q => base ≤ q) (by omega) hI.2.2.2.2 hst.1 hd (hk _ _ _ _ hst.2 ls H locs cells slots hL hI)
      | _ => exact False.elim hst
    | _ => exact False.elim hst
theorem vx_s_arraylength (F : vx_Fx p R s m args meth c base b cI cS D sc lim cc ow nL lev isI) (hd : decode cc pc = .ok (.arraylength, ln)) (hln : ln = 1)
    (hk : vx_G p l e R s m args below meth c Qs base b cI cS D lim nL (pc + ln) k) : vx_G p l e R s m args below meth c Qs base b cI cS D lim nL pc (fun L S z h => vx_st sc lim (.arraylength, ln, a, b', v, ps) L S z h J Q k) := by
  subst hln
  intro L S z h hst ls H locs cells slots hL hI
  obtain ⟨hx, hb, hml, hown, hts, hK, hN, hbs, -, -, -, -, -, hsc⟩ := F
  rcases S with _ | ⟨v1, S⟩
  · exact False.elim hst
  · cases v1 with
    | ref x =>
      replace hst : (match h x with | some (.inl (n, _)) => k L (.int (Int32.ofNat n) :: S) z h | _ => False) := hst
      cases hhx : h x with
      | none => rw [hhx] at hst; exact False.elim hst
      | some q =>
        rw [hhx] at hst
        rcases q with ⟨n, f⟩ | ⟨n, f⟩ | ⟨c', fs⟩
        · exact va_alen hx hb hK hI.2.2.2.1 x 0 (hI.at hhx) rfl rfl hd (hk _ _ _ _ hst ls H locs cells slots hL hI)
        · exact False.elim hst
        · exact False.elim hst
    | float x =>
      replace hst : (match (generalizing := false) sc with | some q => k L (.int (Int32.ofNat q.1) :: S) z h | none => False) := hst
      cases hs : sc with
      | none => rw [hs] at hst; exact False.elim hst
      | some q =>
        rw [hs] at hst
        obtain ⟨h1, h2⟩ := hsc q hs
        exact va_slen hx hb h1 (by omega) (A := fun q => base ≤ q) (by omega) hI.2.2.2.2 hd (hk _ _ _ _ hst ls H locs cells slots hL hI)
    | _ => exact False.elim hst
theorem vx_s_iastore (F : vx_Fx p R s m args meth c base b cI cS D sc lim cc ow nL lev isI) (hd : decode cc pc = .ok (.iastore, ln)) (hln : ln = 1)
    (hk : vx_G p l e R s m args below meth c Qs base b cI cS D lim nL (pc + ln) k) : vx_G p l e R s m args below meth c Qs base b cI cS D lim nL pc (fun L S z h => vx_st sc lim (.iastore, ln, a, b', v, ps) L S z h J Q k) := by
  subst hln
  intro L S z h hst ls H locs cells slots hL hI
  obtain ⟨hx, hb, hml, hown, hts, hK, hN, hbs, -, -, -, -, -, hsc⟩ := F
  rcases S with _ | ⟨v1, _ | ⟨v2, _ | ⟨v3, S⟩⟩⟩
  · exact False.elim hst
  · cases v1 <;> exact False.elim hst
  · cases v1 with
    | int y => cases v2 <;> exact False.elim hst
    | _ => exact False.elim hst
  · cases v1 with
    | int y => cases v2 with
      | int j => cases v3 with
        | ref x =>
          replace hst : (match h x with | some (.inl (n, f)) => vp_in j n ∧ k L S z (vx_up h x (.inl (n, upd f j.toNatClampNeg y))) | _ => False) := hst
          cases hhx : h x with
          | none => rw [hhx] at hst; exact False.elim hst
          | some q =>
            rw [hhx] at hst
            rcases q with ⟨n, f⟩ | ⟨n, f⟩ | ⟨c', fs⟩
            · exact va_iast hx hb hK hI.2.2.2.1 (vx_w_D base b cI cS z.1 h) hI.2.2.2.2 x 0 (hI.at hhx) rfl hst.1 hd (fun H1 locs1 hP _ hS => hk _ _ _ _ hst.2 ls H1 locs1 cells slots hL (hI.put (hI.lt hhx) rfl hP hS))
            · exact False.elim hst
            · exact False.elim hst
        | _ => exact False.elim hst
      | _ => exact False.elim hst
    | _ => exact False.elim hst
theorem vx_s_aaload (F : vx_Fx p R s m args meth c base b cI cS D sc lim cc ow nL lev isI) (hd : decode cc pc = .ok (.aaload, ln)) (hln : ln = 1)
    (hk : vx_G p l e R s m args below meth c Qs base b cI cS D lim nL (pc + ln) k) : vx_G p l e R s m args below meth c Qs base b cI cS D lim nL pc (fun L S z h => vx_st sc lim (.aaload, ln, a, b', v, ps) L S z h J Q k) := by
  subst hln
  intro L S z h hst ls H locs cells slots hL hI
  obtain ⟨hx, hb, hml, hown, hts, hK, hN, hbs, -, -, -, -, -, hsc⟩ := F
  rcases S with _ | ⟨v1, _ | ⟨v2, S⟩⟩
  · exact False.elim hst
  · cases v1 <;> exact False.elim hst
  · cases v1 with
    | int j => cases v2 with
      | ref x =>
        replace hst : (match h x with | some (.inr (.inl (n, f))) => vp_in j n ∧ (match f j.toNatClampNeg with | some y => k L (.ref y :: S) z h | none => False) | _ => False) := hst
        cases hhx : h x with
        | none => rw [hhx] at hst; exact False.elim hst
        | some q =>
          rw [hhx] at hst
          rcases q with ⟨n, f⟩ | ⟨n, f⟩ | ⟨c', fs⟩
          · exact False.elim hst
          · obtain ⟨h1, h2⟩ := hst
            cases hf : f j.toNatClampNeg with
            | none => rw [hf] at h2; exact False.elim h2
            | some y =>
              rw [hf] at h2
              refine va_aldq hx hb hK hI.2.2.2.1 x 1 (hI.at hhx) rfl h1 hd ?_
              rw [hf]
              exact hk _ _ _ _ h2 ls H locs cells slots hL hI
          · exact False.elim hst
      | _ => exact False.elim hst
    | _ => exact False.elim hst
theorem vx_s_aastore (F : vx_Fx p R s m args meth c base b cI cS D sc lim cc ow nL lev isI) (hd : decode cc pc = .ok (.aastore, ln)) (hln : ln = 1)
    (hk : vx_G p l e R s m args below meth c Qs base b cI cS D lim nL (pc + ln) k) : vx_G p l e R s m args below meth c Qs base b cI cS D lim nL pc (fun L S z h => vx_st sc lim (.aastore, ln, a, b', v, ps) L S z h J Q k) := by
  subst hln
  intro L S z h hst ls H locs cells slots hL hI
  obtain ⟨hx, hb, hml, hown, hts, hK, hN, hbs, -, -, -, -, -, hsc⟩ := F
  rcases S with _ | ⟨v1, _ | ⟨v2, _ | ⟨v3, S⟩⟩⟩
  · exact False.elim hst
  · cases v1 <;> exact False.elim hst
  · cases v1 with
    | ref y => cases v2 <;> exact False.elim hst
    | _ => exact False.elim hst
  · cases v1 with
    | ref y => cases v2 with
      | int j => cases v3 with
        | ref x =>
          replace hst : (match h x with | some (.inr (.inl (n, f))) => vp_in j n ∧ vx_isob (h y) 1 ∧ k L S z (vx_up h x (.inr (.inl (n, va_up f j.toNatClampNeg (some y))))) | _ => False) := hst
          cases hhx : h x with
          | none => rw [hhx] at hst; exact False.elim hst
          | some q =>
            rw [hhx] at hst
            rcases q with ⟨n, f⟩ | ⟨n, f⟩ | ⟨c', fs⟩
            · exact False.elim hst
            · obtain ⟨h1, h2, h3⟩ := hst
              cases hhy : h y with
              | none => rw [hhy] at h2; exact False.elim h2
              | some q =>
                rw [hhy] at h2
                rcases q with ⟨n2, f2⟩ | ⟨n2, f2⟩ | ⟨c2, fs⟩
                · exact False.elim h2
                · exact False.elim h2
                · have h2 : c2 = 1 := h2
                  subst h2
                  refine va_astq hx hb hK hI.2.2.2.1 (vx_w_D base b cI cS z.1 h) hI.2.2.2.2 x 1 y 1 (r := (RX1, TX1, 3)) (hI.at hhx) rfl (hI.at hhy) rfl h1 hd (fun H1 locs1 hP _ hS => hk _ _ _ _ h3 ls H1 locs1 cells slots hL (hI.put (hI.lt hhx) ?_ hP hS))
                  show (Sum.inl _ : va_E) = Sum.inl _
                  congr 7
                  funext i
                  by_cases hi : i = j.toNatClampNeg
                  · subst hi
                    simp [va_up]
                  · simp [va_up, hi]
            · exact False.elim hst
        | _ => exact False.elim hst
      | _ => exact False.elim hst
    | _ => exact False.elim hst
theorem vx_v_def {base b : Nat} {ty : FieldType} (h : ty ≠ .float) : vx_v base b (defaultValue ty) = defaultValue ty := by cases ty <;> first | rfl | exact absurd rfl h
theorem vx_nofl : ∀ ci, ci < 8 → ∀ q, vx_cl[ci]? = some q → (List.range q.2.2).all (fun j => decide (vx_ty ci j ≠ .float)) = true := by
  intro ci hci q hq
  match ci, hci, hq with
  | 0, _, hq => cases hq; decide +kernel
  | 1, _, hq => cases hq; decide +kernel
  | 2, _, hq => cases hq; decide +kernel
  | 3, _, hq => cases hq; decide +kernel
  | 4, _, hq => cases hq; decide +kernel
  | 5, _, hq => cases hq; decide +kernel
  | 6, _, hq => cases hq; decide +kernel
  | 7, _, hq => cases hq; decide +kernel
theorem vx_kc_use {owN ix cN : Nat} {ow : String} (hcn : vx_cn[owN]? = some ow) (hf : ∃ pl, (owN, ix, cN, pl) ∈ vx_kc) : ∃ C, vx_cn[cN]? = some C ∧ Cond.classLink ow ix C ∈ vx_TB := by
  obtain ⟨pl, hm⟩ := hf
  have h1 := List.all_eq_true.mp vx_kc_ok _ hm
  unfold vx_kw at h1
  dsimp only at h1
  rw [hcn] at h1
  cases hc : vx_cn[cN]? with
  | none => rw [hc] at h1; cases h1
  | some C => rw [hc] at h1; exact ⟨C, rfl, vx_at_mem h1⟩
theorem vx_cn_cl {ci : Nat} {q : vw_C} (h : vx_cl[ci]? = some q) : vx_cn[ci]? = some q.1 := by
  match ci, h with
  | 0, h => cases h; rfl
  | 1, h => cases h; rfl
  | 2, h => cases h; rfl
  | 3, h => cases h; rfl
  | 4, h => cases h; rfl
  | 5, h => cases h; rfl
  | 6, h => cases h; rfl
  | 7, h => cases h; rfl
  | n + 8, h => simp [vx_cl] at h
theorem vx_s_new (F : vx_Fx p R s m args meth c base b cI cS D sc lim cc ow nL lev isI) {owN ix : Nat} (hcn : vx_cn[owN]? = some ow) (hd : decode cc pc = .ok (.new ix, ln)) (hln : ln = 3) (hf : ∃ pl, (owN, ix, a, pl) ∈ vx_kc) (ha : a < 8) (hb' : ∀ q, vx_cl[a]? = some q → q.2.2 = b')
    (hk : vx_G p l e R s m args below meth c Qs base b cI cS D lim nL (pc + ln) k) : vx_G p l e R s m args below meth c Qs base b cI cS D lim nL pc (fun L S z h => vx_st sc lim (.new ix, ln, a, b', v, ps) L S z h J Q k) := by
  subst hln
  intro L S z h hst ls H locs cells slots hL hI
  obtain ⟨hx, hb, hml, hown, hts, hK, hN, hbs, -, -, hlc, hls, -, hsc⟩ := F
  obtain ⟨h1, h2, h3⟩ := (hst : z.1 + 1 ≤ lim.1 ∧ z.2 + b' ≤ lim.2 ∧ k L (.ref z.1 :: S) (z.1 + 1, z.2 + b') (vx_up h z.1 (.inr (.inr (a, vx_df a)))))
  obtain ⟨C, hC, hlk⟩ := vx_kc_use hcn hf
  have hlt : a < vx_cl.length := ha
  obtain ⟨q, hq⟩ : ∃ q, vx_cl[a]? = some q := ⟨_, List.getElem?_eq_getElem hlt⟩
  obtain ⟨C', T, N⟩ := q
  have hCC : C = C' := Option.some.inj (hC.symm.trans (vx_cn_cl hq))
  subst hCC
  have hN' : N = b' := hb' _ hq
  subst hN'
  obtain ⟨u1, u2, u3, u4, u5, -⟩ := vx_cfs hq
  have i1 := hI.1
  have i2 := hI.2.1
  refine va_new (ci := a) (fs := (vx_df a).map (vx_v base b)) hx hb hts u1 (vx_ty a) u2 hown (hts _ hlk) (hts _ u4) (hts _ u5) hK hI.2.2.2.1 (vx_w_D base b cI cS z.1 h) hI.2.2.2.2 (fun q hq => Nat.le_trans hbs hq) hq ?_ (by omega) (by show slots + N ≤ _; omega) hd (fun q H1 hP hD hS => vx_sz (fun hz => ?_))
  · intro j hj
    have := List.all_eq_true.mp (vx_nofl a ha _ hq) j (List.mem_range.mpr hj)
    have hne : vx_ty a j ≠ .float := by simpa using this
    show _ = ((vx_df a).map (vx_v base b)).getD j .null
    unfold vx_df
    rw [hq]
    simp [hj, List.getD_eq_getElem?_getD]
    exact (vx_v_def hne).symm
  · obtain ⟨rfl, hI1⟩ := hI.push (x := .inr (.inr (a, vx_df a))) (n := N) h1 h2 rfl hz hP hD hS
    exact hk _ _ _ _ h3 ls H1 locs _ _ hL hI1
theorem vx_s_newarray (F : vx_Fx p R s m args meth c base b cI cS D sc lim cc ow nL lev isI) {t : ArrayType} (hd : decode cc pc = .ok (.newarray t, ln)) (hln : ln = 2) (ht : t = .int)
    (hk : vx_G p l e R s m args below meth c Qs base b cI cS D lim nL (pc + ln) k) : vx_G p l e R s m args below meth c Qs base b cI cS D lim nL pc (fun L S z h => vx_st sc lim (.newarray t, ln, a, b', v, ps) L S z h J Q k) := by
  subst hln; subst ht
  intro L S z h hst ls H locs cells slots hL hI
  obtain ⟨hx, hb, hml, hown, hts, hK, hN, hbs, -, -, hlc, hls, -, hsc⟩ := F
  rcases S with _ | ⟨v1, S⟩
  · exact False.elim hst
  · cases v1 with
    | int n =>
      obtain ⟨h0, hb1, h1, h2, h3⟩ := (hst : n = Int32.ofNat b' ∧ b' ≤ 100000 ∧ z.1 + 1 ≤ lim.1 ∧ z.2 + b' ≤ lim.2 ∧ k L (.ref z.1 :: S) (z.1 + 1, z.2 + b') (vx_up h z.1 (.inl (b', fun _ => 0))))
      subst h0
      have i1 := hI.1
      have i2 := hI.2.1
      refine va_newa (atype := .int) (ty := .int) hx hb (hts _ vx_ac1) rfl hK hI.2.2.2.1 (vx_w_D base b cI cS z.1 h) hI.2.2.2.2 (fun q hq => Nat.le_trans hbs hq) (n := Int32.ofNat b') (N' := b') (a0 := (b', .inl (fun _ => 0))) (fun cA => rfl) (nI_pos (by omega)) (nI_clamp (by omega)) (by show b' * 4 ≤ _; omega) (by omega) (by omega) hd (fun q cA H1 hK1 hP hD hS => vx_sz (fun hz => ?_))
      have e1 : s.vm.findClass _ = some cA := (hK1.2 2 (cA, .int) rfl).2
      have e2 : s.vm.findClass _ = some cI := (hK.2 0 (cI, .int) rfl).2
      have e3 : cA = cI := Option.some.inj (e1.symm.trans e2)
      subst e3
      obtain ⟨rfl, hI1⟩ := hI.push (x := .inl (b', fun _ => 0)) (n := b') h1 h2 rfl hz hP hD hS
      exact hk _ _ _ _ h3 ls H1 locs _ _ hL hI1
    | _ => exact False.elim hst
theorem vx_s_anewarray (F : vx_Fx p R s m args meth c base b cI cS D sc lim cc ow nL lev isI) {owN ix : Nat} (hcn : vx_cn[owN]? = some ow) (hd : decode cc pc = .ok (.anewarray ix, ln)) (hln : ln = 3) (hf : ∃ pl, (owN, ix, 1, pl) ∈ vx_kc)
    (hk : vx_G p l e R s m args below meth c Qs base b cI cS D lim nL (pc + ln) k) : vx_G p l e R s m args below meth c Qs base b cI cS D lim nL pc (fun L S z h => vx_st sc lim (.anewarray ix, ln, a, b', v, ps) L S z h J Q k) := by
  subst hln
  intro L S z h hst ls H locs cells slots hL hI
  obtain ⟨hx, hb, hml, hown, hts, hK, hN, hbs, -, -, hlc, hls, -, hsc⟩ := F
  rcases S with _ | ⟨v1, S⟩
  · exact False.elim hst
  · cases v1 with
    | int n =>
      obtain ⟨h0, hb1, h1, h2, h3⟩ := (hst : n = Int32.ofNat b' ∧ b' ≤ 100000 ∧ z.1 + 1 ≤ lim.1 ∧ z.2 + b' ≤ lim.2 ∧ k L (.ref z.1 :: S) (z.1 + 1, z.2 + b') (vx_up h z.1 (.inr (.inl (b', fun _ => none)))))
      subst h0
      obtain ⟨C, hC, hlk⟩ := vx_kc_use hcn hf
      have hCC : C = RX1 := Option.some.inj (hC.symm.trans rfl)
      subst hCC
      have i1 := hI.1
      have i2 := hI.2.1
      refine va_newq hx hb hown (hts _ hlk) hN.2.2 hK hI.2.2.2.1 (vx_w_D base b cI cS z.1 h) hI.2.2.2.2 (fun q hq => Nat.le_trans hbs hq) (n := Int32.ofNat b') (N' := b') (nI_pos (by omega)) (nI_clamp (by omega)) (by omega) (by omega) (by omega) hd (fun q cA H1 hK1 hP hD hS => vx_sz (fun hz => ?_))
      obtain ⟨_, _, _, _, _, e1⟩ := (hK1.2 2 (cA, .object RX1) rfl).2
      obtain ⟨_, _, _, _, _, e2⟩ := (hK.2 1 (cS, .object RX1) rfl).2
      have e3 : cA = cS := Option.some.inj (e1.symm.trans e2)
      subst e3
      obtain ⟨rfl, hI1⟩ := hI.push (x := .inr (.inl (b', fun _ => none))) (n := b') h1 h2 rfl hz hP hD hS
      exact hk _ _ _ _ h3 ls H1 locs _ _ hL hI1
    | _ => exact False.elim hst
end VXV
