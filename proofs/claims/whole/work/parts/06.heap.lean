/-! the step is sound: fields, rows, new cells -/
section VXU
variable {p : Program} {l : Launch} {e : Env} {R : Room} {s : State} {m : MethodId} {args : Array Value} {below : List Frame} {meth : Method} {c : Code} {Qs : State → Prop}
variable {base b : Nat} {cI cS : ClassId} {D : va_G} {sc : Option (Nat × (Nat → Int32))} {lim : vx_Z} {cc : ByteArray} {ow : String} {nL lev : Nat} {isI : Bool} {pc ln a b' : Nat} {v : Value} {ps : List (Int32 × Nat)} {J : Nat → vx_K} {Q : Option Value → vx_Z → vx_H → Prop} {k : vx_K}
variable {H : Heap} {locs : List Loc} {cells slots : Nat} {z : vx_Z} {h : vx_H}
theorem vx_In.lt (hI : vx_In s base b cI cS D lim H locs cells slots z h) {x : Nat} {q : vx_C} (hx : h x = some q) : x < z.1 := (hI.2.2.1 x).mp (by rw [hx]; rfl)
theorem vx_In.at (hI : vx_In s base b cI cS D lim H locs cells slots z h) {x : Nat} {q : vx_C} (hx : h x = some q) : (vx_w base b cI cS z.1 h)[x]? = some (base + x, vx_e base b cI cS q) := vx_w_get (hI.lt hx) hx
theorem vx_In.put (hI : vx_In s base b cI cS D lim H locs cells slots z h) {x : Nat} {q : vx_C} {w : va_E} {H1 : Heap} {locs1 : List Loc} (hl : x < z.1) (hw : w = vx_e base b cI cS q) (hP : va_P D vx_cl ((vx_w base b cI cS z.1 h).set x (base + x, w)) H1) (hS : va_S (fun q => base ≤ q) s.heap H1 locs1) :
    vx_In s base b cI cS D lim H1 locs1 cells slots z (vx_up h x q) := by
  subst hw
  rw [vx_w_set hl] at hP
  refine ⟨hI.1, hI.2.1, fun j => ?_, hP, hS⟩
  by_cases hj : j = x
  · subst hj
    simp [vx_up, hl]
  · rw [vx_up_n _ _ hj]
    exact hI.2.2.1 j
/-- a bound on the heap, out of what stands -/
theorem vx_sz {g : JFrame} (kk : H.size ≤ s.heap.size + cells → W p l e R s m args below meth c H locs cells slots Qs g) : W p l e R s m args below meth c H locs cells slots Qs g :=
  fun T hT X => kk (by rw [← hT]; exact X.heapSize) T hT X
theorem vx_In.push (hI : vx_In s base b cI cS D lim H locs cells slots z h) {q : Nat} {x : vx_C} {w : va_E} {H1 : Heap} {n : Nat} (hl1 : z.1 + 1 ≤ lim.1) (hl2 : z.2 + n ≤ lim.2) (hw : w = vx_e base b cI cS x) (hz : H1.size ≤ s.heap.size + (cells + 1)) (hP : va_P D vx_cl (vx_w base b cI cS z.1 h ++ [(q, w)]) H1) (hD : va_D (fun q => base ≤ q) (vx_w base b cI cS z.1 h ++ [(q, w)])) (hS : va_S (fun q => base ≤ q) s.heap H1 locs) :
    q = base + z.1 ∧ vx_In s base b cI cS D lim H1 locs (cells + 1) (slots + n) (z.1 + 1, z.2 + n) (vx_up h z.1 x) := by
  subst hw
  have hlen : (vx_w base b cI cS z.1 h).length = z.1 := by simp [vx_w]
  have hlast : (vx_w base b cI cS z.1 h ++ [(q, vx_e base b cI cS x)])[z.1]? = some (q, vx_e base b cI cS x) := by
    rw [List.getElem?_append_right (by omega), hlen, Nat.sub_self]; rfl
  have hlt := (hP _ _ hlast).lt
  have hge : base ≤ q := hD.2 _ _ hlast
  have h1 := hI.1
  have hq : q = base + z.1 := by
    by_cases hq : q < base + z.1
    · exfalso
      have hk : q - base < z.1 := by omega
      have hx : (vx_w base b cI cS z.1 h ++ [(q, vx_e base b cI cS x)])[q - base]? = some (base + (q - base), vx_e base b cI cS ((h (q - base)).getD (.inl (0, fun _ => 0)))) := by
        rw [List.getElem?_append_left (by omega)]
        simp [vx_w, hk]
      have := hD.1 _ _ _ _ hx hlast (by show base + (q - base) = q; omega)
      omega
    · dsimp only at hlt
      omega
  subst hq
  refine ⟨rfl, by dsimp only; omega, ⟨by rw [hI.2.1.1], hl1, hl2⟩, fun j => ?_, ?_, hS⟩
  · by_cases hj : j = z.1
    · subst hj
      simp [vx_up]
    · rw [vx_up_n _ _ hj, hI.2.2.1 j]
      dsimp only
      omega
  · dsimp only
    rw [← vx_w_push]
    exact hP
/-- a field's link, by the tables -/
theorem vx_fl_use {owN ix a b' : Nat} {ow : String} (hcn : vx_cn[owN]? = some ow) (hf : ∃ pl, (owN, ix, a, b', pl) ∈ vx_fl) : ∃ (C : String) (T : u_T) (N : Nat), vx_cl[a]? = some (C, T, N) ∧ b' < N ∧ Cond.fieldLink ow ix (T b').1 (T b').2.1 (T b').2.2.1 ∈ vx_TB := by
  obtain ⟨pl, hm⟩ := hf
  have h1 := List.all_eq_true.mp vx_fl_ok _ hm
  unfold vx_fw at h1
  dsimp only at h1
  rw [hcn] at h1
  cases hc : vx_cl[a]? with
  | none => rw [hc] at h1; cases h1
  | some q =>
    obtain ⟨C, T, N⟩ := q
    rw [hc] at h1
    simp only [Bool.and_eq_true, decide_eq_true_eq] at h1
    exact ⟨C, T, N, rfl, h1.1, vx_at_mem h1.2⟩
theorem vx_fn_use {owN ix a b' : Nat} {ow : String} {s : State} (hN : vx_NW s) (hcn : vx_cn[owN]? = some ow) (hf : ∃ pl, (owN, ix, a, b', pl) ∈ vx_fn) : ∃ (C : String) (T : u_T) (N : Nat), vx_cl[a]? = some (C, T, N) ∧ b' < N ∧ va_Nw (.fieldLinkNest ow ix (T b').1 (T b').2.1 (T b').2.2.1 "VoteWalls") s := by
  obtain ⟨pl, hm⟩ := hf
  have h1 := List.all_eq_true.mp vx_fn_ok _ hm
  unfold vx_fw2 at h1
  dsimp only at h1
  rw [hcn] at h1
  cases hc : vx_cl[a]? with
  | none => rw [hc] at h1; cases h1
  | some q =>
    obtain ⟨C, T, N⟩ := q
    rw [hc] at h1
    simp only [Bool.and_eq_true, decide_eq_true_eq] at h1
    exact ⟨C, T, N, rfl, h1.1, hN.1 _ hm ow (C, T, N) hcn hc⟩
theorem vx_s_getfield (F : vx_Fx p R s m args meth c base b cI cS D sc lim cc ow nL lev isI) {owN ix : Nat} (hcn : vx_cn[owN]? = some ow) (hd : decode cc pc = .ok (.getfield ix, ln)) (hln : ln = 3) (hf : (∃ pl, (owN, ix, a, b', pl) ∈ vx_fl) ∨ (∃ pl, (owN, ix, a, b', pl) ∈ vx_fn))
    (hk : vx_G p l e R s m args below meth c Qs base b cI cS D lim nL (pc + ln) k) : vx_G p l e R s m args below meth c Qs base b cI cS D lim nL pc (fun L S z h => vx_st sc lim (.getfield ix, ln, a, b', v, ps) L S z h J Q k) := by
  subst hln
  intro L S z h hst ls H locs cells slots hL hI
  obtain ⟨hx, hb, hml, hown, hts, hK, hN, -⟩ := F
  rcases S with _ | ⟨v1, S⟩
  · exact False.elim hst
  · cases v1 with
    | ref x =>
      replace hst : (match h x with | some (.inr (.inr (c, fs))) => c = a ∧ (match fs[b']? with | some v => k L (v :: S) z h | none => False) | _ => False) := hst
      cases hhx : h x with
      | none => rw [hhx] at hst; exact False.elim hst
      | some q =>
        rw [hhx] at hst
        rcases q with ⟨n, f⟩ | ⟨n, f⟩ | ⟨c', fs⟩
        · exact False.elim hst
        · exact False.elim hst
        · obtain ⟨rfl, hst⟩ := hst
          cases hv : fs[b']? with
          | none => rw [hv] at hst; exact False.elim hst
          | some w =>
            rw [hv] at hst
            have hv' : (fs.map (vx_v base b))[b']? = some (vx_v base b w) := by rw [List.getElem?_map, hv]; rfl
            rcases hf with hf | hf
            · obtain ⟨C, T, N, hc, hkN, hlk⟩ := vx_fl_use hcn hf
              exact va_get hx hb hts (vx_cfs hc).1 hown hK hI.2.2.2.1 x (hI.at hhx) hc b' hkN (hts _ hlk) (fun _ h9 => h9) hv' hd (hk _ _ _ _ hst ls H locs cells slots hL hI)
            · obtain ⟨C, T, N, hc, hkN, hlk⟩ := vx_fn_use hN hcn hf
              exact va_getN hx hb hts (vx_cfs hc).1 hown hK hI.2.2.2.1 x (hI.at hhx) hc b' hkN (va_Nw.use rfl hlk) (fun _ h9 => h9) hv' hd (hk _ _ _ _ hst ls H locs cells slots hL hI)
    | _ => exact False.elim hst
/-- the three ways to put a value into a field -/
theorem vx_puts (F : vx_Fx p R s m args meth c base b cI cS D sc lim cc ow nL lev isI) {owN ix : Nat} (hcn : vx_cn[owN]? = some ow) (hd : decode cc pc = .ok (.putfield ix, 3))
    (hf : ((∃ pl, (owN, ix, a, b', pl) ∈ vx_fl) ∧ ∀ C T N, vx_cl[a]? = some (C, T, N) → (T b').2.2.2 = false ∨ isI = true ∧ (T b').1 = ow) ∨ ((∃ pl, (owN, ix, a, b', pl) ∈ vx_fn) ∧ ∀ C T N, vx_cl[a]? = some (C, T, N) → (T b').2.2.2 = false))
    {w : Value} (hn : narrow (vx_ty a b') (vx_v base b w) = vx_v base b w) (hfit : fits (vx_ty a b') (vx_v base b w) = true) {x : Nat} {fs : List Value} (hhx : h x = some (.inr (.inr (a, fs)))) (hl : b' < fs.length) (hI : vx_In s base b cI cS D lim H locs cells slots z h) {ls : Array Slot} {rest : List Value}
    (hk : ∀ (H1 : Heap) (locs1 : List Loc), vx_In s base b cI cS D lim H1 locs1 cells slots z (vx_up h x (.inr (.inr (a, fs.set b' w)))) → W p l e R s m args below meth c H1 locs1 cells slots Qs (F0 m (pc + 3) ls rest)) :
    W p l e R s m args below meth c H locs cells slots Qs (F0 m pc ls (vx_v base b w :: .ref (base + x) :: rest)) := by
  obtain ⟨hx, hb, hml, hown, hts, hK, hN, hbs, -, -, -, -, hini, -⟩ := F
  have hD := vx_w_D base b cI cS z.1 h
  have hl' : b' < (fs.map (vx_v base b)).length := by simpa using hl
  have hset : (fs.map (vx_v base b)).set b' (vx_v base b w) = (fs.set b' w).map (vx_v base b) := by rw [List.map_set]
  have hw : (Sum.inr (a, (fs.map (vx_v base b)).set b' (vx_v base b w)) : va_E) = vx_e base b cI cS (.inr (.inr (a, fs.set b' w))) := by rw [hset]; rfl
  rcases hf with ⟨hf, hfin⟩ | ⟨hf, hfin⟩
  · obtain ⟨C, T, N, hc, hkN, hlk⟩ := vx_fl_use hcn hf
    obtain ⟨u1, u2, u3, -⟩ := vx_cfs hc
    rcases hfin C T N hc with hfi | ⟨hii, hdc⟩
    · exact va_put hx hb hts u1 (vx_ty a) u2 u3 hown hK hI.2.2.2.1 hD hI.2.2.2.2 x (hI.at hhx) hc b' hkN (hts _ hlk) (fun _ h9 => h9) hfi (u2 b' hkN) hn hfit hl' hd (fun H1 locs1 hP _ hS => hk H1 locs1 (hI.put (hI.lt hhx) hw hP hS))
    · cases hfi : (T b').2.2.2 with
      | false => exact va_put hx hb hts u1 (vx_ty a) u2 u3 hown hK hI.2.2.2.1 hD hI.2.2.2.2 x (hI.at hhx) hc b' hkN (hts _ hlk) (fun _ h9 => h9) hfi (u2 b' hkN) hn hfit hl' hd (fun H1 locs1 hP _ hS => hk H1 locs1 (hI.put (hI.lt hhx) hw hP hS))
      | true => exact va_putF hx hb hts u1 (vx_ty a) u2 u3 hown hK hI.2.2.2.1 hD hI.2.2.2.2 x (hI.at hhx) hc b' hkN (hts _ hlk) (fun _ h9 => h9) hfi (hini hii) hdc (u2 b' hkN) hn hfit hl' hd (fun H1 locs1 hP _ hS => hk H1 locs1 (hI.put (hI.lt hhx) hw hP hS))
  · obtain ⟨C, T, N, hc, hkN, hlk⟩ := vx_fn_use hN hcn hf
    obtain ⟨u1, u2, u3, -⟩ := vx_cfs hc
    exact va_putN hx hb hts u1 (vx_ty a) u2 u3 hown hK hI.2.2.2.1 hD hI.2.2.2.2 x (hI.at hhx) hc b' hkN (va_Nw.use rfl hlk) (fun _ h9 => h9) (hfin C T N hc) (u2 b' hkN) hn hfit hl' hd (fun H1 locs1 hP _ hS => hk H1 locs1 (hI.put (hI.lt hhx) hw hP hS))
/-- which kind of value a field takes -/
def vx_tag (ty : FieldType) (v : Value) : Bool := match v, ty with
  | .int _, .int => true
  | .long _, .boolean => true
  | .null, .object _ => true
  | .null, .array _ => true
  | _, _ => false
theorem vx_s_putfield (F : vx_Fx p R s m args meth c base b cI cS D sc lim cc ow nL lev isI) {owN ix : Nat} (hcn : vx_cn[owN]? = some ow) (hd : decode cc pc = .ok (.putfield ix, ln)) (hln : ln = 3) (htag : vx_tag (vx_ty a b') v = true)
    (hf : ((∃ pl, (owN, ix, a, b', pl) ∈ vx_fl) ∧ ∀ C T N, vx_cl[a]? = some (C, T, N) → (T b').2.2.2 = false ∨ isI = true ∧ (T b').1 = ow) ∨ ((∃ pl, (owN, ix, a, b', pl) ∈ vx_fn) ∧ ∀ C T N, vx_cl[a]? = some (C, T, N) → (T b').2.2.2 = false))
    (hk : vx_G p l e R s m args below meth c Qs base b cI cS D lim nL (pc + ln) k) : vx_G p l e R s m args below meth c Qs base b cI cS D lim nL pc (fun L S z h => vx_st sc lim (.putfield ix, ln, a, b', v, ps) L S z h J Q k) := by
  subst hln
  intro L S z h hst ls H locs cells slots hL hI
  cases v with
  | int u =>
    have hty : vx_ty a b' = .int := by
      revert htag
      cases vx_ty a b' <;> simp [vx_tag]
    rcases S with _ | ⟨v1, _ | ⟨v2, S⟩⟩
    · exact False.elim hst
    · cases v1 <;> exact False.elim hst
    · cases v1 with
      | int y => cases v2 with
        | ref x =>
          replace hst : (match h x with | some (.inr (.inr (c, fs))) => c = a ∧ b' < fs.length ∧ k L S z (vx_up h x (.inr (.inr (c, fs.set b' (.int y))))) | _ => False) := hst
          cases hhx : h x with
          | none => rw [hhx] at hst; exact False.elim hst
          | some q =>
            rw [hhx] at hst
            rcases q with ⟨n, f⟩ | ⟨n, f⟩ | ⟨c', fs⟩
            · exact False.elim hst
            · exact False.elim hst
            · obtain ⟨rfl, hl, hst⟩ := hst
              exact vx_puts F hcn hd hf (w := .int y) (by rw [hty]; rfl) (by rw [hty]; rfl) hhx hl hI (fun H1 locs1 hI1 => hk _ _ _ _ hst ls H1 locs1 cells slots hL hI1)
        | _ => exact False.elim hst
      | _ => exact False.elim hst
  | long u =>
    have hty : vx_ty a b' = .boolean := by
      revert htag
      cases vx_ty a b' <;> simp [vx_tag]
    rcases S with _ | ⟨v1, _ | ⟨v2, S⟩⟩
    · exact False.elim hst
    · cases v1 <;> exact False.elim hst
    · cases v1 with
      | int y => cases v2 with
        | ref x =>
          replace hst : (match h x with | some (.inr (.inr (c, fs))) => c = a ∧ b' < fs.length ∧ (y = 0 ∨ y = 1) ∧ k L S z (vx_up h x (.inr (.inr (c, fs.set b' (.int y))))) | _ => False) := hst
          cases hhx : h x with
          | none => rw [hhx] at hst; exact False.elim hst
          | some q =>
            rw [hhx] at hst
            rcases q with ⟨n, f⟩ | ⟨n, f⟩ | ⟨c', fs⟩
            · exact False.elim hst
            · exact False.elim hst
            · obtain ⟨rfl, hl, hy, hst⟩ := hst
              exact vx_puts F hcn hd hf (w := .int y) (by rw [hty]; show narrow .boolean (.int y) = .int y; rcases hy with rfl | rfl <;> decide) (by rw [hty]; show fits .boolean (.int y) = true; rcases hy with rfl | rfl <;> decide) hhx hl hI (fun H1 locs1 hI1 => hk _ _ _ _ hst ls H1 locs1 cells slots hL hI1)
        | _ => exact False.elim hst
      | _ => exact False.elim hst
  | null =>
    rcases S with _ | ⟨v1, _ | ⟨v2, S⟩⟩
    · exact False.elim hst
    · cases v1 <;> exact False.elim hst
    · cases v1 with
      | ref y => cases v2 with
        | ref x =>
          replace hst : (match h x with | some (.inr (.inr (c, fs))) => c = a ∧ b' < fs.length ∧ k L S z (vx_up h x (.inr (.inr (c, fs.set b' (.ref y))))) | _ => False) := hst
          cases hhx : h x with
          | none => rw [hhx] at hst; exact False.elim hst
          | some q =>
            rw [hhx] at hst
            rcases q with ⟨n, f⟩ | ⟨n, f⟩ | ⟨c', fs⟩
            · exact False.elim hst
            · exact False.elim hst
            · obtain ⟨rfl, hl, hst⟩ := hst
              exact vx_puts F hcn hd hf (w := .ref y) (by revert htag; cases vx_ty c' b' <;> simp [vx_tag] <;> rfl) (by revert htag; cases vx_ty c' b' <;> simp [vx_tag] <;> rfl) hhx hl hI (fun H1 locs1 hI1 => hk _ _ _ _ hst ls H1 locs1 cells slots hL hI1)
        | _ => exact False.elim hst
      | _ => exact False.elim hst
  | _ => exact False.elim hst
end VXU
