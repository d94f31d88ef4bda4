/-! the step, an instruction at a time, as rows for simp (printed by wip/geneval.py) -/
section VXF
variable {sc : Option (Nat × (Nat → Int32))} {lim : vx_Z} {J : Nat → vx_K} {Q : Option Value → vx_Z → vx_H → Prop} {pc ln a b : Nat} {v : Value} {ps : List (Int32 × Nat)} {is : List vx_I} {L : vx_L} {S : List Value} {z : vx_Z} {h : vx_H}
theorem e_nil : vx_b sc lim J Q pc [] L S z h = J pc L S z h := rfl
theorem e_iconst {n : Int} : vx_b sc lim J Q pc ((.iconst n, ln, a, b, v, ps) :: is) L S z h = (vx_b sc lim J Q (pc + ln) is L (v :: S) z h) := rfl
theorem e_bipush {n : Int} : vx_b sc lim J Q pc ((.bipush n, ln, a, b, v, ps) :: is) L S z h = (vx_b sc lim J Q (pc + ln) is L (v :: S) z h) := rfl
theorem e_sipush {n : Int} : vx_b sc lim J Q pc ((.sipush n, ln, a, b, v, ps) :: is) L S z h = (vx_b sc lim J Q (pc + ln) is L (v :: S) z h) := rfl
theorem e_lconst {n : Fin 2} : vx_b sc lim J Q pc ((.lconst n, ln, a, b, v, ps) :: is) L S z h = (vx_b sc lim J Q (pc + ln) is L (v :: S) z h) := rfl
theorem e_ldc_w {n : Nat} : vx_b sc lim J Q pc ((.ldc_w n, ln, a, b, v, ps) :: is) L S z h = (vx_b sc lim J Q (pc + ln) is L (v :: S) z h) := rfl
theorem e_ldc2_w {n : Nat} : vx_b sc lim J Q pc ((.ldc2_w n, ln, a, b, v, ps) :: is) L S z h = (vx_b sc lim J Q (pc + ln) is L (v :: S) z h) := rfl
theorem e_iload {n : Nat} : vx_b sc lim J Q pc ((.iload n, ln, a, b, v, ps) :: is) L S z h = (match L[a]? with | some (some (.int x)) => vx_b sc lim J Q (pc + ln) is L (.int x :: S) z h | _ => False) := rfl
theorem e_iload_n {n : Fin 4} : vx_b sc lim J Q pc ((.iload_n n, ln, a, b, v, ps) :: is) L S z h = (match L[a]? with | some (some (.int x)) => vx_b sc lim J Q (pc + ln) is L (.int x :: S) z h | _ => False) := rfl
theorem e_lload {n : Nat} : vx_b sc lim J Q pc ((.lload n, ln, a, b, v, ps) :: is) L S z h = (match L[a]? with | some (some (.long x)) => vx_b sc lim J Q (pc + ln) is L (.long x :: S) z h | _ => False) := rfl
theorem e_lload_n {n : Fin 4} : vx_b sc lim J Q pc ((.lload_n n, ln, a, b, v, ps) :: is) L S z h = (match L[a]? with | some (some (.long x)) => vx_b sc lim J Q (pc + ln) is L (.long x :: S) z h | _ => False) := rfl
theorem e_aload {n : Nat} : vx_b sc lim J Q pc ((.aload n, ln, a, b, v, ps) :: is) L S z h = (match L[a]? with | some (some (.ref x)) => vx_b sc lim J Q (pc + ln) is L (.ref x :: S) z h | some (some (.float x)) => vx_b sc lim J Q (pc + ln) is L (.float x :: S) z h | _ => False) := rfl
theorem e_aload_n {n : Fin 4} : vx_b sc lim J Q pc ((.aload_n n, ln, a, b, v, ps) :: is) L S z h = (match L[a]? with | some (some (.ref x)) => vx_b sc lim J Q (pc + ln) is L (.ref x :: S) z h | some (some (.float x)) => vx_b sc lim J Q (pc + ln) is L (.float x :: S) z h | _ => False) := rfl
theorem e_istore {n : Nat} {x : Int32} : vx_b sc lim J Q pc ((.istore n, ln, a, b, v, ps) :: is) L (.int x :: S) z h = (vx_nl L a ∧ vx_b sc lim J Q (pc + ln) is (L.set a (some (.int x))) S z h) := rfl
theorem e_istore_n {n : Fin 4} {x : Int32} : vx_b sc lim J Q pc ((.istore_n n, ln, a, b, v, ps) :: is) L (.int x :: S) z h = (vx_nl L a ∧ vx_b sc lim J Q (pc + ln) is (L.set a (some (.int x))) S z h) := rfl
theorem e_astore {n : Nat} {x : Nat} : vx_b sc lim J Q pc ((.astore n, ln, a, b, v, ps) :: is) L (.ref x :: S) z h = (vx_nl L a ∧ vx_b sc lim J Q (pc + ln) is (L.set a (some (.ref x))) S z h) := rfl
theorem e_astore_n {n : Fin 4} {x : Nat} : vx_b sc lim J Q pc ((.astore_n n, ln, a, b, v, ps) :: is) L (.ref x :: S) z h = (vx_nl L a ∧ vx_b sc lim J Q (pc + ln) is (L.set a (some (.ref x))) S z h) := rfl
theorem e_lstore {n : Nat} {x : Int64} : vx_b sc lim J Q pc ((.lstore n, ln, a, b, v, ps) :: is) L (.long x :: S) z h = (vx_nl L a ∧ vx_b sc lim J Q (pc + ln) is ((L.set a (some (.long x))).set (a + 1) none) S z h) := rfl
theorem e_iinc {n : Nat} {m : Int} {c : Int32} : vx_b sc lim J Q pc ((.iinc n m, ln, a, b, .int c, ps) :: is) L S z h = (match L[a]? with | some (some (.int x)) => vx_nl L a ∧ vx_b sc lim J Q (pc + ln) is (L.set a (some (.int (x + c)))) S z h | _ => False) := by
  show vx_st sc lim (.iinc n m, ln, a, b, .int c, ps) L S z h J Q (vx_b sc lim J Q (pc + ln) is) = _
  unfold vx_st
  dsimp only
  cases L[a]? with
  | none => rfl
  | some w => cases w with
    | none => rfl
    | some w => cases w <;> rfl
theorem e_iadd {x y : Int32} : vx_b sc lim J Q pc ((.iadd, ln, a, b, v, ps) :: is) L (.int y :: .int x :: S) z h = (vx_b sc lim J Q (pc + ln) is L (.int (x + y) :: S) z h) := rfl
theorem e_isub {x y : Int32} : vx_b sc lim J Q pc ((.isub, ln, a, b, v, ps) :: is) L (.int y :: .int x :: S) z h = (vx_b sc lim J Q (pc + ln) is L (.int (x - y) :: S) z h) := rfl
theorem e_imul {x y : Int32} : vx_b sc lim J Q pc ((.imul, ln, a, b, v, ps) :: is) L (.int y :: .int x :: S) z h = (vx_b sc lim J Q (pc + ln) is L (.int (x * y) :: S) z h) := rfl
theorem e_iand {x y : Int32} : vx_b sc lim J Q pc ((.iand, ln, a, b, v, ps) :: is) L (.int y :: .int x :: S) z h = (vx_b sc lim J Q (pc + ln) is L (.int (x &&& y) :: S) z h) := rfl
theorem e_ior {x y : Int32} : vx_b sc lim J Q pc ((.ior, ln, a, b, v, ps) :: is) L (.int y :: .int x :: S) z h = (vx_b sc lim J Q (pc + ln) is L (.int (x ||| y) :: S) z h) := rfl
theorem e_ishl {x y : Int32} : vx_b sc lim J Q pc ((.ishl, ln, a, b, v, ps) :: is) L (.int y :: .int x :: S) z h = (vx_b sc lim J Q (pc + ln) is L (.int (x <<< (y &&& 31)) :: S) z h) := rfl
theorem e_ishr {x y : Int32} : vx_b sc lim J Q pc ((.ishr, ln, a, b, v, ps) :: is) L (.int y :: .int x :: S) z h = (vx_b sc lim J Q (pc + ln) is L (.int (x >>> (y &&& 31)) :: S) z h) := rfl
theorem e_iushr {x y : Int32} : vx_b sc lim J Q pc ((.iushr, ln, a, b, v, ps) :: is) L (.int y :: .int x :: S) z h = (vx_b sc lim J Q (pc + ln) is L (.int ((x.toUInt32 >>> (y.toUInt32 &&& Int32.toUInt32 31)).toInt32) :: S) z h) := rfl
theorem e_idiv {x y : Int32} : vx_b sc lim J Q pc ((.idiv, ln, a, b, v, ps) :: is) L (.int y :: .int x :: S) z h = (¬ y = 0 ∧ vx_b sc lim J Q (pc + ln) is L (.int (x / y) :: S) z h) := rfl
theorem e_irem {x y : Int32} : vx_b sc lim J Q pc ((.irem, ln, a, b, v, ps) :: is) L (.int y :: .int x :: S) z h = (¬ y = 0 ∧ vx_b sc lim J Q (pc + ln) is L (.int (x - x / y * y) :: S) z h) := rfl
theorem e_ldiv {x y : Int64} : vx_b sc lim J Q pc ((.ldiv, ln, a, b, v, ps) :: is) L (.long y :: .long x :: S) z h = (¬ y = 0 ∧ vx_b sc lim J Q (pc + ln) is L (.long (x / y) :: S) z h) := rfl
theorem e_lrem {x y : Int64} : vx_b sc lim J Q pc ((.lrem, ln, a, b, v, ps) :: is) L (.long y :: .long x :: S) z h = (¬ y = 0 ∧ vx_b sc lim J Q (pc + ln) is L (.long (x - x / y * y) :: S) z h) := rfl
theorem e_ineg {x : Int32} : vx_b sc lim J Q pc ((.ineg, ln, a, b, v, ps) :: is) L (.int x :: S) z h = (vx_b sc lim J Q (pc + ln) is L (.int (-x) :: S) z h) := rfl
theorem e_lshl {x : Int64} {y : Int32} : vx_b sc lim J Q pc ((.lshl, ln, a, b, v, ps) :: is) L (.int y :: .long x :: S) z h = (vx_b sc lim J Q (pc + ln) is L (.long (x <<< (y.toInt64 &&& 63)) :: S) z h) := rfl
theorem e_lcmp {x y : Int64} : vx_b sc lim J Q pc ((.lcmp, ln, a, b, v, ps) :: is) L (.long y :: .long x :: S) z h = (vx_b sc lim J Q (pc + ln) is L (.int (lg_cmp x y) :: S) z h) := rfl
theorem e_i2l {x : Int32} : vx_b sc lim J Q pc ((.i2l, ln, a, b, v, ps) :: is) L (.int x :: S) z h = (vx_b sc lim J Q (pc + ln) is L (.long x.toInt64 :: S) z h) := rfl
theorem e_i2b {x : Int32} : vx_b sc lim J Q pc ((.i2b, ln, a, b, v, ps) :: is) L (.int x :: S) z h = (vx_b sc lim J Q (pc + ln) is L (.int x.toInt8.toInt32 :: S) z h) := rfl
theorem e_i2s {x : Int32} : vx_b sc lim J Q pc ((.i2s, ln, a, b, v, ps) :: is) L (.int x :: S) z h = (vx_b sc lim J Q (pc + ln) is L (.int x.toInt16.toInt32 :: S) z h) := rfl
theorem e_dup_i {x : Int32} : vx_b sc lim J Q pc ((.dup, ln, a, b, v, ps) :: is) L (.int x :: S) z h = (vx_b sc lim J Q (pc + ln) is L (.int x :: .int x :: S) z h) := rfl
theorem e_dup_r {x : Nat} : vx_b sc lim J Q pc ((.dup, ln, a, b, v, ps) :: is) L (.ref x :: S) z h = (vx_b sc lim J Q (pc + ln) is L (.ref x :: .ref x :: S) z h) := rfl
theorem e_dup2 {x : Nat} {y : Int32} : vx_b sc lim J Q pc ((.dup2, ln, a, b, v, ps) :: is) L (.int y :: .ref x :: S) z h = (vx_b sc lim J Q (pc + ln) is L (.int y :: .ref x :: .int y :: .ref x :: S) z h) := rfl
theorem e_if_eq {off : Int} {x : Int32} : vx_b sc lim J Q pc ((.ifCond .eq off, ln, a, b, v, ps) :: is) L (.int x :: S) z h = ((x = 0 → J a L S z h) ∧ (¬ x = 0 → vx_b sc lim J Q (pc + ln) is L S z h)) := rfl
theorem e_if_ne {off : Int} {x : Int32} : vx_b sc lim J Q pc ((.ifCond .ne off, ln, a, b, v, ps) :: is) L (.int x :: S) z h = ((¬ x = 0 → J a L S z h) ∧ (x = 0 → vx_b sc lim J Q (pc + ln) is L S z h)) := rfl
theorem e_if_lt {off : Int} {x : Int32} : vx_b sc lim J Q pc ((.ifCond .lt off, ln, a, b, v, ps) :: is) L (.int x :: S) z h = ((x < 0 → J a L S z h) ∧ (¬ x < 0 → vx_b sc lim J Q (pc + ln) is L S z h)) := rfl
theorem e_if_ge {off : Int} {x : Int32} : vx_b sc lim J Q pc ((.ifCond .ge off, ln, a, b, v, ps) :: is) L (.int x :: S) z h = ((0 ≤ x → J a L S z h) ∧ (¬ 0 ≤ x → vx_b sc lim J Q (pc + ln) is L S z h)) := rfl
theorem e_if_gt {off : Int} {x : Int32} : vx_b sc lim J Q pc ((.ifCond .gt off, ln, a, b, v, ps) :: is) L (.int x :: S) z h = ((0 < x → J a L S z h) ∧ (¬ 0 < x → vx_b sc lim J Q (pc + ln) is L S z h)) := rfl
theorem e_if_le {off : Int} {x : Int32} : vx_b sc lim J Q pc ((.ifCond .le off, ln, a, b, v, ps) :: is) L (.int x :: S) z h = ((x ≤ 0 → J a L S z h) ∧ (¬ x ≤ 0 → vx_b sc lim J Q (pc + ln) is L S z h)) := rfl
theorem e_icmp_eq {off : Int} {x y : Int32} : vx_b sc lim J Q pc ((.if_icmp .eq off, ln, a, b, v, ps) :: is) L (.int y :: .int x :: S) z h = ((x = y → J a L S z h) ∧ (¬ x = y → vx_b sc lim J Q (pc + ln) is L S z h)) := rfl
theorem e_icmp_ne {off : Int} {x y : Int32} : vx_b sc lim J Q pc ((.if_icmp .ne off, ln, a, b, v, ps) :: is) L (.int y :: .int x :: S) z h = ((¬ x = y → J a L S z h) ∧ (x = y → vx_b sc lim J Q (pc + ln) is L S z h)) := rfl
theorem e_icmp_lt {off : Int} {x y : Int32} : vx_b sc lim J Q pc ((.if_icmp .lt off, ln, a, b, v, ps) :: is) L (.int y :: .int x :: S) z h = ((x < y → J a L S z h) ∧ (¬ x < y → vx_b sc lim J Q (pc + ln) is L S z h)) := rfl
theorem e_icmp_ge {off : Int} {x y : Int32} : vx_b sc lim J Q pc ((.if_icmp .ge off, ln, a, b, v, ps) :: is) L (.int y :: .int x :: S) z h = ((y ≤ x → J a L S z h) ∧ (¬ y ≤ x → vx_b sc lim J Q (pc + ln) is L S z h)) := rfl
theorem e_icmp_gt {off : Int} {x y : Int32} : vx_b sc lim J Q pc ((.if_icmp .gt off, ln, a, b, v, ps) :: is) L (.int y :: .int x :: S) z h = ((y < x → J a L S z h) ∧ (¬ y < x → vx_b sc lim J Q (pc + ln) is L S z h)) := rfl
theorem e_icmp_le {off : Int} {x y : Int32} : vx_b sc lim J Q pc ((.if_icmp .le off, ln, a, b, v, ps) :: is) L (.int y :: .int x :: S) z h = ((x ≤ y → J a L S z h) ∧ (¬ x ≤ y → vx_b sc lim J Q (pc + ln) is L S z h)) := rfl
theorem e_ifnull_r {off : Int} {x : Nat} : vx_b sc lim J Q pc ((.ifnull off, ln, a, b, v, ps) :: is) L (.ref x :: S) z h = (vx_b sc lim J Q (pc + ln) is L S z h) := rfl
theorem e_ifnull_n {off : Int} : vx_b sc lim J Q pc ((.ifnull off, ln, a, b, v, ps) :: is) L (.null :: S) z h = (J a L S z h) := rfl
theorem e_goto {off : Int} : vx_b sc lim J Q pc ((.goto off, ln, a, b, v, ps) :: is) L S z h = (J a L S z h) := rfl
theorem e_tsw {d lo hi : Int} {os : Array Int} {x : Int32} : vx_b sc lim J Q pc ((.tableswitch d lo hi os, ln, a, b, v, ps) :: is) L (.int x :: S) z h = (J (vx_sel ps a x) L S z h) := rfl
theorem e_lsw {d : Int} {qs : Array (Int × Int)} {x : Int32} : vx_b sc lim J Q pc ((.lookupswitch d qs, ln, a, b, v, ps) :: is) L (.int x :: S) z h = (J (vx_sel ps a x) L S z h) := rfl
theorem e_getf {n x : Nat} : vx_b sc lim J Q pc ((.getfield n, ln, a, b, v, ps) :: is) L (.ref x :: S) z h = (match h x with | some (.inr (.inr (c, fs))) => c = a ∧ (match fs[b]? with | some v => vx_b sc lim J Q (pc + ln) is L (v :: S) z h | none => False) | _ => False) := rfl
theorem e_puti {n x : Nat} {u y : Int32} : vx_b sc lim J Q pc ((.putfield n, ln, a, b, .int u, ps) :: is) L (.int y :: .ref x :: S) z h = (match h x with | some (.inr (.inr (c, fs))) => c = a ∧ b < fs.length ∧ vx_b sc lim J Q (pc + ln) is L S z (vx_up h x (.inr (.inr (c, fs.set b (.int y))))) | _ => False) := rfl
theorem e_putz {n x : Nat} {u : Int64} {y : Int32} : vx_b sc lim J Q pc ((.putfield n, ln, a, b, .long u, ps) :: is) L (.int y :: .ref x :: S) z h = (match h x with | some (.inr (.inr (c, fs))) => c = a ∧ b < fs.length ∧ (y = 0 ∨ y = 1) ∧ vx_b sc lim J Q (pc + ln) is L S z (vx_up h x (.inr (.inr (c, fs.set b (.int y))))) | _ => False) := rfl
theorem e_puta {n x : Nat} {y : Nat} : vx_b sc lim J Q pc ((.putfield n, ln, a, b, .null, ps) :: is) L (.ref y :: .ref x :: S) z h = (match h x with | some (.inr (.inr (c, fs))) => c = a ∧ b < fs.length ∧ vx_b sc lim J Q (pc + ln) is L S z (vx_up h x (.inr (.inr (c, fs.set b (.ref y))))) | _ => False) := rfl
theorem e_new {n : Nat} : vx_b sc lim J Q pc ((.new n, ln, a, b, v, ps) :: is) L S z h = (z.1 + 1 ≤ lim.1 ∧ z.2 + b ≤ lim.2 ∧ vx_b sc lim J Q (pc + ln) is L (.ref z.1 :: S) (z.1 + 1, z.2 + b) (vx_up h z.1 (.inr (.inr (a, vx_df a))))) := rfl
theorem e_newa {t : ArrayType} {n : Int32} : vx_b sc lim J Q pc ((.newarray t, ln, a, b, v, ps) :: is) L (.int n :: S) z h = (n = Int32.ofNat b ∧ b ≤ 100000 ∧ z.1 + 1 ≤ lim.1 ∧ z.2 + b ≤ lim.2 ∧ vx_b sc lim J Q (pc + ln) is L (.ref z.1 :: S) (z.1 + 1, z.2 + b) (vx_up h z.1 (.inl (b, fun _ => 0)))) := rfl
theorem e_anew {m : Nat} {n : Int32} : vx_b sc lim J Q pc ((.anewarray m, ln, a, b, v, ps) :: is) L (.int n :: S) z h = (n = Int32.ofNat b ∧ b ≤ 100000 ∧ z.1 + 1 ≤ lim.1 ∧ z.2 + b ≤ lim.2 ∧ vx_b sc lim J Q (pc + ln) is L (.ref z.1 :: S) (z.1 + 1, z.2 + b) (vx_up h z.1 (.inr (.inl (b, fun _ => none))))) := rfl
theorem e_iald {j : Int32} {x : Nat} : vx_b sc lim J Q pc ((.iaload, ln, a, b, v, ps) :: is) L (.int j :: .ref x :: S) z h = (match h x with | some (.inl (n, f)) => vp_in j n ∧ vx_b sc lim J Q (pc + ln) is L (.int (f j.toNatClampNeg) :: S) z h | _ => False) := rfl
theorem e_sald {j : Int32} {x : UInt32} : vx_b sc lim J Q pc ((.iaload, ln, a, b, v, ps) :: is) L (.int j :: .float x :: S) z h = (match sc with | some q => vp_in j q.1 ∧ vx_b sc lim J Q (pc + ln) is L (.int (q.2 j.toNatClampNeg) :: S) z h | none => False) := rfl
theorem e_iast {y j : Int32} {x : Nat} : vx_b sc lim J Q pc ((.iastore, ln, a, b, v, ps) :: is) L (.int y :: .int j :: .ref x :: S) z h = (match h x with | some (.inl (n, f)) => vp_in j n ∧ vx_b sc lim J Q (pc + ln) is L S z (vx_up h x (.inl (n, upd f j.toNatClampNeg y))) | _ => False) := rfl
theorem e_aald {j : Int32} {x : Nat} : vx_b sc lim J Q pc ((.aaload, ln, a, b, v, ps) :: is) L (.int j :: .ref x :: S) z h = (match h x with | some (.inr (.inl (n, f))) => vp_in j n ∧ (match f j.toNatClampNeg with | some y => vx_b sc lim J Q (pc + ln) is L (.ref y :: S) z h | none => False) | _ => False) := rfl
theorem e_aast {j : Int32} {x y : Nat} : vx_b sc lim J Q pc ((.aastore, ln, a, b, v, ps) :: is) L (.ref y :: .int j :: .ref x :: S) z h = (match h x with | some (.inr (.inl (n, f))) => vp_in j n ∧ vx_isob (h y) 1 ∧ vx_b sc lim J Q (pc + ln) is L S z (vx_up h x (.inr (.inl (n, va_up f j.toNatClampNeg (some y))))) | _ => False) := rfl
theorem e_alen {x : Nat} : vx_b sc lim J Q pc ((.arraylength, ln, a, b, v, ps) :: is) L (.ref x :: S) z h = (match h x with | some (.inl (n, _)) => vx_b sc lim J Q (pc + ln) is L (.int (Int32.ofNat n) :: S) z h | _ => False) := rfl
theorem e_slen {x : UInt32} : vx_b sc lim J Q pc ((.arraylength, ln, a, b, v, ps) :: is) L (.float x :: S) z h = (match sc with | some q => vx_b sc lim J Q (pc + ln) is L (.int (Int32.ofNat q.1) :: S) z h | none => False) := rfl
theorem e_inv {n : Nat} : vx_b sc lim J Q pc ((.invokevirtual n, ln, a, b, v, ps) :: is) L S z h = (match (S.take (b + 1)).reverse with | .ref x :: As => As.length = b ∧ (S.drop (b + 1)).length ≤ 4 ∧ vx_isob (h x) ps.length ∧ ∃ P, vx_Ok a (.ref x :: As) z.1 h P ∧ ∀ r h', P r h' → vx_b sc lim J Q (pc + ln) is L (r.toList ++ S.drop (b + 1)) z h' | _ => False) := rfl
theorem e_acp {n x y : Nat} {u n0 dp sp : Int32} : vx_b sc lim J Q pc ((.invokestatic n, ln, a, b, .int u, ps) :: is) L (.int n0 :: .int dp :: .ref y :: .int sp :: .ref x :: S) z h = (match h x, h y with | some (.inl (l0, f)), some (.inl (l1, g)) => S.length ≤ 4 ∧ ¬ sp < 0 ∧ ¬ dp < 0 ∧ ¬ n0 < 0 ∧ sp.toNatClampNeg + n0.toNatClampNeg ≤ l0 ∧ dp.toNatClampNeg + n0.toNatClampNeg ≤ l1 ∧ vx_b sc lim J Q (pc + ln) is L S z (vx_up h y (.inl (l1, va_cpy f g sp.toNatClampNeg dp.toNatClampNeg n0.toNatClampNeg))) | _, _ => False) := rfl
theorem e_min {n : Nat} {u : Int64} {x y : Int32} : vx_b sc lim J Q pc ((.invokestatic n, ln, a, b, .long u, ps) :: is) L (.int y :: .int x :: S) z h = (S.length ≤ 4 ∧ vx_b sc lim J Q (pc + ln) is L (.int (if y < x then y else x) :: S) z h) := rfl
theorem e_max {n : Nat} {u : UInt32} {x y : Int32} : vx_b sc lim J Q pc ((.invokestatic n, ln, a, b, .float u, ps) :: is) L (.int y :: .int x :: S) z h = (S.length ≤ 4 ∧ vx_b sc lim J Q (pc + ln) is L (.int (if x < y then y else x) :: S) z h) := rfl
theorem e_abs {n : Nat} {u : UInt64} {x : Int32} : vx_b sc lim J Q pc ((.invokestatic n, ln, a, b, .double u, ps) :: is) L (.int x :: S) z h = (S.length ≤ 4 ∧ vx_b sc lim J Q (pc + ln) is L (.int (if 0 ≤ x then x else 0 - x) :: S) z h) := rfl
theorem e_ins {n : Nat} : vx_b sc lim J Q pc ((.invokestatic n, ln, a, b, .null, ps) :: is) L S z h = ((S.take b).length = b ∧ (S.drop b).length ≤ 4 ∧ ∃ P, vx_Ok a (S.take b).reverse z.1 h P ∧ ∀ r h', P r h' → vx_b sc lim J Q (pc + ln) is L (r.toList ++ S.drop b) z h') := rfl
theorem e_oinit {n x : Nat} {u : Int32} : vx_b sc lim J Q pc ((.invokespecial n, ln, a, b, .int u, ps) :: is) L (.ref x :: S) z h = (S.length ≤ 4 ∧ vx_b sc lim J Q (pc + ln) is L S z h) := rfl
theorem e_inx {n : Nat} : vx_b sc lim J Q pc ((.invokespecial n, ln, a, b, .null, ps) :: is) L S z h = (match (S.take (b + 1)).reverse with | .ref x :: As => As.length = b ∧ (S.drop (b + 1)).length ≤ 4 ∧ z.1 + (ps.map (·.2)).headD 0 ≤ lim.1 ∧ z.2 + ((ps.map (·.2)).getLastD 0) ≤ lim.2 ∧ ∃ P, vx_Ok a (.ref x :: As) z.1 h P ∧ ∀ r h', P r h' → vx_b sc lim J Q (pc + ln) is L (r.toList ++ S.drop (b + 1)) (z.1 + (ps.map (·.2)).headD 0, z.2 + (ps.map (·.2)).getLastD 0) h' | _ => False) := rfl
theorem e_iret {x : Int32} : vx_b sc lim J Q pc ((.ireturn, ln, a, b, v, ps) :: is) L [.int x] z h = ((a = 1 → x = 0 ∨ x = 1) ∧ Q (some (.int x)) z h) := rfl
theorem e_lret {x : Int64} : vx_b sc lim J Q pc ((.lreturn, ln, a, b, v, ps) :: is) L [.long x] z h = (Q (some (.long x)) z h) := rfl
theorem e_vret : vx_b sc lim J Q pc ((.return_, ln, a, b, v, ps) :: is) L [] z h = (Q none z h) := rfl
end VXF
