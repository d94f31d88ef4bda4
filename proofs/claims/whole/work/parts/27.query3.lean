/-! VoteWalls: fewest sets -/
def vw_bc (a : Nat) : Nat := vw_sum (fun i => if a.testBit i = true then 1 else 0) 8
def vw_bcf (x : Int32) : Int32 :=
  let x1 := x - ((x.toUInt32 >>> ((1 : Int32).toUInt32 &&& Int32.toUInt32 31)).toInt32 &&& 1431655765)
  let x2 := (x1 &&& 858993459) + ((x1.toUInt32 >>> ((2 : Int32).toUInt32 &&& Int32.toUInt32 31)).toInt32 &&& 858993459)
  let x3 := (x2 + (x2.toUInt32 >>> ((4 : Int32).toUInt32 &&& Int32.toUInt32 31)).toInt32) &&& 252645135
  let x4 := x3 + (x3.toUInt32 >>> ((8 : Int32).toUInt32 &&& Int32.toUInt32 31)).toInt32
  let x5 := x4 + (x4.toUInt32 >>> ((16 : Int32).toUInt32 &&& Int32.toUInt32 31)).toInt32
  x5 &&& 63
theorem vw_bcf_eq : ∀ a, a < 256 → vw_bcf (nI a) = nI (vw_bc a) := by decide +kernel
theorem vw_bc_le (a : Nat) : vw_bc a ≤ 8 := by
  have := vw_sum_le (f := fun i => if a.testBit i = true then 1 else 0) (c := 1) (fun p => by split <;> omega) 8
  unfold vw_bc; omega
theorem vw_bitCount (h : vx_H) (sz : Nat) (a : Nat) (ha : a < 256) : vx_Ok m_JI_bitCount [.int (nI a)] sz h (fun r h' => r = some (.int (nI (vw_bc a))) ∧ h' = h) := by
  refine ok_JI_bitCount [some (.int (nI a))] (Nat.le_of_ble_eq_true rfl) rfl (fun lim z X hX => ?_)
  rw [← vw_bcf_eq a ha] at hX
  refine vx_go hX [] 9 ?_
  rw [bk_JI_bitCount_0]
  have key : ∀ x : Int32, x = vw_bcf (nI a) → (fun (r : Option Value) (z' : vx_Z) (h' : vx_H) => z' = z ∧ r = some (.int (vw_bcf (nI a))) ∧ h' = h) (some (.int x)) z h := fun x e => by rw [e]; exact ⟨rfl, rfl, rfl⟩
  simp only [e_iload_n, e_iconst, e_iushr, e_ldc_w, e_iand, e_isub, e_istore_n, e_iadd, e_bipush, List.getElem?_cons_zero, List.set_cons_zero, vx_nl, true_and]
  rw [e_iret]
  refine ⟨fun q => absurd q (by decide), key _ ?_⟩
  unfold vw_bcf
  with_reducible rfl
