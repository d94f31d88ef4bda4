/-- what the tables say of classes, arrays and nest mates, at the start -/
theorem law_known {s : State} {args : Array Value} {cd : ClassId} (hts : ∀ w ∈ lw_tbl, w.before args s = true) : ∃ (D : va_G) (cI cS : ClassId), va_K D vx_cl (vx_tys cI cS) s ∧ vx_NW s := by
  have htb : ∀ w ∈ vx_TB, w.before args s = true := fun w hw => hts w (List.mem_filter.mp hw).1
  have hex : ∀ k : Nat, ∃ r : ClassId × (Nat → Nat), ∀ q, vx_cl[k]? = some q → u_Kn s q.1 q.2.1 q.2.2 r.1 r.2 := by
    intro k
    cases e : vx_cl[k]? with
    | none => exact ⟨(cd, fun _ => 0), fun q hq => by cases hq⟩
    | some q =>
      obtain ⟨f1, -, -, f4, -, -⟩ := vx_cfs e
      obtain ⟨cC, iS, hk⟩ := u_known (n := q.2.2) htb f1 (htb _ f4)
      exact ⟨(cC, iS), fun q' hq => by cases hq; exact hk⟩
  obtain ⟨f, hf⟩ := Classical.axiomOfChoice hex
  obtain ⟨cI, kI, comp, a1, a2, a3⟩ := Cond.arrayClass_spec (htb _ vx_ac1)
  have hao : (Cond.arrayOver (.object RX1)).before args s = true := hts _ (List.mem_of_getElem? (i := 87) (by decide +kernel))
  obtain ⟨comp2, cS, kS, b1, b2, b3, b4, b5⟩ := Cond.arrayOver_spec hao
  refine ⟨(fun k => (f k).1, fun k => (f k).2), cI, cS, ⟨fun k q hq => hf k q hq, fun k q hq => ?_⟩, fun q hq o c h1 h2 => ?_, fun q hq o M h1 h2 => ?_, va_AO.of hao⟩
  · match k, hq with
    | 0, hq => cases hq; exact ⟨fun n z => ⟨(fun k h => by cases h), kI, a2, comp, a3⟩, a1⟩
    | 1, hq => cases hq; exact ⟨fun n z => ⟨(fun k h => by cases h), kS, b3, comp2, b4⟩, kS, comp2, b3, b4, b1, b5⟩
    | k + 2, hq => simp [vx_tys] at hq
  · have h3 := List.all_eq_true.mp vx_fn_ok q hq
    unfold vx_fw2 at h3
    rw [h1, h2] at h3
    simp only [Bool.and_eq_true, decide_eq_true_eq] at h3
    exact va_Nw.of rfl (hts _ (List.mem_of_getElem? h3.2))
  · have h3 := List.all_eq_true.mp vx_mn_ok q hq
    unfold vx_mw2 at h3
    rw [h1, h2] at h3
    simp only [decide_eq_true_eq] at h3
    exact va_Nw.of rfl (hts _ (List.mem_of_getElem? h3))
