/-! blocks, printed by wip/gen.py: of each method its items from every place to which it jumps on -/
abbrev kb_V_init_0 : List vx_I := [(.aload_n 0, 1, 0, 0, .null, []), (.invokespecial 3, 3, 0, 0, .int 0, []), (.aload_n 0, 1, 0, 0, .null, []), (.iconst 4, 1, 0, 0, .int 4, []), (.anewarray 11, 3, 1, 4, .null, []), (.putfield 13, 3, 6, 0, .null, []), (.aload_n 0, 1, 0, 0, .null, []), (.new 17, 3, 2, 4, .null, []), (.dup, 1, 0, 0, .null, []), (.invokespecial 19, 3, 1, 0, .null, [(0, 0), (0, 0)]), (.putfield 20, 3, 6, 1, .null, []), (.aload_n 0, 1, 0, 0, .null, []), (.new 24, 3, 3, 5, .null, []), (.dup, 1, 0, 0, .null, []), (.bipush 6, 2, 0, 0, .int 6, []), (.invokespecial 26, 3, 2, 1, .null, [(0, 3), (0, 24)]), (.putfield 29, 3, 6, 2, .null, []), (.aload_n 0, 1, 0, 0, .null, []), (.new 24, 3, 3, 5, .null, []), (.dup, 1, 0, 0, .null, []), (.bipush 6, 2, 0, 0, .int 6, []), (.invokespecial 26, 3, 2, 1, .null, [(0, 3), (0, 24)]), (.putfield 33, 3, 6, 3, .null, []), (.aload_n 0, 1, 0, 0, .null, []), (.new 24, 3, 3, 5, .null, []), (.dup, 1, 0, 0, .null, []), (.bipush 8, 2, 0, 0, .int 8, []), (.invokespecial 26, 3, 2, 1, .null, [(0, 3), (0, 24)]), (.putfield 36, 3, 6, 4, .null, []), (.aload_n 0, 1, 0, 0, .null, []), (.new 39, 3, 0, 3, .null, []), (.dup, 1, 0, 0, .null, []), (.invokespecial 41, 3, 3, 0, .null, [(0, 2), (0, 100)]), (.putfield 42, 3, 6, 5, .null, []), (.aload_n 0, 1, 0, 0, .null, []), (.new 46, 3, 4, 7, .null, []), (.dup, 1, 0, 0, .null, []), (.invokespecial 48, 3, 4, 0, .null, [(0, 3), (0, 291)]), (.putfield 49, 3, 6, 6, .null, []), (.aload_n 0, 1, 0, 0, .null, []), (.new 53, 3, 5, 6, .null, []), (.dup, 1, 0, 0, .null, []), (.invokespecial 55, 3, 5, 0, .null, [(0, 3), (0, 21)]), (.putfield 56, 3, 6, 7, .null, []), (.aload_n 0, 1, 0, 0, .null, []), (.new 53, 3, 5, 6, .null, []), (.dup, 1, 0, 0, .null, []), (.invokespecial 55, 3, 5, 0, .null, [(0, 3), (0, 21)]), (.putfield 60, 3, 6, 8, .null, []), (.aload_n 0, 1, 0, 0, .null, []), (.iconst 0, 1, 0, 0, .int 0, []), (.putfield 63, 3, 6, 9, .int 0, []), (.aload_n 0, 1, 0, 0, .null, []), (.iconst 0, 1, 0, 0, .int 0, []), (.putfield 67, 3, 6, 10, .int 0, []), (.aload_n 0, 1, 0, 0, .null, []), (.iconst 0, 1, 0, 0, .int 0, []), (.putfield 70, 3, 6, 11, .int 0, []), (.iconst 0, 1, 0, 0, .int 0, []), (.istore_n 1, 1, 1, 0, .null, [])]
abbrev kb_V_init_123 : List vx_I := [(.iload_n 1, 1, 1, 0, .null, []), (.iconst 4, 1, 0, 0, .int 4, []), (.if_icmp .ge 22, 3, 147, 0, .null, []), (.aload_n 0, 1, 0, 0, .null, []), (.getfield 13, 3, 6, 0, .null, []), (.iload_n 1, 1, 1, 0, .null, []), (.new 11, 3, 1, 3, .null, []), (.dup, 1, 0, 0, .null, []), (.invokespecial 73, 3, 6, 0, .null, [(0, 1), (0, 60)]), (.aastore, 1, 0, 0, .null, []), (.iinc 1 1, 3, 1, 0, .int 1, []), (.goto (-21), 3, 123, 0, .null, [])]
abbrev kb_V_init_147 : List vx_I := [(.return_, 1, 0, 0, .null, [])]
def tb_V_init : List (Nat × List vx_I) := [(0, kb_V_init_0), (123, kb_V_init_123), (147, kb_V_init_147)]
theorem bk_V_init_0 : vx_bk tb_V_init 0 = kb_V_init_0 := rfl
theorem bk_V_init_123 : vx_bk tb_V_init 123 = kb_V_init_123 := rfl
theorem bk_V_init_147 : vx_bk tb_V_init 147 = kb_V_init_147 := rfl
abbrev m_V_init : Nat := 0
set_option maxRecDepth 100000 in
theorem ck_V_init : vx_ckM prog_1_method_1_code 6 2 2 true none tb_V_init = true := by decide +kernel
theorem ok_V_init {As : List Value} {sz : Nat} {h : vx_H} {P : Option Value → vx_H → Prop} (L0 : vx_L) (hlen : (vx_ar As).length ≤ 2) (hL0 : vx_ar As ++ List.replicate (2 - (vx_ar As).length) none = L0)
    (body : ∀ X, vx_cl0 none (sz + 37, 802) tb_V_init (fun r z' h' => z'.1 = sz + 37 ∧ P r h') X → X 0 L0 [] (sz, 0) h) : vx_Ok m_V_init As sz h P :=
  vx_ok (M := (⟨"VoteWalls", "<init>", "()V"⟩, prog_1_method_1_code, 2, none, 2, 37, 802, 0, 2)) rfl (ow := 6) rfl ck_V_init hlen hL0 (fun _ _ _ h => h) body
abbrev kb_V_yard_0 : List vx_I := [(.aload_n 0, 1, 0, 0, .null, []), (.iload_n 1, 1, 1, 0, .null, []), (.iload_n 2, 1, 2, 0, .null, []), (.iload_n 3, 1, 3, 0, .null, []), (.iload 4, 2, 4, 0, .null, []), (.invokevirtual 74, 3, 8, 4, .null, [(0, 0), (0, 0), (0, 0), (0, 0), (0, 0), (0, 0)]), (.istore 5, 2, 5, 0, .null, []), (.iload 5, 2, 5, 0, .null, []), (.ifCond .eq 6, 3, 19, 0, .null, []), (.iload 5, 2, 5, 0, .null, []), (.ireturn, 1, 0, 0, .null, [])]
abbrev kb_V_yard_19 : List vx_I := [(.aload_n 0, 1, 0, 0, .null, []), (.getfield 20, 3, 6, 1, .null, []), (.aload_n 0, 1, 0, 0, .null, []), (.getfield 13, 3, 6, 0, .null, []), (.iload_n 1, 1, 1, 0, .null, []), (.aaload, 1, 0, 0, .null, []), (.iload_n 3, 1, 3, 0, .null, []), (.iload 4, 2, 4, 0, .null, []), (.aload_n 0, 1, 0, 0, .null, []), (.getfield 60, 3, 6, 8, .null, []), (.invokevirtual 78, 3, 14, 4, .null, [(0, 0), (0, 0)]), (.ifCond .ne 14, 3, 53, 0, .null, []), (.bipush (-100), 2, 0, 0, .int (-100), []), (.aload_n 0, 1, 0, 0, .null, []), (.getfield 20, 3, 6, 1, .null, []), (.getfield 82, 3, 2, 3, .null, []), (.isub, 1, 0, 0, .null, []), (.ireturn, 1, 0, 0, .null, [])]
abbrev kb_V_yard_53 : List vx_I := [(.aload_n 0, 1, 0, 0, .null, []), (.getfield 56, 3, 6, 7, .null, []), (.astore 6, 2, 6, 0, .null, []), (.aload_n 0, 1, 0, 0, .null, []), (.aload_n 0, 1, 0, 0, .null, []), (.getfield 60, 3, 6, 8, .null, []), (.putfield 56, 3, 6, 7, .null, []), (.aload_n 0, 1, 0, 0, .null, []), (.aload 6, 2, 6, 0, .null, []), (.putfield 60, 3, 6, 8, .null, []), (.aload_n 0, 1, 0, 0, .null, []), (.invokevirtual 85, 3, 24, 0, .null, [(0, 0), (0, 0), (0, 0), (0, 0), (0, 0), (0, 0)]), (.aload_n 0, 1, 0, 0, .null, []), (.getfield 56, 3, 6, 7, .null, []), (.getfield 88, 3, 5, 5, .null, []), (.ireturn, 1, 0, 0, .null, [])]
def tb_V_yard : List (Nat × List vx_I) := [(0, kb_V_yard_0), (19, kb_V_yard_19), (53, kb_V_yard_53)]
theorem bk_V_yard_0 : vx_bk tb_V_yard 0 = kb_V_yard_0 := rfl
theorem bk_V_yard_19 : vx_bk tb_V_yard 19 = kb_V_yard_19 := rfl
theorem bk_V_yard_53 : vx_bk tb_V_yard 53 = kb_V_yard_53 := rfl
abbrev m_V_yard : Nat := 7
set_option maxRecDepth 100000 in
theorem ck_V_yard : vx_ckM prog_1_method_2_code 6 7 6 false (some .int) tb_V_yard = true := by decide +kernel
theorem ok_V_yard {As : List Value} {sz : Nat} {h : vx_H} {P : Option Value → vx_H → Prop} (L0 : vx_L) (hlen : (vx_ar As).length ≤ 7) (hL0 : vx_ar As ++ List.replicate (7 - (vx_ar As).length) none = L0)
    (body : ∀ (lim z : vx_Z) X, vx_cl0 none lim tb_V_yard (fun r z' h' => z' = z ∧ P r h') X → X 0 L0 [] z h) : vx_Ok m_V_yard As sz h P :=
  vx_ok0 (M := (⟨"VoteWalls", "yard", "(IIII)I"⟩, prog_1_method_2_code, 7, (some .int), 6, 0, 0, 4, 0)) rfl (ow := 6) rfl ck_V_yard rfl hlen hL0 body
abbrev kb_V_refusalOfCells_0 : List vx_I := [(.aload_n 0, 1, 0, 0, .null, []), (.iconst 0, 1, 0, 0, .int 0, []), (.putfield 70, 3, 6, 11, .int 0, []), (.iload_n 1, 1, 1, 0, .null, []), (.invokestatic 197, 3, 9, 1, .null, []), (.ifCond .ne 5, 3, 14, 0, .null, []), (.iconst (-1), 1, 0, 0, .int (-1), []), (.ireturn, 1, 0, 0, .null, [])]
abbrev kb_V_refusalOfCells_14 : List vx_I := [(.iload_n 2, 1, 2, 0, .null, []), (.invokestatic 200, 3, 10, 1, .null, []), (.ifCond .ne 6, 3, 24, 0, .null, []), (.bipush (-2), 2, 0, 0, .int (-2), []), (.ireturn, 1, 0, 0, .null, [])]
abbrev kb_V_refusalOfCells_24 : List vx_I := [(.aload_n 0, 1, 0, 0, .null, []), (.getfield 13, 3, 6, 0, .null, []), (.iload_n 1, 1, 1, 0, .null, []), (.aaload, 1, 0, 0, .null, []), (.iload_n 2, 1, 2, 0, .null, []), (.iload_n 3, 1, 3, 0, .null, []), (.iload 4, 2, 4, 0, .null, []), (.invokevirtual 219, 3, 11, 3, .null, [(0, 0)]), (.istore 5, 2, 5, 0, .null, []), (.iload 5, 2, 5, 0, .null, []), (.ifCond .ne 7, 3, 48, 0, .null, []), (.iconst 0, 1, 0, 0, .int 0, []), (.goto 9, 3, 54, 0, .null, [])]
abbrev kb_V_refusalOfCells_48 : List vx_I := [(.aload_n 0, 1, 0, 0, .null, []), (.iload 5, 2, 5, 0, .null, []), (.invokevirtual 203, 3, 13, 1, .null, [(0, 0), (0, 0), (0, 0), (0, 0), (0, 0), (0, 0)])]
abbrev kb_V_refusalOfCells_54 : List vx_I := [(.ireturn, 1, 0, 0, .null, [])]
def tb_V_refusalOfCells : List (Nat × List vx_I) := [(0, kb_V_refusalOfCells_0), (14, kb_V_refusalOfCells_14), (24, kb_V_refusalOfCells_24), (48, kb_V_refusalOfCells_48), (54, kb_V_refusalOfCells_54)]
theorem bk_V_refusalOfCells_0 : vx_bk tb_V_refusalOfCells 0 = kb_V_refusalOfCells_0 := rfl
theorem bk_V_refusalOfCells_14 : vx_bk tb_V_refusalOfCells 14 = kb_V_refusalOfCells_14 := rfl
theorem bk_V_refusalOfCells_24 : vx_bk tb_V_refusalOfCells 24 = kb_V_refusalOfCells_24 := rfl
theorem bk_V_refusalOfCells_48 : vx_bk tb_V_refusalOfCells 48 = kb_V_refusalOfCells_48 := rfl
theorem bk_V_refusalOfCells_54 : vx_bk tb_V_refusalOfCells 54 = kb_V_refusalOfCells_54 := rfl
abbrev m_V_refusalOfCells : Nat := 8
set_option maxRecDepth 100000 in
theorem ck_V_refusalOfCells : vx_ckM prog_1_method_51_code 6 6 2 false (some .int) tb_V_refusalOfCells = true := by decide +kernel
theorem ok_V_refusalOfCells {As : List Value} {sz : Nat} {h : vx_H} {P : Option Value → vx_H → Prop} (L0 : vx_L) (hlen : (vx_ar As).length ≤ 6) (hL0 : vx_ar As ++ List.replicate (6 - (vx_ar As).length) none = L0)
    (body : ∀ (lim z : vx_Z) X, vx_cl0 none lim tb_V_refusalOfCells (fun r z' h' => z' = z ∧ P r h') X → X 0 L0 [] z h) : vx_Ok m_V_refusalOfCells As sz h P :=
  vx_ok0 (M := (⟨"VoteWalls", "refusalOfCells", "(IIII)I"⟩, prog_1_method_51_code, 6, (some .int), 2, 0, 0, 4, 0)) rfl (ow := 6) rfl ck_V_refusalOfCells rfl hlen hL0 body
abbrev kb_V_isSheet_0 : List vx_I := [(.iload_n 0, 1, 0, 0, .null, []), (.ifCond .lt 12, 3, 13, 0, .null, []), (.iload_n 0, 1, 0, 0, .null, []), (.iconst 4, 1, 0, 0, .int 4, []), (.if_icmp .ge 7, 3, 13, 0, .null, []), (.iconst 1, 1, 0, 0, .int 1, []), (.goto 4, 3, 14, 0, .null, [])]
abbrev kb_V_isSheet_13 : List vx_I := [(.iconst 0, 1, 0, 0, .int 0, [])]
abbrev kb_V_isSheet_14 : List vx_I := [(.ireturn, 1, 1, 0, .null, [])]
def tb_V_isSheet : List (Nat × List vx_I) := [(0, kb_V_isSheet_0), (13, kb_V_isSheet_13), (14, kb_V_isSheet_14)]
theorem bk_V_isSheet_0 : vx_bk tb_V_isSheet 0 = kb_V_isSheet_0 := rfl
theorem bk_V_isSheet_13 : vx_bk tb_V_isSheet 13 = kb_V_isSheet_13 := rfl
theorem bk_V_isSheet_14 : vx_bk tb_V_isSheet 14 = kb_V_isSheet_14 := rfl
abbrev m_V_isSheet : Nat := 9
set_option maxRecDepth 100000 in
theorem ck_V_isSheet : vx_ckM prog_1_method_42_code 6 1 0 false (some .boolean) tb_V_isSheet = true := by decide +kernel
theorem ok_V_isSheet {As : List Value} {sz : Nat} {h : vx_H} {P : Option Value → vx_H → Prop} (L0 : vx_L) (hlen : (vx_ar As).length ≤ 1) (hL0 : vx_ar As ++ List.replicate (1 - (vx_ar As).length) none = L0)
    (body : ∀ (lim z : vx_Z) X, vx_cl0 none lim tb_V_isSheet (fun r z' h' => z' = z ∧ P r h') X → X 0 L0 [] z h) : vx_Ok m_V_isSheet As sz h P :=
  vx_ok0 (M := (⟨"VoteWalls", "isSheet", "(I)Z"⟩, prog_1_method_42_code, 1, (some .boolean), 0, 0, 0, 1, 1)) rfl (ow := 6) rfl ck_V_isSheet rfl hlen hL0 body
abbrev kb_V_isLane_0 : List vx_I := [(.iload_n 0, 1, 0, 0, .null, []), (.ifCond .lt 12, 3, 13, 0, .null, []), (.iload_n 0, 1, 0, 0, .null, []), (.iconst 3, 1, 0, 0, .int 3, []), (.if_icmp .ge 7, 3, 13, 0, .null, []), (.iconst 1, 1, 0, 0, .int 1, []), (.goto 4, 3, 14, 0, .null, [])]
abbrev kb_V_isLane_13 : List vx_I := [(.iconst 0, 1, 0, 0, .int 0, [])]
abbrev kb_V_isLane_14 : List vx_I := [(.ireturn, 1, 1, 0, .null, [])]
def tb_V_isLane : List (Nat × List vx_I) := [(0, kb_V_isLane_0), (13, kb_V_isLane_13), (14, kb_V_isLane_14)]
theorem bk_V_isLane_0 : vx_bk tb_V_isLane 0 = kb_V_isLane_0 := rfl
theorem bk_V_isLane_13 : vx_bk tb_V_isLane 13 = kb_V_isLane_13 := rfl
theorem bk_V_isLane_14 : vx_bk tb_V_isLane 14 = kb_V_isLane_14 := rfl
abbrev m_V_isLane : Nat := 10
set_option maxRecDepth 100000 in
theorem ck_V_isLane : vx_ckM prog_1_method_43_code 6 1 0 false (some .boolean) tb_V_isLane = true := by decide +kernel
theorem ok_V_isLane {As : List Value} {sz : Nat} {h : vx_H} {P : Option Value → vx_H → Prop} (L0 : vx_L) (hlen : (vx_ar As).length ≤ 1) (hL0 : vx_ar As ++ List.replicate (1 - (vx_ar As).length) none = L0)
    (body : ∀ (lim z : vx_Z) X, vx_cl0 none lim tb_V_isLane (fun r z' h' => z' = z ∧ P r h') X → X 0 L0 [] z h) : vx_Ok m_V_isLane As sz h P :=
  vx_ok0 (M := (⟨"VoteWalls", "isLane", "(I)Z"⟩, prog_1_method_43_code, 1, (some .boolean), 0, 0, 0, 1, 1)) rfl (ow := 6) rfl ck_V_isLane rfl hlen hL0 body
abbrev kb_V_failed_0 : List vx_I := [(.aload_n 0, 1, 0, 0, .null, []), (.iload_n 1, 1, 1, 0, .null, []), (.putfield 70, 3, 6, 11, .int 0, []), (.bipush (-10), 2, 0, 0, .int (-10), []), (.iload_n 1, 1, 1, 0, .null, []), (.isub, 1, 0, 0, .null, []), (.ireturn, 1, 0, 0, .null, [])]
def tb_V_failed : List (Nat × List vx_I) := [(0, kb_V_failed_0)]
theorem bk_V_failed_0 : vx_bk tb_V_failed 0 = kb_V_failed_0 := rfl
abbrev m_V_failed : Nat := 13
set_option maxRecDepth 100000 in
theorem ck_V_failed : vx_ckM prog_1_method_50_code 6 2 0 false (some .int) tb_V_failed = true := by decide +kernel
theorem ok_V_failed {As : List Value} {sz : Nat} {h : vx_H} {P : Option Value → vx_H → Prop} (L0 : vx_L) (hlen : (vx_ar As).length ≤ 2) (hL0 : vx_ar As ++ List.replicate (2 - (vx_ar As).length) none = L0)
    (body : ∀ (lim z : vx_Z) X, vx_cl0 none lim tb_V_failed (fun r z' h' => z' = z ∧ P r h') X → X 0 L0 [] z h) : vx_Ok m_V_failed As sz h P :=
  vx_ok0 (M := (⟨"VoteWalls", "failed", "(I)I"⟩, prog_1_method_50_code, 2, (some .int), 0, 0, 0, 1, 0)) rfl (ow := 6) rfl ck_V_failed rfl hlen hL0 body
abbrev kb_V_forgetRules_0 : List vx_I := [(.aload_n 0, 1, 0, 0, .null, []), (.iconst 0, 1, 0, 0, .int 0, []), (.putfield 63, 3, 6, 9, .int 0, []), (.aload_n 0, 1, 0, 0, .null, []), (.getfield 29, 3, 6, 2, .null, []), (.iconst 0, 1, 0, 0, .int 0, []), (.putfield 243, 3, 3, 4, .int 0, []), (.aload_n 0, 1, 0, 0, .null, []), (.getfield 33, 3, 6, 3, .null, []), (.iconst 0, 1, 0, 0, .int 0, []), (.putfield 243, 3, 3, 4, .int 0, []), (.aload_n 0, 1, 0, 0, .null, []), (.getfield 36, 3, 6, 4, .null, []), (.iconst 0, 1, 0, 0, .int 0, []), (.putfield 243, 3, 3, 4, .int 0, []), (.aload_n 0, 1, 0, 0, .null, []), (.getfield 42, 3, 6, 5, .null, []), (.aload_n 0, 1, 0, 0, .null, []), (.getfield 29, 3, 6, 2, .null, []), (.aload_n 0, 1, 0, 0, .null, []), (.getfield 33, 3, 6, 3, .null, []), (.invokevirtual 121, 3, 25, 2, .null, []), (.return_, 1, 0, 0, .null, [])]
def tb_V_forgetRules : List (Nat × List vx_I) := [(0, kb_V_forgetRules_0)]
theorem bk_V_forgetRules_0 : vx_bk tb_V_forgetRules 0 = kb_V_forgetRules_0 := rfl
abbrev m_V_forgetRules : Nat := 24
set_option maxRecDepth 100000 in
theorem ck_V_forgetRules : vx_ckM prog_1_method_52_code 6 1 3 false none tb_V_forgetRules = true := by decide +kernel
theorem ok_V_forgetRules {As : List Value} {sz : Nat} {h : vx_H} {P : Option Value → vx_H → Prop} (L0 : vx_L) (hlen : (vx_ar As).length ≤ 1) (hL0 : vx_ar As ++ List.replicate (1 - (vx_ar As).length) none = L0)
    (body : ∀ (lim z : vx_Z) X, vx_cl0 none lim tb_V_forgetRules (fun r z' h' => z' = z ∧ P r h') X → X 0 L0 [] z h) : vx_Ok m_V_forgetRules As sz h P :=
  vx_ok0 (M := (⟨"VoteWalls", "forgetRules", "()V"⟩, prog_1_method_52_code, 1, none, 3, 0, 0, 0, 0)) rfl (ow := 6) rfl ck_V_forgetRules rfl hlen hL0 body
abbrev kb_V_ofPrisoner_0 : List vx_I := [(.aload_n 0, 1, 0, 0, .null, []), (.iload_n 1, 1, 1, 0, .null, []), (.invokevirtual 91, 3, 29, 1, .null, [(0, 0), (0, 0), (0, 0), (0, 0), (0, 0), (0, 0)]), (.ifCond .ne 5, 3, 10, 0, .null, []), (.iconst (-1), 1, 0, 0, .int (-1), []), (.ireturn, 1, 0, 0, .null, [])]
abbrev kb_V_ofPrisoner_10 : List vx_I := [(.iload_n 2, 1, 2, 0, .null, []), (.tableswitch 58 0 2 #[25, 35, 45], 25, 69, 0, .null, [(0, 36), (1, 46), (2, 56)])]
abbrev kb_V_ofPrisoner_36 : List vx_I := [(.aload_n 0, 1, 0, 0, .null, []), (.getfield 56, 3, 6, 7, .null, []), (.getfield 95, 3, 5, 1, .null, []), (.iload_n 1, 1, 1, 0, .null, []), (.iaload, 1, 0, 0, .null, []), (.ireturn, 1, 0, 0, .null, [])]
abbrev kb_V_ofPrisoner_46 : List vx_I := [(.aload_n 0, 1, 0, 0, .null, []), (.getfield 56, 3, 6, 7, .null, []), (.getfield 99, 3, 5, 2, .null, []), (.iload_n 1, 1, 1, 0, .null, []), (.iaload, 1, 0, 0, .null, []), (.ireturn, 1, 0, 0, .null, [])]
abbrev kb_V_ofPrisoner_56 : List vx_I := [(.aload_n 0, 1, 0, 0, .null, []), (.getfield 56, 3, 6, 7, .null, []), (.getfield 95, 3, 5, 1, .null, []), (.iload_n 1, 1, 1, 0, .null, []), (.iaload, 1, 0, 0, .null, []), (.invokestatic 102, 3, 30, 1, .null, []), (.ireturn, 1, 0, 0, .null, [])]
abbrev kb_V_ofPrisoner_69 : List vx_I := [(.bipush (-2), 2, 0, 0, .int (-2), []), (.ireturn, 1, 0, 0, .null, [])]
def tb_V_ofPrisoner : List (Nat × List vx_I) := [(0, kb_V_ofPrisoner_0), (10, kb_V_ofPrisoner_10), (36, kb_V_ofPrisoner_36), (46, kb_V_ofPrisoner_46), (56, kb_V_ofPrisoner_56), (69, kb_V_ofPrisoner_69)]
theorem bk_V_ofPrisoner_0 : vx_bk tb_V_ofPrisoner 0 = kb_V_ofPrisoner_0 := rfl
theorem bk_V_ofPrisoner_10 : vx_bk tb_V_ofPrisoner 10 = kb_V_ofPrisoner_10 := rfl
theorem bk_V_ofPrisoner_36 : vx_bk tb_V_ofPrisoner 36 = kb_V_ofPrisoner_36 := rfl
theorem bk_V_ofPrisoner_46 : vx_bk tb_V_ofPrisoner 46 = kb_V_ofPrisoner_46 := rfl
theorem bk_V_ofPrisoner_56 : vx_bk tb_V_ofPrisoner 56 = kb_V_ofPrisoner_56 := rfl
theorem bk_V_ofPrisoner_69 : vx_bk tb_V_ofPrisoner 69 = kb_V_ofPrisoner_69 := rfl
abbrev m_V_ofPrisoner : Nat := 28
set_option maxRecDepth 100000 in
theorem ck_V_ofPrisoner : vx_ckM prog_1_method_3_code 6 3 1 false (some .int) tb_V_ofPrisoner = true := by decide +kernel
theorem ok_V_ofPrisoner {As : List Value} {sz : Nat} {h : vx_H} {P : Option Value → vx_H → Prop} (L0 : vx_L) (hlen : (vx_ar As).length ≤ 3) (hL0 : vx_ar As ++ List.replicate (3 - (vx_ar As).length) none = L0)
    (body : ∀ (lim z : vx_Z) X, vx_cl0 none lim tb_V_ofPrisoner (fun r z' h' => z' = z ∧ P r h') X → X 0 L0 [] z h) : vx_Ok m_V_ofPrisoner As sz h P :=
  vx_ok0 (M := (⟨"VoteWalls", "ofPrisoner", "(II)I"⟩, prog_1_method_3_code, 3, (some .int), 1, 0, 0, 2, 0)) rfl (ow := 6) rfl ck_V_ofPrisoner rfl hlen hL0 body
abbrev kb_V_isPrisoner_0 : List vx_I := [(.iload_n 1, 1, 1, 0, .null, []), (.ifCond .lt 18, 3, 19, 0, .null, []), (.iload_n 1, 1, 1, 0, .null, []), (.aload_n 0, 1, 0, 0, .null, []), (.getfield 56, 3, 6, 7, .null, []), (.getfield 88, 3, 5, 5, .null, []), (.if_icmp .ge 7, 3, 19, 0, .null, []), (.iconst 1, 1, 0, 0, .int 1, []), (.goto 4, 3, 20, 0, .null, [])]
abbrev kb_V_isPrisoner_19 : List vx_I := [(.iconst 0, 1, 0, 0, .int 0, [])]
abbrev kb_V_isPrisoner_20 : List vx_I := [(.ireturn, 1, 1, 0, .null, [])]
def tb_V_isPrisoner : List (Nat × List vx_I) := [(0, kb_V_isPrisoner_0), (19, kb_V_isPrisoner_19), (20, kb_V_isPrisoner_20)]
theorem bk_V_isPrisoner_0 : vx_bk tb_V_isPrisoner 0 = kb_V_isPrisoner_0 := rfl
theorem bk_V_isPrisoner_19 : vx_bk tb_V_isPrisoner 19 = kb_V_isPrisoner_19 := rfl
theorem bk_V_isPrisoner_20 : vx_bk tb_V_isPrisoner 20 = kb_V_isPrisoner_20 := rfl
abbrev m_V_isPrisoner : Nat := 29
set_option maxRecDepth 100000 in
theorem ck_V_isPrisoner : vx_ckM prog_1_method_40_code 6 2 0 false (some .boolean) tb_V_isPrisoner = true := by decide +kernel
theorem ok_V_isPrisoner {As : List Value} {sz : Nat} {h : vx_H} {P : Option Value → vx_H → Prop} (L0 : vx_L) (hlen : (vx_ar As).length ≤ 2) (hL0 : vx_ar As ++ List.replicate (2 - (vx_ar As).length) none = L0)
    (body : ∀ (lim z : vx_Z) X, vx_cl0 none lim tb_V_isPrisoner (fun r z' h' => z' = z ∧ P r h') X → X 0 L0 [] z h) : vx_Ok m_V_isPrisoner As sz h P :=
  vx_ok0 (M := (⟨"VoteWalls", "isPrisoner", "(I)Z"⟩, prog_1_method_40_code, 2, (some .boolean), 0, 0, 0, 1, 0)) rfl (ow := 6) rfl ck_V_isPrisoner rfl hlen hL0 body
abbrev kb_V_votesOfKind_0 : List vx_I := [(.iload_n 0, 1, 0, 0, .null, []), (.lookupswitch 31 #[(1, 29), (2, 27)], 27, 32, 0, .null, [(1, 30), (2, 28)])]
abbrev kb_V_votesOfKind_28 : List vx_I := [(.iconst 4, 1, 0, 0, .int 4, []), (.ireturn, 1, 0, 0, .null, [])]
abbrev kb_V_votesOfKind_30 : List vx_I := [(.iconst 2, 1, 0, 0, .int 2, []), (.ireturn, 1, 0, 0, .null, [])]
abbrev kb_V_votesOfKind_32 : List vx_I := [(.iconst 1, 1, 0, 0, .int 1, []), (.ireturn, 1, 0, 0, .null, [])]
def tb_V_votesOfKind : List (Nat × List vx_I) := [(0, kb_V_votesOfKind_0), (28, kb_V_votesOfKind_28), (30, kb_V_votesOfKind_30), (32, kb_V_votesOfKind_32)]
theorem bk_V_votesOfKind_0 : vx_bk tb_V_votesOfKind 0 = kb_V_votesOfKind_0 := rfl
theorem bk_V_votesOfKind_28 : vx_bk tb_V_votesOfKind 28 = kb_V_votesOfKind_28 := rfl
theorem bk_V_votesOfKind_30 : vx_bk tb_V_votesOfKind 30 = kb_V_votesOfKind_30 := rfl
theorem bk_V_votesOfKind_32 : vx_bk tb_V_votesOfKind 32 = kb_V_votesOfKind_32 := rfl
abbrev m_V_votesOfKind : Nat := 30
set_option maxRecDepth 100000 in
theorem ck_V_votesOfKind : vx_ckM prog_1_method_49_code 6 1 0 false (some .int) tb_V_votesOfKind = true := by decide +kernel
theorem ok_V_votesOfKind {As : List Value} {sz : Nat} {h : vx_H} {P : Option Value → vx_H → Prop} (L0 : vx_L) (hlen : (vx_ar As).length ≤ 1) (hL0 : vx_ar As ++ List.replicate (1 - (vx_ar As).length) none = L0)
    (body : ∀ (lim z : vx_Z) X, vx_cl0 none lim tb_V_votesOfKind (fun r z' h' => z' = z ∧ P r h') X → X 0 L0 [] z h) : vx_Ok m_V_votesOfKind As sz h P :=
  vx_ok0 (M := (⟨"VoteWalls", "votesOfKind", "(I)I"⟩, prog_1_method_49_code, 1, (some .int), 0, 0, 0, 1, 1)) rfl (ow := 6) rfl ck_V_votesOfKind rfl hlen hL0 body
abbrev kb_V_law_0 : List vx_I := [(.iload_n 1, 1, 1, 0, .null, []), (.ifCond .eq 11, 3, 12, 0, .null, []), (.iload_n 1, 1, 1, 0, .null, []), (.iconst 1, 1, 0, 0, .int 1, []), (.if_icmp .eq 6, 3, 12, 0, .null, []), (.bipush (-2), 2, 0, 0, .int (-2), []), (.ireturn, 1, 0, 0, .null, [])]
abbrev kb_V_law_12 : List vx_I := [(.aload_n 0, 1, 0, 0, .null, []), (.invokevirtual 106, 3, 32, 0, .null, [(0, 0), (0, 0), (0, 0), (0, 0), (0, 0), (0, 0)]), (.ifCond .ne 6, 3, 22, 0, .null, []), (.bipush (-3), 2, 0, 0, .int (-3), []), (.ireturn, 1, 0, 0, .null, [])]
abbrev kb_V_law_22 : List vx_I := [(.aload_n 0, 1, 0, 0, .null, []), (.getfield 63, 3, 6, 9, .null, []), (.istore_n 2, 1, 2, 0, .null, []), (.aload_n 0, 1, 0, 0, .null, []), (.iload_n 1, 1, 1, 0, .null, []), (.putfield 63, 3, 6, 9, .int 0, []), (.iload_n 2, 1, 2, 0, .null, []), (.ireturn, 1, 0, 0, .null, [])]
def tb_V_law : List (Nat × List vx_I) := [(0, kb_V_law_0), (12, kb_V_law_12), (22, kb_V_law_22)]
theorem bk_V_law_0 : vx_bk tb_V_law 0 = kb_V_law_0 := rfl
theorem bk_V_law_12 : vx_bk tb_V_law 12 = kb_V_law_12 := rfl
theorem bk_V_law_22 : vx_bk tb_V_law 22 = kb_V_law_22 := rfl
abbrev m_V_law : Nat := 31
set_option maxRecDepth 100000 in
theorem ck_V_law : vx_ckM prog_1_method_4_code 6 3 1 false (some .int) tb_V_law = true := by decide +kernel
theorem ok_V_law {As : List Value} {sz : Nat} {h : vx_H} {P : Option Value → vx_H → Prop} (L0 : vx_L) (hlen : (vx_ar As).length ≤ 3) (hL0 : vx_ar As ++ List.replicate (3 - (vx_ar As).length) none = L0)
    (body : ∀ (lim z : vx_Z) X, vx_cl0 none lim tb_V_law (fun r z' h' => z' = z ∧ P r h') X → X 0 L0 [] z h) : vx_Ok m_V_law As sz h P :=
  vx_ok0 (M := (⟨"VoteWalls", "law", "(I)I"⟩, prog_1_method_4_code, 3, (some .int), 1, 0, 0, 1, 0)) rfl (ow := 6) rfl ck_V_law rfl hlen hL0 body
abbrev kb_V_hasYard_0 : List vx_I := [(.aload_n 0, 1, 0, 0, .null, []), (.getfield 56, 3, 6, 7, .null, []), (.getfield 156, 3, 5, 4, .null, []), (.ifCond .le 7, 3, 14, 0, .null, []), (.iconst 1, 1, 0, 0, .int 1, []), (.goto 4, 3, 15, 0, .null, [])]
abbrev kb_V_hasYard_14 : List vx_I := [(.iconst 0, 1, 0, 0, .int 0, [])]
abbrev kb_V_hasYard_15 : List vx_I := [(.ireturn, 1, 1, 0, .null, [])]
def tb_V_hasYard : List (Nat × List vx_I) := [(0, kb_V_hasYard_0), (14, kb_V_hasYard_14), (15, kb_V_hasYard_15)]
theorem bk_V_hasYard_0 : vx_bk tb_V_hasYard 0 = kb_V_hasYard_0 := rfl
theorem bk_V_hasYard_14 : vx_bk tb_V_hasYard 14 = kb_V_hasYard_14 := rfl
theorem bk_V_hasYard_15 : vx_bk tb_V_hasYard 15 = kb_V_hasYard_15 := rfl
abbrev m_V_hasYard : Nat := 32
set_option maxRecDepth 100000 in
theorem ck_V_hasYard : vx_ckM prog_1_method_38_code 6 1 0 false (some .boolean) tb_V_hasYard = true := by decide +kernel
theorem ok_V_hasYard {As : List Value} {sz : Nat} {h : vx_H} {P : Option Value → vx_H → Prop} (L0 : vx_L) (hlen : (vx_ar As).length ≤ 1) (hL0 : vx_ar As ++ List.replicate (1 - (vx_ar As).length) none = L0)
    (body : ∀ (lim z : vx_Z) X, vx_cl0 none lim tb_V_hasYard (fun r z' h' => z' = z ∧ P r h') X → X 0 L0 [] z h) : vx_Ok m_V_hasYard As sz h P :=
  vx_ok0 (M := (⟨"VoteWalls", "hasYard", "()Z"⟩, prog_1_method_38_code, 1, (some .boolean), 0, 0, 0, 0, 0)) rfl (ow := 6) rfl ck_V_hasYard rfl hlen hL0 body
abbrev kb_V_lock_0 : List vx_I := [(.aload_n 0, 1, 0, 0, .null, []), (.iload_n 1, 1, 1, 0, .null, []), (.invokevirtual 110, 3, 34, 1, .null, [(0, 0), (0, 0), (0, 0), (0, 0), (0, 0), (0, 0)]), (.ifCond .ne 5, 3, 10, 0, .null, []), (.iconst (-1), 1, 0, 0, .int (-1), []), (.ireturn, 1, 0, 0, .null, [])]
abbrev kb_V_lock_10 : List vx_I := [(.iload_n 2, 1, 2, 0, .null, []), (.iload_n 3, 1, 3, 0, .null, []), (.invokestatic 113, 3, 35, 2, .null, []), (.ifCond .ne 6, 3, 21, 0, .null, []), (.bipush (-2), 2, 0, 0, .int (-2), []), (.ireturn, 1, 0, 0, .null, [])]
abbrev kb_V_lock_21 : List vx_I := [(.aload_n 0, 1, 0, 0, .null, []), (.getfield 29, 3, 6, 2, .null, []), (.iload_n 1, 1, 1, 0, .null, []), (.iload_n 2, 1, 2, 0, .null, []), (.iload_n 3, 1, 3, 0, .null, []), (.invokevirtual 117, 3, 37, 3, .null, [(0, 0), (0, 0), (0, 0)]), (.istore 4, 2, 4, 0, .null, []), (.aload_n 0, 1, 0, 0, .null, []), (.getfield 42, 3, 6, 5, .null, []), (.aload_n 0, 1, 0, 0, .null, []), (.getfield 29, 3, 6, 2, .null, []), (.aload_n 0, 1, 0, 0, .null, []), (.getfield 33, 3, 6, 3, .null, []), (.invokevirtual 121, 3, 25, 2, .null, []), (.iload 4, 2, 4, 0, .null, []), (.ireturn, 1, 0, 0, .null, [])]
def tb_V_lock : List (Nat × List vx_I) := [(0, kb_V_lock_0), (10, kb_V_lock_10), (21, kb_V_lock_21)]
theorem bk_V_lock_0 : vx_bk tb_V_lock 0 = kb_V_lock_0 := rfl
theorem bk_V_lock_10 : vx_bk tb_V_lock 10 = kb_V_lock_10 := rfl
theorem bk_V_lock_21 : vx_bk tb_V_lock 21 = kb_V_lock_21 := rfl
abbrev m_V_lock : Nat := 33
set_option maxRecDepth 100000 in
theorem ck_V_lock : vx_ckM prog_1_method_5_code 6 5 3 false (some .int) tb_V_lock = true := by decide +kernel
theorem ok_V_lock {As : List Value} {sz : Nat} {h : vx_H} {P : Option Value → vx_H → Prop} (L0 : vx_L) (hlen : (vx_ar As).length ≤ 5) (hL0 : vx_ar As ++ List.replicate (5 - (vx_ar As).length) none = L0)
    (body : ∀ (lim z : vx_Z) X, vx_cl0 none lim tb_V_lock (fun r z' h' => z' = z ∧ P r h') X → X 0 L0 [] z h) : vx_Ok m_V_lock As sz h P :=
  vx_ok0 (M := (⟨"VoteWalls", "lock", "(III)I"⟩, prog_1_method_5_code, 5, (some .int), 3, 0, 0, 3, 0)) rfl (ow := 6) rfl ck_V_lock rfl hlen hL0 body
abbrev kb_V_isBoard_0 : List vx_I := [(.iload_n 1, 1, 1, 0, .null, []), (.ifCond .lt 18, 3, 19, 0, .null, []), (.iload_n 1, 1, 1, 0, .null, []), (.aload_n 0, 1, 0, 0, .null, []), (.getfield 56, 3, 6, 7, .null, []), (.getfield 156, 3, 5, 4, .null, []), (.if_icmp .ge 7, 3, 19, 0, .null, []), (.iconst 1, 1, 0, 0, .int 1, []), (.goto 4, 3, 20, 0, .null, [])]
abbrev kb_V_isBoard_19 : List vx_I := [(.iconst 0, 1, 0, 0, .int 0, [])]
abbrev kb_V_isBoard_20 : List vx_I := [(.ireturn, 1, 1, 0, .null, [])]
def tb_V_isBoard : List (Nat × List vx_I) := [(0, kb_V_isBoard_0), (19, kb_V_isBoard_19), (20, kb_V_isBoard_20)]
theorem bk_V_isBoard_0 : vx_bk tb_V_isBoard 0 = kb_V_isBoard_0 := rfl
theorem bk_V_isBoard_19 : vx_bk tb_V_isBoard 19 = kb_V_isBoard_19 := rfl
theorem bk_V_isBoard_20 : vx_bk tb_V_isBoard 20 = kb_V_isBoard_20 := rfl
abbrev m_V_isBoard : Nat := 34
set_option maxRecDepth 100000 in
theorem ck_V_isBoard : vx_ckM prog_1_method_39_code 6 2 0 false (some .boolean) tb_V_isBoard = true := by decide +kernel
theorem ok_V_isBoard {As : List Value} {sz : Nat} {h : vx_H} {P : Option Value → vx_H → Prop} (L0 : vx_L) (hlen : (vx_ar As).length ≤ 2) (hL0 : vx_ar As ++ List.replicate (2 - (vx_ar As).length) none = L0)
    (body : ∀ (lim z : vx_Z) X, vx_cl0 none lim tb_V_isBoard (fun r z' h' => z' = z ∧ P r h') X → X 0 L0 [] z h) : vx_Ok m_V_isBoard As sz h P :=
  vx_ok0 (M := (⟨"VoteWalls", "isBoard", "(I)Z"⟩, prog_1_method_39_code, 2, (some .boolean), 0, 0, 0, 1, 0)) rfl (ow := 6) rfl ck_V_isBoard rfl hlen hL0 body
abbrev kb_V_isSpan_0 : List vx_I := [(.iload_n 0, 1, 0, 0, .null, []), (.invokestatic 169, 3, 36, 1, .null, []), (.ifCond .eq 19, 3, 23, 0, .null, []), (.iload_n 1, 1, 1, 0, .null, []), (.invokestatic 169, 3, 36, 1, .null, []), (.ifCond .eq 12, 3, 23, 0, .null, []), (.iload_n 0, 1, 0, 0, .null, []), (.iload_n 1, 1, 1, 0, .null, []), (.if_icmp .gt 7, 3, 23, 0, .null, []), (.iconst 1, 1, 0, 0, .int 1, []), (.goto 4, 3, 24, 0, .null, [])]
abbrev kb_V_isSpan_23 : List vx_I := [(.iconst 0, 1, 0, 0, .int 0, [])]
abbrev kb_V_isSpan_24 : List vx_I := [(.ireturn, 1, 1, 0, .null, [])]
def tb_V_isSpan : List (Nat × List vx_I) := [(0, kb_V_isSpan_0), (23, kb_V_isSpan_23), (24, kb_V_isSpan_24)]
theorem bk_V_isSpan_0 : vx_bk tb_V_isSpan 0 = kb_V_isSpan_0 := rfl
theorem bk_V_isSpan_23 : vx_bk tb_V_isSpan 23 = kb_V_isSpan_23 := rfl
theorem bk_V_isSpan_24 : vx_bk tb_V_isSpan 24 = kb_V_isSpan_24 := rfl
abbrev m_V_isSpan : Nat := 35
set_option maxRecDepth 100000 in
theorem ck_V_isSpan : vx_ckM prog_1_method_46_code 6 2 1 false (some .boolean) tb_V_isSpan = true := by decide +kernel
theorem ok_V_isSpan {As : List Value} {sz : Nat} {h : vx_H} {P : Option Value → vx_H → Prop} (L0 : vx_L) (hlen : (vx_ar As).length ≤ 2) (hL0 : vx_ar As ++ List.replicate (2 - (vx_ar As).length) none = L0)
    (body : ∀ (lim z : vx_Z) X, vx_cl0 none lim tb_V_isSpan (fun r z' h' => z' = z ∧ P r h') X → X 0 L0 [] z h) : vx_Ok m_V_isSpan As sz h P :=
  vx_ok0 (M := (⟨"VoteWalls", "isSpan", "(II)Z"⟩, prog_1_method_46_code, 2, (some .boolean), 1, 0, 0, 2, 1)) rfl (ow := 6) rfl ck_V_isSpan rfl hlen hL0 body
abbrev kb_V_isSunday_0 : List vx_I := [(.iload_n 0, 1, 0, 0, .null, []), (.ifCond .lt 13, 3, 14, 0, .null, []), (.iload_n 0, 1, 0, 0, .null, []), (.bipush 49, 2, 0, 0, .int 49, []), (.if_icmp .gt 7, 3, 14, 0, .null, []), (.iconst 1, 1, 0, 0, .int 1, []), (.goto 4, 3, 15, 0, .null, [])]
abbrev kb_V_isSunday_14 : List vx_I := [(.iconst 0, 1, 0, 0, .int 0, [])]
abbrev kb_V_isSunday_15 : List vx_I := [(.ireturn, 1, 1, 0, .null, [])]
def tb_V_isSunday : List (Nat × List vx_I) := [(0, kb_V_isSunday_0), (14, kb_V_isSunday_14), (15, kb_V_isSunday_15)]
theorem bk_V_isSunday_0 : vx_bk tb_V_isSunday 0 = kb_V_isSunday_0 := rfl
theorem bk_V_isSunday_14 : vx_bk tb_V_isSunday 14 = kb_V_isSunday_14 := rfl
theorem bk_V_isSunday_15 : vx_bk tb_V_isSunday 15 = kb_V_isSunday_15 := rfl
abbrev m_V_isSunday : Nat := 36
set_option maxRecDepth 100000 in
theorem ck_V_isSunday : vx_ckM prog_1_method_44_code 6 1 0 false (some .boolean) tb_V_isSunday = true := by decide +kernel
theorem ok_V_isSunday {As : List Value} {sz : Nat} {h : vx_H} {P : Option Value → vx_H → Prop} (L0 : vx_L) (hlen : (vx_ar As).length ≤ 1) (hL0 : vx_ar As ++ List.replicate (1 - (vx_ar As).length) none = L0)
    (body : ∀ (lim z : vx_Z) X, vx_cl0 none lim tb_V_isSunday (fun r z' h' => z' = z ∧ P r h') X → X 0 L0 [] z h) : vx_Ok m_V_isSunday As sz h P :=
  vx_ok0 (M := (⟨"VoteWalls", "isSunday", "(I)Z"⟩, prog_1_method_44_code, 1, (some .boolean), 0, 0, 0, 1, 1)) rfl (ow := 6) rfl ck_V_isSunday rfl hlen hL0 body
abbrev kb_V_unlock_0 : List vx_I := [(.aload_n 0, 1, 0, 0, .null, []), (.getfield 29, 3, 6, 2, .null, []), (.iload_n 1, 1, 1, 0, .null, []), (.invokevirtual 125, 3, 39, 1, .null, [(0, 0), (0, 0), (0, 0)]), (.istore_n 2, 1, 2, 0, .null, []), (.aload_n 0, 1, 0, 0, .null, []), (.getfield 42, 3, 6, 5, .null, []), (.aload_n 0, 1, 0, 0, .null, []), (.getfield 29, 3, 6, 2, .null, []), (.aload_n 0, 1, 0, 0, .null, []), (.getfield 33, 3, 6, 3, .null, []), (.invokevirtual 121, 3, 25, 2, .null, []), (.iload_n 2, 1, 2, 0, .null, []), (.ireturn, 1, 0, 0, .null, [])]
def tb_V_unlock : List (Nat × List vx_I) := [(0, kb_V_unlock_0)]
theorem bk_V_unlock_0 : vx_bk tb_V_unlock 0 = kb_V_unlock_0 := rfl
abbrev m_V_unlock : Nat := 38
set_option maxRecDepth 100000 in
theorem ck_V_unlock : vx_ckM prog_1_method_6_code 6 3 3 false (some .int) tb_V_unlock = true := by decide +kernel
theorem ok_V_unlock {As : List Value} {sz : Nat} {h : vx_H} {P : Option Value → vx_H → Prop} (L0 : vx_L) (hlen : (vx_ar As).length ≤ 3) (hL0 : vx_ar As ++ List.replicate (3 - (vx_ar As).length) none = L0)
    (body : ∀ (lim z : vx_Z) X, vx_cl0 none lim tb_V_unlock (fun r z' h' => z' = z ∧ P r h') X → X 0 L0 [] z h) : vx_Ok m_V_unlock As sz h P :=
  vx_ok0 (M := (⟨"VoteWalls", "unlock", "(I)I"⟩, prog_1_method_6_code, 3, (some .int), 3, 0, 0, 1, 0)) rfl (ow := 6) rfl ck_V_unlock rfl hlen hL0 body
abbrev kb_V_strike_0 : List vx_I := [(.aload_n 0, 1, 0, 0, .null, []), (.iload_n 1, 1, 1, 0, .null, []), (.invokevirtual 91, 3, 29, 1, .null, [(0, 0), (0, 0), (0, 0), (0, 0), (0, 0), (0, 0)]), (.ifCond .ne 5, 3, 10, 0, .null, []), (.iconst (-1), 1, 0, 0, .int (-1), []), (.ireturn, 1, 0, 0, .null, [])]
abbrev kb_V_strike_10 : List vx_I := [(.iload_n 2, 1, 2, 0, .null, []), (.iload_n 3, 1, 3, 0, .null, []), (.invokestatic 113, 3, 35, 2, .null, []), (.ifCond .ne 6, 3, 21, 0, .null, []), (.bipush (-2), 2, 0, 0, .int (-2), []), (.ireturn, 1, 0, 0, .null, [])]
abbrev kb_V_strike_21 : List vx_I := [(.aload_n 0, 1, 0, 0, .null, []), (.getfield 33, 3, 6, 3, .null, []), (.iload_n 1, 1, 1, 0, .null, []), (.iload_n 2, 1, 2, 0, .null, []), (.iload_n 3, 1, 3, 0, .null, []), (.invokevirtual 117, 3, 37, 3, .null, [(0, 0), (0, 0), (0, 0)]), (.istore 4, 2, 4, 0, .null, []), (.aload_n 0, 1, 0, 0, .null, []), (.getfield 42, 3, 6, 5, .null, []), (.aload_n 0, 1, 0, 0, .null, []), (.getfield 29, 3, 6, 2, .null, []), (.aload_n 0, 1, 0, 0, .null, []), (.getfield 33, 3, 6, 3, .null, []), (.invokevirtual 121, 3, 25, 2, .null, []), (.iload 4, 2, 4, 0, .null, []), (.ireturn, 1, 0, 0, .null, [])]
def tb_V_strike : List (Nat × List vx_I) := [(0, kb_V_strike_0), (10, kb_V_strike_10), (21, kb_V_strike_21)]
theorem bk_V_strike_0 : vx_bk tb_V_strike 0 = kb_V_strike_0 := rfl
theorem bk_V_strike_10 : vx_bk tb_V_strike 10 = kb_V_strike_10 := rfl
theorem bk_V_strike_21 : vx_bk tb_V_strike 21 = kb_V_strike_21 := rfl
abbrev m_V_strike : Nat := 40
set_option maxRecDepth 100000 in
theorem ck_V_strike : vx_ckM prog_1_method_7_code 6 5 3 false (some .int) tb_V_strike = true := by decide +kernel
theorem ok_V_strike {As : List Value} {sz : Nat} {h : vx_H} {P : Option Value → vx_H → Prop} (L0 : vx_L) (hlen : (vx_ar As).length ≤ 5) (hL0 : vx_ar As ++ List.replicate (5 - (vx_ar As).length) none = L0)
    (body : ∀ (lim z : vx_Z) X, vx_cl0 none lim tb_V_strike (fun r z' h' => z' = z ∧ P r h') X → X 0 L0 [] z h) : vx_Ok m_V_strike As sz h P :=
  vx_ok0 (M := (⟨"VoteWalls", "strike", "(III)I"⟩, prog_1_method_7_code, 5, (some .int), 3, 0, 0, 3, 0)) rfl (ow := 6) rfl ck_V_strike rfl hlen hL0 body
abbrev kb_V_eat_0 : List vx_I := [(.aload_n 0, 1, 0, 0, .null, []), (.getfield 33, 3, 6, 3, .null, []), (.iload_n 1, 1, 1, 0, .null, []), (.invokevirtual 125, 3, 39, 1, .null, [(0, 0), (0, 0), (0, 0)]), (.istore_n 2, 1, 2, 0, .null, []), (.aload_n 0, 1, 0, 0, .null, []), (.getfield 42, 3, 6, 5, .null, []), (.aload_n 0, 1, 0, 0, .null, []), (.getfield 29, 3, 6, 2, .null, []), (.aload_n 0, 1, 0, 0, .null, []), (.getfield 33, 3, 6, 3, .null, []), (.invokevirtual 121, 3, 25, 2, .null, []), (.iload_n 2, 1, 2, 0, .null, []), (.ireturn, 1, 0, 0, .null, [])]
def tb_V_eat : List (Nat × List vx_I) := [(0, kb_V_eat_0)]
theorem bk_V_eat_0 : vx_bk tb_V_eat 0 = kb_V_eat_0 := rfl
abbrev m_V_eat : Nat := 41
set_option maxRecDepth 100000 in
theorem ck_V_eat : vx_ckM prog_1_method_8_code 6 3 3 false (some .int) tb_V_eat = true := by decide +kernel
theorem ok_V_eat {As : List Value} {sz : Nat} {h : vx_H} {P : Option Value → vx_H → Prop} (L0 : vx_L) (hlen : (vx_ar As).length ≤ 3) (hL0 : vx_ar As ++ List.replicate (3 - (vx_ar As).length) none = L0)
    (body : ∀ (lim z : vx_Z) X, vx_cl0 none lim tb_V_eat (fun r z' h' => z' = z ∧ P r h') X → X 0 L0 [] z h) : vx_Ok m_V_eat As sz h P :=
  vx_ok0 (M := (⟨"VoteWalls", "eat", "(I)I"⟩, prog_1_method_8_code, 3, (some .int), 3, 0, 0, 1, 0)) rfl (ow := 6) rfl ck_V_eat rfl hlen hL0 body
abbrev kb_V_gap_0 : List vx_I := [(.aload_n 0, 1, 0, 0, .null, []), (.iload_n 1, 1, 1, 0, .null, []), (.invokevirtual 110, 3, 34, 1, .null, [(0, 0), (0, 0), (0, 0), (0, 0), (0, 0), (0, 0)]), (.ifCond .ne 5, 3, 10, 0, .null, []), (.iconst (-1), 1, 0, 0, .int (-1), []), (.ireturn, 1, 0, 0, .null, [])]
abbrev kb_V_gap_10 : List vx_I := [(.iload_n 2, 1, 2, 0, .null, []), (.invokestatic 128, 3, 43, 1, .null, []), (.ifCond .ne 6, 3, 20, 0, .null, []), (.bipush (-2), 2, 0, 0, .int (-2), []), (.ireturn, 1, 0, 0, .null, [])]
abbrev kb_V_gap_20 : List vx_I := [(.aload_n 0, 1, 0, 0, .null, []), (.iload_n 2, 1, 2, 0, .null, []), (.invokevirtual 131, 3, 44, 1, .null, [(0, 0), (0, 0), (0, 0), (0, 0), (0, 0), (0, 0)]), (.aload_n 0, 1, 0, 0, .null, []), (.getfield 49, 3, 6, 6, .null, []), (.iload_n 1, 1, 1, 0, .null, []), (.iload_n 2, 1, 2, 0, .null, []), (.invokevirtual 134, 3, 54, 2, .null, [(0, 0), (0, 0), (0, 0), (0, 0)]), (.ireturn, 1, 0, 0, .null, [])]
def tb_V_gap : List (Nat × List vx_I) := [(0, kb_V_gap_0), (10, kb_V_gap_10), (20, kb_V_gap_20)]
theorem bk_V_gap_0 : vx_bk tb_V_gap 0 = kb_V_gap_0 := rfl
theorem bk_V_gap_10 : vx_bk tb_V_gap 10 = kb_V_gap_10 := rfl
theorem bk_V_gap_20 : vx_bk tb_V_gap 20 = kb_V_gap_20 := rfl
abbrev m_V_gap : Nat := 42
set_option maxRecDepth 100000 in
theorem ck_V_gap : vx_ckM prog_1_method_9_code 6 3 6 false (some .int) tb_V_gap = true := by decide +kernel
theorem ok_V_gap {As : List Value} {sz : Nat} {h : vx_H} {P : Option Value → vx_H → Prop} (L0 : vx_L) (hlen : (vx_ar As).length ≤ 3) (hL0 : vx_ar As ++ List.replicate (3 - (vx_ar As).length) none = L0)
    (body : ∀ (lim z : vx_Z) X, vx_cl0 none lim tb_V_gap (fun r z' h' => z' = z ∧ P r h') X → X 0 L0 [] z h) : vx_Ok m_V_gap As sz h P :=
  vx_ok0 (M := (⟨"VoteWalls", "gap", "(II)I"⟩, prog_1_method_9_code, 3, (some .int), 6, 0, 0, 2, 0)) rfl (ow := 6) rfl ck_V_gap rfl hlen hL0 body
abbrev kb_V_isSundayOrFirst_0 : List vx_I := [(.iload_n 0, 1, 0, 0, .null, []), (.iconst (-1), 1, 0, 0, .int (-1), []), (.if_icmp .eq 10, 3, 12, 0, .null, []), (.iload_n 0, 1, 0, 0, .null, []), (.invokestatic 169, 3, 36, 1, .null, []), (.ifCond .eq 7, 3, 16, 0, .null, [])]
abbrev kb_V_isSundayOrFirst_12 : List vx_I := [(.iconst 1, 1, 0, 0, .int 1, []), (.goto 4, 3, 17, 0, .null, [])]
abbrev kb_V_isSundayOrFirst_16 : List vx_I := [(.iconst 0, 1, 0, 0, .int 0, [])]
abbrev kb_V_isSundayOrFirst_17 : List vx_I := [(.ireturn, 1, 1, 0, .null, [])]
def tb_V_isSundayOrFirst : List (Nat × List vx_I) := [(0, kb_V_isSundayOrFirst_0), (12, kb_V_isSundayOrFirst_12), (16, kb_V_isSundayOrFirst_16), (17, kb_V_isSundayOrFirst_17)]
theorem bk_V_isSundayOrFirst_0 : vx_bk tb_V_isSundayOrFirst 0 = kb_V_isSundayOrFirst_0 := rfl
theorem bk_V_isSundayOrFirst_12 : vx_bk tb_V_isSundayOrFirst 12 = kb_V_isSundayOrFirst_12 := rfl
theorem bk_V_isSundayOrFirst_16 : vx_bk tb_V_isSundayOrFirst 16 = kb_V_isSundayOrFirst_16 := rfl
theorem bk_V_isSundayOrFirst_17 : vx_bk tb_V_isSundayOrFirst 17 = kb_V_isSundayOrFirst_17 := rfl
abbrev m_V_isSundayOrFirst : Nat := 43
set_option maxRecDepth 100000 in
theorem ck_V_isSundayOrFirst : vx_ckM prog_1_method_45_code 6 1 1 false (some .boolean) tb_V_isSundayOrFirst = true := by decide +kernel
theorem ok_V_isSundayOrFirst {As : List Value} {sz : Nat} {h : vx_H} {P : Option Value → vx_H → Prop} (L0 : vx_L) (hlen : (vx_ar As).length ≤ 1) (hL0 : vx_ar As ++ List.replicate (1 - (vx_ar As).length) none = L0)
    (body : ∀ (lim z : vx_Z) X, vx_cl0 none lim tb_V_isSundayOrFirst (fun r z' h' => z' = z ∧ P r h') X → X 0 L0 [] z h) : vx_Ok m_V_isSundayOrFirst As sz h P :=
  vx_ok0 (M := (⟨"VoteWalls", "isSundayOrFirst", "(I)Z"⟩, prog_1_method_45_code, 1, (some .boolean), 1, 0, 0, 1, 1)) rfl (ow := 6) rfl ck_V_isSundayOrFirst rfl hlen hL0 body
abbrev kb_V_reckonAsItIs_0 : List vx_I := [(.aload_n 0, 1, 0, 0, .null, []), (.iconst 0, 1, 0, 0, .int 0, []), (.iconst 0, 1, 0, 0, .int 0, []), (.iload_n 1, 1, 1, 0, .null, []), (.invokevirtual 162, 3, 45, 3, .null, [(0, 0), (0, 0), (0, 0), (0, 0), (0, 0), (0, 0)]), (.return_, 1, 0, 0, .null, [])]
def tb_V_reckonAsItIs : List (Nat × List vx_I) := [(0, kb_V_reckonAsItIs_0)]
theorem bk_V_reckonAsItIs_0 : vx_bk tb_V_reckonAsItIs 0 = kb_V_reckonAsItIs_0 := rfl
abbrev m_V_reckonAsItIs : Nat := 44
set_option maxRecDepth 100000 in
theorem ck_V_reckonAsItIs : vx_ckM prog_1_method_53_code 6 2 5 false none tb_V_reckonAsItIs = true := by decide +kernel
theorem ok_V_reckonAsItIs {As : List Value} {sz : Nat} {h : vx_H} {P : Option Value → vx_H → Prop} (L0 : vx_L) (hlen : (vx_ar As).length ≤ 2) (hL0 : vx_ar As ++ List.replicate (2 - (vx_ar As).length) none = L0)
    (body : ∀ (lim z : vx_Z) X, vx_cl0 none lim tb_V_reckonAsItIs (fun r z' h' => z' = z ∧ P r h') X → X 0 L0 [] z h) : vx_Ok m_V_reckonAsItIs As sz h P :=
  vx_ok0 (M := (⟨"VoteWalls", "reckonAsItIs", "(I)V"⟩, prog_1_method_53_code, 2, none, 5, 0, 0, 1, 0)) rfl (ow := 6) rfl ck_V_reckonAsItIs rfl hlen hL0 body
abbrev kb_V_reckonWith_0 : List vx_I := [(.aload_n 0, 1, 0, 0, .null, []), (.getfield 49, 3, 6, 6, .null, []), (.aload_n 0, 1, 0, 0, .null, []), (.getfield 56, 3, 6, 7, .null, []), (.aload_n 0, 1, 0, 0, .null, []), (.getfield 42, 3, 6, 5, .null, []), (.aload_n 0, 1, 0, 0, .null, []), (.getfield 63, 3, 6, 9, .null, []), (.iload_n 1, 1, 1, 0, .null, []), (.iload_n 2, 1, 2, 0, .null, []), (.iload_n 3, 1, 3, 0, .null, []), (.invokevirtual 191, 3, 46, 6, .null, [(0, 0), (0, 0), (0, 0), (0, 0)]), (.return_, 1, 0, 0, .null, [])]
def tb_V_reckonWith : List (Nat × List vx_I) := [(0, kb_V_reckonWith_0)]
theorem bk_V_reckonWith_0 : vx_bk tb_V_reckonWith 0 = kb_V_reckonWith_0 := rfl
abbrev m_V_reckonWith : Nat := 45
set_option maxRecDepth 100000 in
theorem ck_V_reckonWith : vx_ckM prog_1_method_54_code 6 4 4 false none tb_V_reckonWith = true := by decide +kernel
theorem ok_V_reckonWith {As : List Value} {sz : Nat} {h : vx_H} {P : Option Value → vx_H → Prop} (L0 : vx_L) (hlen : (vx_ar As).length ≤ 4) (hL0 : vx_ar As ++ List.replicate (4 - (vx_ar As).length) none = L0)
    (body : ∀ (lim z : vx_Z) X, vx_cl0 none lim tb_V_reckonWith (fun r z' h' => z' = z ∧ P r h') X → X 0 L0 [] z h) : vx_Ok m_V_reckonWith As sz h P :=
  vx_ok0 (M := (⟨"VoteWalls", "reckonWith", "(III)V"⟩, prog_1_method_54_code, 4, none, 4, 0, 0, 3, 0)) rfl (ow := 6) rfl ck_V_reckonWith rfl hlen hL0 body
abbrev kb_V_isIn_0 : List vx_I := [(.iload_n 0, 1, 0, 0, .null, []), (.iload_n 1, 1, 1, 0, .null, []), (.ishr, 1, 0, 0, .null, []), (.iconst 1, 1, 0, 0, .int 1, []), (.iand, 1, 0, 0, .null, []), (.ifCond .eq 7, 3, 12, 0, .null, []), (.iconst 1, 1, 0, 0, .int 1, []), (.goto 4, 3, 13, 0, .null, [])]
abbrev kb_V_isIn_12 : List vx_I := [(.iconst 0, 1, 0, 0, .int 0, [])]
abbrev kb_V_isIn_13 : List vx_I := [(.ireturn, 1, 1, 0, .null, [])]
def tb_V_isIn : List (Nat × List vx_I) := [(0, kb_V_isIn_0), (12, kb_V_isIn_12), (13, kb_V_isIn_13)]
theorem bk_V_isIn_0 : vx_bk tb_V_isIn 0 = kb_V_isIn_0 := rfl
theorem bk_V_isIn_12 : vx_bk tb_V_isIn 12 = kb_V_isIn_12 := rfl
theorem bk_V_isIn_13 : vx_bk tb_V_isIn 13 = kb_V_isIn_13 := rfl
abbrev m_V_isIn : Nat := 49
set_option maxRecDepth 100000 in
theorem ck_V_isIn : vx_ckM prog_1_method_47_code 6 2 0 false (some .boolean) tb_V_isIn = true := by decide +kernel
theorem ok_V_isIn {As : List Value} {sz : Nat} {h : vx_H} {P : Option Value → vx_H → Prop} (L0 : vx_L) (hlen : (vx_ar As).length ≤ 2) (hL0 : vx_ar As ++ List.replicate (2 - (vx_ar As).length) none = L0)
    (body : ∀ (lim z : vx_Z) X, vx_cl0 none lim tb_V_isIn (fun r z' h' => z' = z ∧ P r h') X → X 0 L0 [] z h) : vx_Ok m_V_isIn As sz h P :=
  vx_ok0 (M := (⟨"VoteWalls", "isIn", "(II)Z"⟩, prog_1_method_47_code, 2, (some .boolean), 0, 0, 0, 2, 1)) rfl (ow := 6) rfl ck_V_isIn rfl hlen hL0 body
abbrev kb_V_cellOf_0 : List vx_I := [(.aload_n 0, 1, 0, 0, .null, []), (.iload_n 1, 1, 1, 0, .null, []), (.invokevirtual 91, 3, 29, 1, .null, [(0, 0), (0, 0), (0, 0), (0, 0), (0, 0), (0, 0)]), (.ifCond .ne 5, 3, 10, 0, .null, []), (.iconst (-1), 1, 0, 0, .int (-1), []), (.ireturn, 1, 0, 0, .null, [])]
abbrev kb_V_cellOf_10 : List vx_I := [(.iload_n 2, 1, 2, 0, .null, []), (.invokestatic 128, 3, 43, 1, .null, []), (.ifCond .ne 6, 3, 20, 0, .null, []), (.bipush (-2), 2, 0, 0, .int (-2), []), (.ireturn, 1, 0, 0, .null, [])]
abbrev kb_V_cellOf_20 : List vx_I := [(.aload_n 0, 1, 0, 0, .null, []), (.iload_n 2, 1, 2, 0, .null, []), (.invokevirtual 131, 3, 44, 1, .null, [(0, 0), (0, 0), (0, 0), (0, 0), (0, 0), (0, 0)]), (.aload_n 0, 1, 0, 0, .null, []), (.iload_n 1, 1, 1, 0, .null, []), (.iload_n 2, 1, 2, 0, .null, []), (.invokevirtual 138, 3, 56, 2, .null, [(0, 0), (0, 0), (0, 0), (0, 0), (0, 0), (0, 0)]), (.ireturn, 1, 0, 0, .null, [])]
def tb_V_cellOf : List (Nat × List vx_I) := [(0, kb_V_cellOf_0), (10, kb_V_cellOf_10), (20, kb_V_cellOf_20)]
theorem bk_V_cellOf_0 : vx_bk tb_V_cellOf 0 = kb_V_cellOf_0 := rfl
theorem bk_V_cellOf_10 : vx_bk tb_V_cellOf 10 = kb_V_cellOf_10 := rfl
theorem bk_V_cellOf_20 : vx_bk tb_V_cellOf 20 = kb_V_cellOf_20 := rfl
abbrev m_V_cellOf : Nat := 55
set_option maxRecDepth 100000 in
theorem ck_V_cellOf : vx_ckM prog_1_method_10_code 6 3 6 false (some .int) tb_V_cellOf = true := by decide +kernel
theorem ok_V_cellOf {As : List Value} {sz : Nat} {h : vx_H} {P : Option Value → vx_H → Prop} (L0 : vx_L) (hlen : (vx_ar As).length ≤ 3) (hL0 : vx_ar As ++ List.replicate (3 - (vx_ar As).length) none = L0)
    (body : ∀ (lim z : vx_Z) X, vx_cl0 none lim tb_V_cellOf (fun r z' h' => z' = z ∧ P r h') X → X 0 L0 [] z h) : vx_Ok m_V_cellOf As sz h P :=
  vx_ok0 (M := (⟨"VoteWalls", "cellOf", "(II)I"⟩, prog_1_method_10_code, 3, (some .int), 6, 0, 0, 2, 0)) rfl (ow := 6) rfl ck_V_cellOf rfl hlen hL0 body
abbrev kb_V_whereIs_0 : List vx_I := [(.aload_n 0, 1, 0, 0, .null, []), (.getfield 49, 3, 6, 6, .null, []), (.aload_n 0, 1, 0, 0, .null, []), (.getfield 56, 3, 6, 7, .null, []), (.getfield 99, 3, 5, 2, .null, []), (.iload_n 1, 1, 1, 0, .null, []), (.iaload, 1, 0, 0, .null, []), (.iload_n 2, 1, 2, 0, .null, []), (.invokevirtual 251, 3, 57, 2, .null, [(0, 0), (0, 0), (0, 0), (0, 0)]), (.ireturn, 1, 0, 0, .null, [])]
def tb_V_whereIs : List (Nat × List vx_I) := [(0, kb_V_whereIs_0)]
theorem bk_V_whereIs_0 : vx_bk tb_V_whereIs 0 = kb_V_whereIs_0 := rfl
abbrev m_V_whereIs : Nat := 56
set_option maxRecDepth 100000 in
theorem ck_V_whereIs : vx_ckM prog_1_method_55_code 6 3 3 false (some .int) tb_V_whereIs = true := by decide +kernel
theorem ok_V_whereIs {As : List Value} {sz : Nat} {h : vx_H} {P : Option Value → vx_H → Prop} (L0 : vx_L) (hlen : (vx_ar As).length ≤ 3) (hL0 : vx_ar As ++ List.replicate (3 - (vx_ar As).length) none = L0)
    (body : ∀ (lim z : vx_Z) X, vx_cl0 none lim tb_V_whereIs (fun r z' h' => z' = z ∧ P r h') X → X 0 L0 [] z h) : vx_Ok m_V_whereIs As sz h P :=
  vx_ok0 (M := (⟨"VoteWalls", "whereIs", "(II)I"⟩, prog_1_method_55_code, 3, (some .int), 3, 0, 0, 2, 0)) rfl (ow := 6) rfl ck_V_whereIs rfl hlen hL0 body
abbrev kb_V_wide_0 : List vx_I := [(.aload_n 0, 1, 0, 0, .null, []), (.iload_n 1, 1, 1, 0, .null, []), (.invokevirtual 141, 3, 59, 1, .null, [(0, 0), (0, 0), (0, 0), (0, 0), (0, 0), (0, 0)]), (.ifCond .ne 5, 3, 10, 0, .null, []), (.iconst (-1), 1, 0, 0, .int (-1), []), (.ireturn, 1, 0, 0, .null, [])]
abbrev kb_V_wide_10 : List vx_I := [(.iload_n 2, 1, 2, 0, .null, []), (.invokestatic 128, 3, 43, 1, .null, []), (.ifCond .ne 6, 3, 20, 0, .null, []), (.bipush (-2), 2, 0, 0, .int (-2), []), (.ireturn, 1, 0, 0, .null, [])]
abbrev kb_V_wide_20 : List vx_I := [(.aload_n 0, 1, 0, 0, .null, []), (.iload_n 2, 1, 2, 0, .null, []), (.invokevirtual 131, 3, 44, 1, .null, [(0, 0), (0, 0), (0, 0), (0, 0), (0, 0), (0, 0)]), (.aload_n 0, 1, 0, 0, .null, []), (.getfield 49, 3, 6, 6, .null, []), (.iload_n 1, 1, 1, 0, .null, []), (.iload_n 2, 1, 2, 0, .null, []), (.invokevirtual 144, 3, 60, 2, .null, [(0, 0), (0, 0), (0, 0), (0, 0)]), (.ireturn, 1, 0, 0, .null, [])]
def tb_V_wide : List (Nat × List vx_I) := [(0, kb_V_wide_0), (10, kb_V_wide_10), (20, kb_V_wide_20)]
theorem bk_V_wide_0 : vx_bk tb_V_wide 0 = kb_V_wide_0 := rfl
theorem bk_V_wide_10 : vx_bk tb_V_wide 10 = kb_V_wide_10 := rfl
theorem bk_V_wide_20 : vx_bk tb_V_wide 20 = kb_V_wide_20 := rfl
abbrev m_V_wide : Nat := 58
set_option maxRecDepth 100000 in
theorem ck_V_wide : vx_ckM prog_1_method_11_code 6 3 6 false (some .int) tb_V_wide = true := by decide +kernel
theorem ok_V_wide {As : List Value} {sz : Nat} {h : vx_H} {P : Option Value → vx_H → Prop} (L0 : vx_L) (hlen : (vx_ar As).length ≤ 3) (hL0 : vx_ar As ++ List.replicate (3 - (vx_ar As).length) none = L0)
    (body : ∀ (lim z : vx_Z) X, vx_cl0 none lim tb_V_wide (fun r z' h' => z' = z ∧ P r h') X → X 0 L0 [] z h) : vx_Ok m_V_wide As sz h P :=
  vx_ok0 (M := (⟨"VoteWalls", "wide", "(II)I"⟩, prog_1_method_11_code, 3, (some .int), 6, 0, 0, 2, 0)) rfl (ow := 6) rfl ck_V_wide rfl hlen hL0 body
abbrev kb_V_isCell_0 : List vx_I := [(.aload_n 0, 1, 0, 0, .null, []), (.invokevirtual 106, 3, 32, 0, .null, [(0, 0), (0, 0), (0, 0), (0, 0), (0, 0), (0, 0)]), (.ifCond .eq 22, 3, 26, 0, .null, []), (.iload_n 1, 1, 1, 0, .null, []), (.ifCond .lt 18, 3, 26, 0, .null, []), (.iload_n 1, 1, 1, 0, .null, []), (.aload_n 0, 1, 0, 0, .null, []), (.getfield 56, 3, 6, 7, .null, []), (.getfield 156, 3, 5, 4, .null, []), (.if_icmp .gt 7, 3, 26, 0, .null, []), (.iconst 1, 1, 0, 0, .int 1, []), (.goto 4, 3, 27, 0, .null, [])]
abbrev kb_V_isCell_26 : List vx_I := [(.iconst 0, 1, 0, 0, .int 0, [])]
abbrev kb_V_isCell_27 : List vx_I := [(.ireturn, 1, 1, 0, .null, [])]
def tb_V_isCell : List (Nat × List vx_I) := [(0, kb_V_isCell_0), (26, kb_V_isCell_26), (27, kb_V_isCell_27)]
theorem bk_V_isCell_0 : vx_bk tb_V_isCell 0 = kb_V_isCell_0 := rfl
theorem bk_V_isCell_26 : vx_bk tb_V_isCell 26 = kb_V_isCell_26 := rfl
theorem bk_V_isCell_27 : vx_bk tb_V_isCell 27 = kb_V_isCell_27 := rfl
abbrev m_V_isCell : Nat := 59
set_option maxRecDepth 100000 in
theorem ck_V_isCell : vx_ckM prog_1_method_41_code 6 2 1 false (some .boolean) tb_V_isCell = true := by decide +kernel
theorem ok_V_isCell {As : List Value} {sz : Nat} {h : vx_H} {P : Option Value → vx_H → Prop} (L0 : vx_L) (hlen : (vx_ar As).length ≤ 2) (hL0 : vx_ar As ++ List.replicate (2 - (vx_ar As).length) none = L0)
    (body : ∀ (lim z : vx_Z) X, vx_cl0 none lim tb_V_isCell (fun r z' h' => z' = z ∧ P r h') X → X 0 L0 [] z h) : vx_Ok m_V_isCell As sz h P :=
  vx_ok0 (M := (⟨"VoteWalls", "isCell", "(I)Z"⟩, prog_1_method_41_code, 2, (some .boolean), 1, 0, 0, 1, 0)) rfl (ow := 6) rfl ck_V_isCell rfl hlen hL0 body
abbrev kb_V_with_0 : List vx_I := [(.aload_n 0, 1, 0, 0, .null, []), (.iload_n 1, 1, 1, 0, .null, []), (.invokevirtual 91, 3, 29, 1, .null, [(0, 0), (0, 0), (0, 0), (0, 0), (0, 0), (0, 0)]), (.ifCond .ne 5, 3, 10, 0, .null, []), (.iconst (-1), 1, 0, 0, .int (-1), []), (.ireturn, 1, 0, 0, .null, [])]
abbrev kb_V_with_10 : List vx_I := [(.iload_n 2, 1, 2, 0, .null, []), (.invokestatic 128, 3, 43, 1, .null, []), (.ifCond .ne 6, 3, 20, 0, .null, []), (.bipush (-2), 2, 0, 0, .int (-2), []), (.ireturn, 1, 0, 0, .null, [])]
abbrev kb_V_with_20 : List vx_I := [(.aload_n 0, 1, 0, 0, .null, []), (.iload_n 2, 1, 2, 0, .null, []), (.invokevirtual 131, 3, 44, 1, .null, [(0, 0), (0, 0), (0, 0), (0, 0), (0, 0), (0, 0)]), (.aload_n 0, 1, 0, 0, .null, []), (.iconst 1, 1, 0, 0, .int 1, []), (.aload_n 0, 1, 0, 0, .null, []), (.iload_n 1, 1, 1, 0, .null, []), (.iload_n 2, 1, 2, 0, .null, []), (.invokevirtual 138, 3, 56, 2, .null, [(0, 0), (0, 0), (0, 0), (0, 0), (0, 0), (0, 0)]), (.ishl, 1, 0, 0, .null, []), (.iload_n 2, 1, 2, 0, .null, []), (.invokevirtual 147, 3, 62, 2, .null, [(0, 0), (0, 0), (0, 0), (0, 0), (0, 0), (0, 0)]), (.ireturn, 1, 0, 0, .null, [])]
def tb_V_with : List (Nat × List vx_I) := [(0, kb_V_with_0), (10, kb_V_with_10), (20, kb_V_with_20)]
theorem bk_V_with_0 : vx_bk tb_V_with 0 = kb_V_with_0 := rfl
theorem bk_V_with_10 : vx_bk tb_V_with 10 = kb_V_with_10 := rfl
theorem bk_V_with_20 : vx_bk tb_V_with 20 = kb_V_with_20 := rfl
abbrev m_V_with : Nat := 61
set_option maxRecDepth 100000 in
theorem ck_V_with : vx_ckM prog_1_method_12_code 6 3 6 false (some .int) tb_V_with = true := by decide +kernel
theorem ok_V_with {As : List Value} {sz : Nat} {h : vx_H} {P : Option Value → vx_H → Prop} (L0 : vx_L) (hlen : (vx_ar As).length ≤ 3) (hL0 : vx_ar As ++ List.replicate (3 - (vx_ar As).length) none = L0)
    (body : ∀ (lim z : vx_Z) X, vx_cl0 none lim tb_V_with (fun r z' h' => z' = z ∧ P r h') X → X 0 L0 [] z h) : vx_Ok m_V_with As sz h P :=
  vx_ok0 (M := (⟨"VoteWalls", "with", "(II)I"⟩, prog_1_method_12_code, 3, (some .int), 6, 0, 0, 2, 0)) rfl (ow := 6) rfl ck_V_with rfl hlen hL0 body
abbrev kb_V_thoseInCells_0 : List vx_I := [(.iconst 0, 1, 0, 0, .int 0, []), (.istore_n 3, 1, 3, 0, .null, []), (.iconst 0, 1, 0, 0, .int 0, []), (.istore 4, 2, 4, 0, .null, [])]
abbrev kb_V_thoseInCells_5 : List vx_I := [(.iload 4, 2, 4, 0, .null, []), (.aload_n 0, 1, 0, 0, .null, []), (.getfield 56, 3, 6, 7, .null, []), (.getfield 88, 3, 5, 5, .null, []), (.if_icmp .ge 30, 3, 44, 0, .null, []), (.iload_n 1, 1, 1, 0, .null, []), (.aload_n 0, 1, 0, 0, .null, []), (.iload 4, 2, 4, 0, .null, []), (.iload_n 2, 1, 2, 0, .null, []), (.invokevirtual 138, 3, 56, 2, .null, [(0, 0), (0, 0), (0, 0), (0, 0), (0, 0), (0, 0)]), (.invokestatic 178, 3, 49, 2, .null, []), (.ifCond .eq 10, 3, 38, 0, .null, []), (.iload_n 3, 1, 3, 0, .null, []), (.iconst 1, 1, 0, 0, .int 1, []), (.iload 4, 2, 4, 0, .null, []), (.ishl, 1, 0, 0, .null, []), (.ior, 1, 0, 0, .null, []), (.istore_n 3, 1, 3, 0, .null, [])]
abbrev kb_V_thoseInCells_38 : List vx_I := [(.iinc 4 1, 3, 4, 0, .int 1, []), (.goto (-36), 3, 5, 0, .null, [])]
abbrev kb_V_thoseInCells_44 : List vx_I := [(.iload_n 3, 1, 3, 0, .null, []), (.ireturn, 1, 0, 0, .null, [])]
def tb_V_thoseInCells : List (Nat × List vx_I) := [(0, kb_V_thoseInCells_0), (5, kb_V_thoseInCells_5), (38, kb_V_thoseInCells_38), (44, kb_V_thoseInCells_44)]
theorem bk_V_thoseInCells_0 : vx_bk tb_V_thoseInCells 0 = kb_V_thoseInCells_0 := rfl
theorem bk_V_thoseInCells_5 : vx_bk tb_V_thoseInCells 5 = kb_V_thoseInCells_5 := rfl
theorem bk_V_thoseInCells_38 : vx_bk tb_V_thoseInCells 38 = kb_V_thoseInCells_38 := rfl
theorem bk_V_thoseInCells_44 : vx_bk tb_V_thoseInCells 44 = kb_V_thoseInCells_44 := rfl
abbrev m_V_thoseInCells : Nat := 62
set_option maxRecDepth 100000 in
theorem ck_V_thoseInCells : vx_ckM prog_1_method_57_code 6 5 4 false (some .int) tb_V_thoseInCells = true := by decide +kernel
theorem ok_V_thoseInCells {As : List Value} {sz : Nat} {h : vx_H} {P : Option Value → vx_H → Prop} (L0 : vx_L) (hlen : (vx_ar As).length ≤ 5) (hL0 : vx_ar As ++ List.replicate (5 - (vx_ar As).length) none = L0)
    (body : ∀ (lim z : vx_Z) X, vx_cl0 none lim tb_V_thoseInCells (fun r z' h' => z' = z ∧ P r h') X → X 0 L0 [] z h) : vx_Ok m_V_thoseInCells As sz h P :=
  vx_ok0 (M := (⟨"VoteWalls", "thoseInCells", "(II)I"⟩, prog_1_method_57_code, 5, (some .int), 4, 0, 0, 2, 0)) rfl (ow := 6) rfl ck_V_thoseInCells rfl hlen hL0 body
abbrev kb_V_meet_0 : List vx_I := [(.aload_n 0, 1, 0, 0, .null, []), (.iload_n 1, 1, 1, 0, .null, []), (.invokevirtual 91, 3, 29, 1, .null, [(0, 0), (0, 0), (0, 0), (0, 0), (0, 0), (0, 0)]), (.ifCond .eq 11, 3, 16, 0, .null, []), (.aload_n 0, 1, 0, 0, .null, []), (.iload_n 2, 1, 2, 0, .null, []), (.invokevirtual 91, 3, 29, 1, .null, [(0, 0), (0, 0), (0, 0), (0, 0), (0, 0), (0, 0)]), (.ifCond .ne 5, 3, 18, 0, .null, [])]
abbrev kb_V_meet_16 : List vx_I := [(.iconst (-1), 1, 0, 0, .int (-1), []), (.ireturn, 1, 0, 0, .null, [])]
abbrev kb_V_meet_18 : List vx_I := [(.aload_n 0, 1, 0, 0, .null, []), (.bipush 49, 2, 0, 0, .int 49, []), (.invokevirtual 131, 3, 44, 1, .null, [(0, 0), (0, 0), (0, 0), (0, 0), (0, 0), (0, 0)]), (.aload_n 0, 1, 0, 0, .null, []), (.iload_n 1, 1, 1, 0, .null, []), (.iload_n 2, 1, 2, 0, .null, []), (.invokevirtual 150, 3, 64, 2, .null, [(0, 0), (0, 0), (0, 0), (0, 0), (0, 0), (0, 0)]), (.ireturn, 1, 0, 0, .null, [])]
def tb_V_meet : List (Nat × List vx_I) := [(0, kb_V_meet_0), (16, kb_V_meet_16), (18, kb_V_meet_18)]
theorem bk_V_meet_0 : vx_bk tb_V_meet 0 = kb_V_meet_0 := rfl
theorem bk_V_meet_16 : vx_bk tb_V_meet 16 = kb_V_meet_16 := rfl
theorem bk_V_meet_18 : vx_bk tb_V_meet 18 = kb_V_meet_18 := rfl
abbrev m_V_meet : Nat := 63
set_option maxRecDepth 100000 in
theorem ck_V_meet : vx_ckM prog_1_method_13_code 6 3 6 false (some .int) tb_V_meet = true := by decide +kernel
theorem ok_V_meet {As : List Value} {sz : Nat} {h : vx_H} {P : Option Value → vx_H → Prop} (L0 : vx_L) (hlen : (vx_ar As).length ≤ 3) (hL0 : vx_ar As ++ List.replicate (3 - (vx_ar As).length) none = L0)
    (body : ∀ (lim z : vx_Z) X, vx_cl0 none lim tb_V_meet (fun r z' h' => z' = z ∧ P r h') X → X 0 L0 [] z h) : vx_Ok m_V_meet As sz h P :=
  vx_ok0 (M := (⟨"VoteWalls", "meet", "(II)I"⟩, prog_1_method_13_code, 3, (some .int), 6, 0, 0, 2, 0)) rfl (ow := 6) rfl ck_V_meet rfl hlen hL0 body
abbrev kb_V_firstTogether_0 : List vx_I := [(.iconst 0, 1, 0, 0, .int 0, []), (.istore_n 3, 1, 3, 0, .null, [])]
abbrev kb_V_firstTogether_2 : List vx_I := [(.iload_n 3, 1, 3, 0, .null, []), (.aload_n 0, 1, 0, 0, .null, []), (.getfield 49, 3, 6, 6, .null, []), (.getfield 254, 3, 4, 5, .null, []), (.if_icmp .gt 26, 3, 36, 0, .null, []), (.aload_n 0, 1, 0, 0, .null, []), (.iload_n 1, 1, 1, 0, .null, []), (.iload_n 3, 1, 3, 0, .null, []), (.invokevirtual 138, 3, 56, 2, .null, [(0, 0), (0, 0), (0, 0), (0, 0), (0, 0), (0, 0)]), (.aload_n 0, 1, 0, 0, .null, []), (.iload_n 2, 1, 2, 0, .null, []), (.iload_n 3, 1, 3, 0, .null, []), (.invokevirtual 138, 3, 56, 2, .null, [(0, 0), (0, 0), (0, 0), (0, 0), (0, 0), (0, 0)]), (.if_icmp .ne 5, 3, 30, 0, .null, []), (.iload_n 3, 1, 3, 0, .null, []), (.ireturn, 1, 0, 0, .null, [])]
abbrev kb_V_firstTogether_30 : List vx_I := [(.iinc 3 1, 3, 3, 0, .int 1, []), (.goto (-31), 3, 2, 0, .null, [])]
abbrev kb_V_firstTogether_36 : List vx_I := [(.bipush (-9), 2, 0, 0, .int (-9), []), (.ireturn, 1, 0, 0, .null, [])]
def tb_V_firstTogether : List (Nat × List vx_I) := [(0, kb_V_firstTogether_0), (2, kb_V_firstTogether_2), (30, kb_V_firstTogether_30), (36, kb_V_firstTogether_36)]
theorem bk_V_firstTogether_0 : vx_bk tb_V_firstTogether 0 = kb_V_firstTogether_0 := rfl
theorem bk_V_firstTogether_2 : vx_bk tb_V_firstTogether 2 = kb_V_firstTogether_2 := rfl
theorem bk_V_firstTogether_30 : vx_bk tb_V_firstTogether 30 = kb_V_firstTogether_30 := rfl
theorem bk_V_firstTogether_36 : vx_bk tb_V_firstTogether 36 = kb_V_firstTogether_36 := rfl
abbrev m_V_firstTogether : Nat := 64
set_option maxRecDepth 100000 in
theorem ck_V_firstTogether : vx_ckM prog_1_method_56_code 6 4 4 false (some .int) tb_V_firstTogether = true := by decide +kernel
theorem ok_V_firstTogether {As : List Value} {sz : Nat} {h : vx_H} {P : Option Value → vx_H → Prop} (L0 : vx_L) (hlen : (vx_ar As).length ≤ 4) (hL0 : vx_ar As ++ List.replicate (4 - (vx_ar As).length) none = L0)
    (body : ∀ (lim z : vx_Z) X, vx_cl0 none lim tb_V_firstTogether (fun r z' h' => z' = z ∧ P r h') X → X 0 L0 [] z h) : vx_Ok m_V_firstTogether As sz h P :=
  vx_ok0 (M := (⟨"VoteWalls", "firstTogether", "(II)I"⟩, prog_1_method_56_code, 4, (some .int), 4, 0, 0, 2, 0)) rfl (ow := 6) rfl ck_V_firstTogether rfl hlen hL0 body
abbrev kb_V_rests_0 : List vx_I := [(.aload_n 0, 1, 0, 0, .null, []), (.invokevirtual 106, 3, 32, 0, .null, [(0, 0), (0, 0), (0, 0), (0, 0), (0, 0), (0, 0)]), (.ifCond .ne 6, 3, 10, 0, .null, []), (.bipush (-3), 2, 0, 0, .int (-3), []), (.ireturn, 1, 0, 0, .null, [])]
abbrev kb_V_rests_10 : List vx_I := [(.aload_n 0, 1, 0, 0, .null, []), (.bipush 49, 2, 0, 0, .int 49, []), (.invokevirtual 131, 3, 44, 1, .null, [(0, 0), (0, 0), (0, 0), (0, 0), (0, 0), (0, 0)]), (.aload_n 0, 1, 0, 0, .null, []), (.getfield 49, 3, 6, 6, .null, []), (.getfield 153, 3, 4, 6, .null, []), (.bipush 49, 2, 0, 0, .int 49, []), (.if_icmp .ne 8, 3, 33, 0, .null, []), (.bipush (-9), 2, 0, 0, .int (-9), []), (.goto 12, 3, 42, 0, .null, [])]
abbrev kb_V_rests_33 : List vx_I := [(.aload_n 0, 1, 0, 0, .null, []), (.getfield 49, 3, 6, 6, .null, []), (.getfield 153, 3, 4, 6, .null, []), (.iconst 1, 1, 0, 0, .int 1, []), (.iadd, 1, 0, 0, .null, [])]
abbrev kb_V_rests_42 : List vx_I := [(.ireturn, 1, 0, 0, .null, [])]
def tb_V_rests : List (Nat × List vx_I) := [(0, kb_V_rests_0), (10, kb_V_rests_10), (33, kb_V_rests_33), (42, kb_V_rests_42)]
theorem bk_V_rests_0 : vx_bk tb_V_rests 0 = kb_V_rests_0 := rfl
theorem bk_V_rests_10 : vx_bk tb_V_rests 10 = kb_V_rests_10 := rfl
theorem bk_V_rests_33 : vx_bk tb_V_rests 33 = kb_V_rests_33 := rfl
theorem bk_V_rests_42 : vx_bk tb_V_rests 42 = kb_V_rests_42 := rfl
abbrev m_V_rests : Nat := 65
set_option maxRecDepth 100000 in
theorem ck_V_rests : vx_ckM prog_1_method_14_code 6 1 6 false (some .int) tb_V_rests = true := by decide +kernel
theorem ok_V_rests {As : List Value} {sz : Nat} {h : vx_H} {P : Option Value → vx_H → Prop} (L0 : vx_L) (hlen : (vx_ar As).length ≤ 1) (hL0 : vx_ar As ++ List.replicate (1 - (vx_ar As).length) none = L0)
    (body : ∀ (lim z : vx_Z) X, vx_cl0 none lim tb_V_rests (fun r z' h' => z' = z ∧ P r h') X → X 0 L0 [] z h) : vx_Ok m_V_rests As sz h P :=
  vx_ok0 (M := (⟨"VoteWalls", "rests", "()I"⟩, prog_1_method_14_code, 1, (some .int), 6, 0, 0, 0, 0)) rfl (ow := 6) rfl ck_V_rests rfl hlen hL0 body
abbrev kb_V_apart_0 : List vx_I := [(.aload_n 0, 1, 0, 0, .null, []), (.iload_n 1, 1, 1, 0, .null, []), (.invokevirtual 91, 3, 29, 1, .null, [(0, 0), (0, 0), (0, 0), (0, 0), (0, 0), (0, 0)]), (.ifCond .eq 16, 3, 21, 0, .null, []), (.aload_n 0, 1, 0, 0, .null, []), (.iload_n 2, 1, 2, 0, .null, []), (.invokevirtual 91, 3, 29, 1, .null, [(0, 0), (0, 0), (0, 0), (0, 0), (0, 0), (0, 0)]), (.ifCond .eq 8, 3, 21, 0, .null, []), (.iload_n 1, 1, 1, 0, .null, []), (.iload_n 2, 1, 2, 0, .null, []), (.if_icmp .ne 5, 3, 23, 0, .null, [])]
abbrev kb_V_apart_21 : List vx_I := [(.iconst (-1), 1, 0, 0, .int (-1), []), (.ireturn, 1, 0, 0, .null, [])]
abbrev kb_V_apart_23 : List vx_I := [(.bipush (-9), 2, 0, 0, .int (-9), []), (.istore_n 3, 1, 3, 0, .null, []), (.iconst 1, 1, 0, 0, .int 1, []), (.aload_n 0, 1, 0, 0, .null, []), (.getfield 56, 3, 6, 7, .null, []), (.getfield 156, 3, 5, 4, .null, []), (.ishl, 1, 0, 0, .null, []), (.istore 4, 2, 4, 0, .null, []), (.iconst 0, 1, 0, 0, .int 0, []), (.istore 5, 2, 5, 0, .null, [])]
abbrev kb_V_apart_40 : List vx_I := [(.iload 5, 2, 5, 0, .null, []), (.iload 4, 2, 4, 0, .null, []), (.if_icmp .ge 41, 3, 85, 0, .null, []), (.iload 5, 2, 5, 0, .null, []), (.iload_n 3, 1, 3, 0, .null, []), (.invokestatic 159, 3, 67, 2, .null, []), (.ifCond .eq 26, 3, 79, 0, .null, []), (.aload_n 0, 1, 0, 0, .null, []), (.iload 5, 2, 5, 0, .null, []), (.iconst 0, 1, 0, 0, .int 0, []), (.bipush 49, 2, 0, 0, .int 49, []), (.invokevirtual 162, 3, 45, 3, .null, [(0, 0), (0, 0), (0, 0), (0, 0), (0, 0), (0, 0)]), (.aload_n 0, 1, 0, 0, .null, []), (.iload_n 1, 1, 1, 0, .null, []), (.iload_n 2, 1, 2, 0, .null, []), (.invokevirtual 150, 3, 64, 2, .null, [(0, 0), (0, 0), (0, 0), (0, 0), (0, 0), (0, 0)]), (.bipush (-9), 2, 0, 0, .int (-9), []), (.if_icmp .ne 6, 3, 79, 0, .null, []), (.iload 5, 2, 5, 0, .null, []), (.istore_n 3, 1, 3, 0, .null, [])]
abbrev kb_V_apart_79 : List vx_I := [(.iinc 5 1, 3, 5, 0, .int 1, []), (.goto (-42), 3, 40, 0, .null, [])]
abbrev kb_V_apart_85 : List vx_I := [(.iload_n 3, 1, 3, 0, .null, []), (.ireturn, 1, 0, 0, .null, [])]
def tb_V_apart : List (Nat × List vx_I) := [(0, kb_V_apart_0), (21, kb_V_apart_21), (23, kb_V_apart_23), (40, kb_V_apart_40), (79, kb_V_apart_79), (85, kb_V_apart_85)]
theorem bk_V_apart_0 : vx_bk tb_V_apart 0 = kb_V_apart_0 := rfl
theorem bk_V_apart_21 : vx_bk tb_V_apart 21 = kb_V_apart_21 := rfl
theorem bk_V_apart_23 : vx_bk tb_V_apart 23 = kb_V_apart_23 := rfl
theorem bk_V_apart_40 : vx_bk tb_V_apart 40 = kb_V_apart_40 := rfl
theorem bk_V_apart_79 : vx_bk tb_V_apart 79 = kb_V_apart_79 := rfl
theorem bk_V_apart_85 : vx_bk tb_V_apart 85 = kb_V_apart_85 := rfl
abbrev m_V_apart : Nat := 66
set_option maxRecDepth 100000 in
theorem ck_V_apart : vx_ckM prog_1_method_15_code 6 6 5 false (some .int) tb_V_apart = true := by decide +kernel
theorem ok_V_apart {As : List Value} {sz : Nat} {h : vx_H} {P : Option Value → vx_H → Prop} (L0 : vx_L) (hlen : (vx_ar As).length ≤ 6) (hL0 : vx_ar As ++ List.replicate (6 - (vx_ar As).length) none = L0)
    (body : ∀ (lim z : vx_Z) X, vx_cl0 none lim tb_V_apart (fun r z' h' => z' = z ∧ P r h') X → X 0 L0 [] z h) : vx_Ok m_V_apart As sz h P :=
  vx_ok0 (M := (⟨"VoteWalls", "apart", "(II)I"⟩, prog_1_method_15_code, 6, (some .int), 5, 0, 0, 2, 0)) rfl (ow := 6) rfl ck_V_apart rfl hlen hL0 body
abbrev kb_V_isFewer_0 : List vx_I := [(.iload_n 1, 1, 1, 0, .null, []), (.bipush (-9), 2, 0, 0, .int (-9), []), (.if_icmp .eq 14, 3, 17, 0, .null, []), (.iload_n 0, 1, 0, 0, .null, []), (.invokestatic 246, 3, 68, 1, .null, []), (.iload_n 1, 1, 1, 0, .null, []), (.invokestatic 246, 3, 68, 1, .null, []), (.if_icmp .ge 7, 3, 21, 0, .null, [])]
abbrev kb_V_isFewer_17 : List vx_I := [(.iconst 1, 1, 0, 0, .int 1, []), (.goto 4, 3, 22, 0, .null, [])]
abbrev kb_V_isFewer_21 : List vx_I := [(.iconst 0, 1, 0, 0, .int 0, [])]
abbrev kb_V_isFewer_22 : List vx_I := [(.ireturn, 1, 1, 0, .null, [])]
def tb_V_isFewer : List (Nat × List vx_I) := [(0, kb_V_isFewer_0), (17, kb_V_isFewer_17), (21, kb_V_isFewer_21), (22, kb_V_isFewer_22)]
theorem bk_V_isFewer_0 : vx_bk tb_V_isFewer 0 = kb_V_isFewer_0 := rfl
theorem bk_V_isFewer_17 : vx_bk tb_V_isFewer 17 = kb_V_isFewer_17 := rfl
theorem bk_V_isFewer_21 : vx_bk tb_V_isFewer 21 = kb_V_isFewer_21 := rfl
theorem bk_V_isFewer_22 : vx_bk tb_V_isFewer 22 = kb_V_isFewer_22 := rfl
abbrev m_V_isFewer : Nat := 67
set_option maxRecDepth 100000 in
theorem ck_V_isFewer : vx_ckM prog_1_method_48_code 6 2 1 false (some .boolean) tb_V_isFewer = true := by decide +kernel
theorem ok_V_isFewer {As : List Value} {sz : Nat} {h : vx_H} {P : Option Value → vx_H → Prop} (L0 : vx_L) (hlen : (vx_ar As).length ≤ 2) (hL0 : vx_ar As ++ List.replicate (2 - (vx_ar As).length) none = L0)
    (body : ∀ (lim z : vx_Z) X, vx_cl0 none lim tb_V_isFewer (fun r z' h' => z' = z ∧ P r h') X → X 0 L0 [] z h) : vx_Ok m_V_isFewer As sz h P :=
  vx_ok0 (M := (⟨"VoteWalls", "isFewer", "(II)Z"⟩, prog_1_method_48_code, 2, (some .boolean), 1, 0, 0, 2, 1)) rfl (ow := 6) rfl ck_V_isFewer rfl hlen hL0 body
abbrev kb_V_joined_0 : List vx_I := [(.aload_n 0, 1, 0, 0, .null, []), (.iload_n 1, 1, 1, 0, .null, []), (.invokevirtual 91, 3, 29, 1, .null, [(0, 0), (0, 0), (0, 0), (0, 0), (0, 0), (0, 0)]), (.ifCond .eq 16, 3, 21, 0, .null, []), (.aload_n 0, 1, 0, 0, .null, []), (.iload_n 2, 1, 2, 0, .null, []), (.invokevirtual 91, 3, 29, 1, .null, [(0, 0), (0, 0), (0, 0), (0, 0), (0, 0), (0, 0)]), (.ifCond .eq 8, 3, 21, 0, .null, []), (.iload_n 1, 1, 1, 0, .null, []), (.iload_n 2, 1, 2, 0, .null, []), (.if_icmp .ne 5, 3, 23, 0, .null, [])]
abbrev kb_V_joined_21 : List vx_I := [(.iconst (-1), 1, 0, 0, .int (-1), []), (.ireturn, 1, 0, 0, .null, [])]
abbrev kb_V_joined_23 : List vx_I := [(.iconst 1, 1, 0, 0, .int 1, []), (.aload_n 0, 1, 0, 0, .null, []), (.getfield 56, 3, 6, 7, .null, []), (.getfield 156, 3, 5, 4, .null, []), (.ishl, 1, 0, 0, .null, []), (.istore_n 3, 1, 3, 0, .null, []), (.iconst 0, 1, 0, 0, .int 0, []), (.istore 4, 2, 4, 0, .null, [])]
abbrev kb_V_joined_36 : List vx_I := [(.iload 4, 2, 4, 0, .null, []), (.iload_n 3, 1, 3, 0, .null, []), (.if_icmp .ge 31, 3, 70, 0, .null, []), (.aload_n 0, 1, 0, 0, .null, []), (.iload 4, 2, 4, 0, .null, []), (.iconst 0, 1, 0, 0, .int 0, []), (.bipush 49, 2, 0, 0, .int 49, []), (.invokevirtual 162, 3, 45, 3, .null, [(0, 0), (0, 0), (0, 0), (0, 0), (0, 0), (0, 0)]), (.aload_n 0, 1, 0, 0, .null, []), (.iload_n 1, 1, 1, 0, .null, []), (.iload_n 2, 1, 2, 0, .null, []), (.invokevirtual 150, 3, 64, 2, .null, [(0, 0), (0, 0), (0, 0), (0, 0), (0, 0), (0, 0)]), (.bipush (-9), 2, 0, 0, .int (-9), []), (.if_icmp .eq 5, 3, 64, 0, .null, []), (.iconst 1, 1, 0, 0, .int 1, []), (.ireturn, 1, 0, 0, .null, [])]
abbrev kb_V_joined_64 : List vx_I := [(.iinc 4 1, 3, 4, 0, .int 1, []), (.goto (-31), 3, 36, 0, .null, [])]
abbrev kb_V_joined_70 : List vx_I := [(.iconst 0, 1, 0, 0, .int 0, []), (.ireturn, 1, 0, 0, .null, [])]
def tb_V_joined : List (Nat × List vx_I) := [(0, kb_V_joined_0), (21, kb_V_joined_21), (23, kb_V_joined_23), (36, kb_V_joined_36), (64, kb_V_joined_64), (70, kb_V_joined_70)]
theorem bk_V_joined_0 : vx_bk tb_V_joined 0 = kb_V_joined_0 := rfl
theorem bk_V_joined_21 : vx_bk tb_V_joined 21 = kb_V_joined_21 := rfl
theorem bk_V_joined_23 : vx_bk tb_V_joined 23 = kb_V_joined_23 := rfl
theorem bk_V_joined_36 : vx_bk tb_V_joined 36 = kb_V_joined_36 := rfl
theorem bk_V_joined_64 : vx_bk tb_V_joined 64 = kb_V_joined_64 := rfl
theorem bk_V_joined_70 : vx_bk tb_V_joined 70 = kb_V_joined_70 := rfl
abbrev m_V_joined : Nat := 69
set_option maxRecDepth 100000 in
theorem ck_V_joined : vx_ckM prog_1_method_16_code 6 5 5 false (some .int) tb_V_joined = true := by decide +kernel
theorem ok_V_joined {As : List Value} {sz : Nat} {h : vx_H} {P : Option Value → vx_H → Prop} (L0 : vx_L) (hlen : (vx_ar As).length ≤ 5) (hL0 : vx_ar As ++ List.replicate (5 - (vx_ar As).length) none = L0)
    (body : ∀ (lim z : vx_Z) X, vx_cl0 none lim tb_V_joined (fun r z' h' => z' = z ∧ P r h') X → X 0 L0 [] z h) : vx_Ok m_V_joined As sz h P :=
  vx_ok0 (M := (⟨"VoteWalls", "joined", "(II)I"⟩, prog_1_method_16_code, 5, (some .int), 5, 0, 0, 2, 0)) rfl (ow := 6) rfl ck_V_joined rfl hlen hL0 body
abbrev kb_V_pushed_0 : List vx_I := [(.aload_n 0, 1, 0, 0, .null, []), (.iload_n 1, 1, 1, 0, .null, []), (.invokevirtual 110, 3, 34, 1, .null, [(0, 0), (0, 0), (0, 0), (0, 0), (0, 0), (0, 0)]), (.ifCond .ne 5, 3, 10, 0, .null, []), (.iconst (-1), 1, 0, 0, .int (-1), []), (.ireturn, 1, 0, 0, .null, [])]
abbrev kb_V_pushed_10 : List vx_I := [(.iload_n 2, 1, 2, 0, .null, []), (.iconst 1, 1, 0, 0, .int 1, []), (.if_icmp .lt 21, 3, 33, 0, .null, []), (.iload_n 2, 1, 2, 0, .null, []), (.aload_n 0, 1, 0, 0, .null, []), (.getfield 56, 3, 6, 7, .null, []), (.getfield 166, 3, 5, 3, .null, []), (.if_icmp .ge 10, 3, 33, 0, .null, []), (.iload_n 3, 1, 3, 0, .null, []), (.invokestatic 169, 3, 36, 1, .null, []), (.ifCond .ne 6, 3, 36, 0, .null, [])]
abbrev kb_V_pushed_33 : List vx_I := [(.bipush (-2), 2, 0, 0, .int (-2), []), (.ireturn, 1, 0, 0, .null, [])]
abbrev kb_V_pushed_36 : List vx_I := [(.bipush (-9), 2, 0, 0, .int (-9), []), (.istore 4, 2, 4, 0, .null, []), (.iconst 1, 1, 0, 0, .int 1, []), (.aload_n 0, 1, 0, 0, .null, []), (.getfield 56, 3, 6, 7, .null, []), (.getfield 88, 3, 5, 5, .null, []), (.ishl, 1, 0, 0, .null, []), (.istore 5, 2, 5, 0, .null, []), (.iconst 0, 1, 0, 0, .int 0, []), (.istore 6, 2, 6, 0, .null, [])]
abbrev kb_V_pushed_54 : List vx_I := [(.iload 6, 2, 6, 0, .null, []), (.iload 5, 2, 5, 0, .null, []), (.if_icmp .ge 44, 3, 102, 0, .null, []), (.iload 6, 2, 6, 0, .null, []), (.iload 4, 2, 4, 0, .null, []), (.invokestatic 159, 3, 67, 2, .null, []), (.ifCond .eq 28, 3, 96, 0, .null, []), (.aload_n 0, 1, 0, 0, .null, []), (.iconst 0, 1, 0, 0, .int 0, []), (.iload 6, 2, 6, 0, .null, []), (.iload_n 3, 1, 3, 0, .null, []), (.invokevirtual 162, 3, 45, 3, .null, [(0, 0), (0, 0), (0, 0), (0, 0), (0, 0), (0, 0)]), (.aload_n 0, 1, 0, 0, .null, []), (.getfield 49, 3, 6, 6, .null, []), (.iload_n 1, 1, 1, 0, .null, []), (.iload_n 3, 1, 3, 0, .null, []), (.invokevirtual 134, 3, 54, 2, .null, [(0, 0), (0, 0), (0, 0), (0, 0)]), (.iload_n 2, 1, 2, 0, .null, []), (.if_icmp .ne 7, 3, 96, 0, .null, []), (.iload 6, 2, 6, 0, .null, []), (.istore 4, 2, 4, 0, .null, [])]
abbrev kb_V_pushed_96 : List vx_I := [(.iinc 6 1, 3, 6, 0, .int 1, []), (.goto (-45), 3, 54, 0, .null, [])]
abbrev kb_V_pushed_102 : List vx_I := [(.iload 4, 2, 4, 0, .null, []), (.ireturn, 1, 0, 0, .null, [])]
def tb_V_pushed : List (Nat × List vx_I) := [(0, kb_V_pushed_0), (10, kb_V_pushed_10), (33, kb_V_pushed_33), (36, kb_V_pushed_36), (54, kb_V_pushed_54), (96, kb_V_pushed_96), (102, kb_V_pushed_102)]
theorem bk_V_pushed_0 : vx_bk tb_V_pushed 0 = kb_V_pushed_0 := rfl
theorem bk_V_pushed_10 : vx_bk tb_V_pushed 10 = kb_V_pushed_10 := rfl
theorem bk_V_pushed_33 : vx_bk tb_V_pushed 33 = kb_V_pushed_33 := rfl
theorem bk_V_pushed_36 : vx_bk tb_V_pushed 36 = kb_V_pushed_36 := rfl
theorem bk_V_pushed_54 : vx_bk tb_V_pushed 54 = kb_V_pushed_54 := rfl
theorem bk_V_pushed_96 : vx_bk tb_V_pushed 96 = kb_V_pushed_96 := rfl
theorem bk_V_pushed_102 : vx_bk tb_V_pushed 102 = kb_V_pushed_102 := rfl
abbrev m_V_pushed : Nat := 70
set_option maxRecDepth 100000 in
theorem ck_V_pushed : vx_ckM prog_1_method_17_code 6 7 5 false (some .int) tb_V_pushed = true := by decide +kernel
theorem ok_V_pushed {As : List Value} {sz : Nat} {h : vx_H} {P : Option Value → vx_H → Prop} (L0 : vx_L) (hlen : (vx_ar As).length ≤ 7) (hL0 : vx_ar As ++ List.replicate (7 - (vx_ar As).length) none = L0)
    (body : ∀ (lim z : vx_Z) X, vx_cl0 none lim tb_V_pushed (fun r z' h' => z' = z ∧ P r h') X → X 0 L0 [] z h) : vx_Ok m_V_pushed As sz h P :=
  vx_ok0 (M := (⟨"VoteWalls", "pushed", "(III)I"⟩, prog_1_method_17_code, 7, (some .int), 5, 0, 0, 3, 0)) rfl (ow := 6) rfl ck_V_pushed rfl hlen hL0 body
abbrev kb_V_game_0 : List vx_I := [(.iload_n 1, 1, 1, 0, .null, []), (.ifCond .eq 11, 3, 12, 0, .null, []), (.iload_n 1, 1, 1, 0, .null, []), (.iconst 1, 1, 0, 0, .int 1, []), (.if_icmp .eq 6, 3, 12, 0, .null, []), (.bipush (-2), 2, 0, 0, .int (-2), []), (.ireturn, 1, 0, 0, .null, [])]
abbrev kb_V_game_12 : List vx_I := [(.aload_n 0, 1, 0, 0, .null, []), (.invokevirtual 106, 3, 32, 0, .null, [(0, 0), (0, 0), (0, 0), (0, 0), (0, 0), (0, 0)]), (.ifCond .ne 6, 3, 22, 0, .null, []), (.bipush (-3), 2, 0, 0, .int (-3), []), (.ireturn, 1, 0, 0, .null, [])]
abbrev kb_V_game_22 : List vx_I := [(.iconst 0, 1, 0, 0, .int 0, []), (.istore_n 2, 1, 2, 0, .null, []), (.aload_n 0, 1, 0, 0, .null, []), (.iconst 0, 1, 0, 0, .int 0, []), (.invokevirtual 172, 3, 72, 1, .null, [(0, 0), (0, 0), (0, 0), (0, 0), (0, 0), (0, 0)]), (.istore_n 3, 1, 3, 0, .null, []), (.iconst 1, 1, 0, 0, .int 1, []), (.istore 4, 2, 4, 0, .null, [])]
abbrev kb_V_game_33 : List vx_I := [(.iload 4, 2, 4, 0, .null, []), (.aload_n 0, 1, 0, 0, .null, []), (.getfield 56, 3, 6, 7, .null, []), (.getfield 156, 3, 5, 4, .null, []), (.if_icmp .ge 29, 3, 71, 0, .null, []), (.aload_n 0, 1, 0, 0, .null, []), (.iload 4, 2, 4, 0, .null, []), (.invokevirtual 172, 3, 72, 1, .null, [(0, 0), (0, 0), (0, 0), (0, 0), (0, 0), (0, 0)]), (.istore 5, 2, 5, 0, .null, []), (.iload 5, 2, 5, 0, .null, []), (.iload_n 3, 1, 3, 0, .null, []), (.if_icmp .ge 9, 3, 65, 0, .null, []), (.iload 5, 2, 5, 0, .null, []), (.istore_n 3, 1, 3, 0, .null, []), (.iload 4, 2, 4, 0, .null, []), (.istore_n 2, 1, 2, 0, .null, [])]
abbrev kb_V_game_65 : List vx_I := [(.iinc 4 1, 3, 4, 0, .int 1, []), (.goto (-35), 3, 33, 0, .null, [])]
abbrev kb_V_game_71 : List vx_I := [(.iload_n 1, 1, 1, 0, .null, []), (.ifCond .ne 7, 3, 79, 0, .null, []), (.iload_n 3, 1, 3, 0, .null, []), (.goto 4, 3, 80, 0, .null, [])]
abbrev kb_V_game_79 : List vx_I := [(.iload_n 2, 1, 2, 0, .null, [])]
abbrev kb_V_game_80 : List vx_I := [(.ireturn, 1, 0, 0, .null, [])]
def tb_V_game : List (Nat × List vx_I) := [(0, kb_V_game_0), (12, kb_V_game_12), (22, kb_V_game_22), (33, kb_V_game_33), (65, kb_V_game_65), (71, kb_V_game_71), (79, kb_V_game_79), (80, kb_V_game_80)]
theorem bk_V_game_0 : vx_bk tb_V_game 0 = kb_V_game_0 := rfl
theorem bk_V_game_12 : vx_bk tb_V_game 12 = kb_V_game_12 := rfl
theorem bk_V_game_22 : vx_bk tb_V_game 22 = kb_V_game_22 := rfl
theorem bk_V_game_33 : vx_bk tb_V_game 33 = kb_V_game_33 := rfl
theorem bk_V_game_65 : vx_bk tb_V_game 65 = kb_V_game_65 := rfl
theorem bk_V_game_71 : vx_bk tb_V_game 71 = kb_V_game_71 := rfl
theorem bk_V_game_79 : vx_bk tb_V_game 79 = kb_V_game_79 := rfl
theorem bk_V_game_80 : vx_bk tb_V_game 80 = kb_V_game_80 := rfl
abbrev m_V_game : Nat := 71
set_option maxRecDepth 100000 in
theorem ck_V_game : vx_ckM prog_1_method_18_code 6 6 6 false (some .int) tb_V_game = true := by decide +kernel
theorem ok_V_game {As : List Value} {sz : Nat} {h : vx_H} {P : Option Value → vx_H → Prop} (L0 : vx_L) (hlen : (vx_ar As).length ≤ 6) (hL0 : vx_ar As ++ List.replicate (6 - (vx_ar As).length) none = L0)
    (body : ∀ (lim z : vx_Z) X, vx_cl0 none lim tb_V_game (fun r z' h' => z' = z ∧ P r h') X → X 0 L0 [] z h) : vx_Ok m_V_game As sz h P :=
  vx_ok0 (M := (⟨"VoteWalls", "game", "(I)I"⟩, prog_1_method_18_code, 6, (some .int), 6, 0, 0, 1, 0)) rfl (ow := 6) rfl ck_V_game rfl hlen hL0 body
abbrev kb_V_widestBehind_0 : List vx_I := [(.iconst 0, 1, 0, 0, .int 0, []), (.istore_n 2, 1, 2, 0, .null, []), (.iconst 0, 1, 0, 0, .int 0, []), (.istore_n 3, 1, 3, 0, .null, [])]
abbrev kb_V_widestBehind_4 : List vx_I := [(.iload_n 3, 1, 3, 0, .null, []), (.aload_n 0, 1, 0, 0, .null, []), (.getfield 56, 3, 6, 7, .null, []), (.getfield 88, 3, 5, 5, .null, []), (.if_icmp .ge 36, 3, 48, 0, .null, []), (.aload_n 0, 1, 0, 0, .null, []), (.iconst 1, 1, 0, 0, .int 1, []), (.iload_n 1, 1, 1, 0, .null, []), (.ishl, 1, 0, 0, .null, []), (.iconst 1, 1, 0, 0, .int 1, []), (.iload_n 3, 1, 3, 0, .null, []), (.ishl, 1, 0, 0, .null, []), (.bipush 49, 2, 0, 0, .int 49, []), (.invokevirtual 162, 3, 45, 3, .null, [(0, 0), (0, 0), (0, 0), (0, 0), (0, 0), (0, 0)]), (.iload_n 2, 1, 2, 0, .null, []), (.aload_n 0, 1, 0, 0, .null, []), (.getfield 49, 3, 6, 6, .null, []), (.iconst 0, 1, 0, 0, .int 0, []), (.bipush 49, 2, 0, 0, .int 49, []), (.invokevirtual 144, 3, 60, 2, .null, [(0, 0), (0, 0), (0, 0), (0, 0)]), (.invokestatic 257, 3, 0, 0, .float 0, []), (.istore_n 2, 1, 2, 0, .null, []), (.iinc 3 1, 3, 3, 0, .int 1, []), (.goto (-41), 3, 4, 0, .null, [])]
abbrev kb_V_widestBehind_48 : List vx_I := [(.iload_n 2, 1, 2, 0, .null, []), (.ireturn, 1, 0, 0, .null, [])]
def tb_V_widestBehind : List (Nat × List vx_I) := [(0, kb_V_widestBehind_0), (4, kb_V_widestBehind_4), (48, kb_V_widestBehind_48)]
theorem bk_V_widestBehind_0 : vx_bk tb_V_widestBehind 0 = kb_V_widestBehind_0 := rfl
theorem bk_V_widestBehind_4 : vx_bk tb_V_widestBehind 4 = kb_V_widestBehind_4 := rfl
theorem bk_V_widestBehind_48 : vx_bk tb_V_widestBehind 48 = kb_V_widestBehind_48 := rfl
abbrev m_V_widestBehind : Nat := 72
set_option maxRecDepth 100000 in
theorem ck_V_widestBehind : vx_ckM prog_1_method_59_code 6 4 5 false (some .int) tb_V_widestBehind = true := by decide +kernel
theorem ok_V_widestBehind {As : List Value} {sz : Nat} {h : vx_H} {P : Option Value → vx_H → Prop} (L0 : vx_L) (hlen : (vx_ar As).length ≤ 4) (hL0 : vx_ar As ++ List.replicate (4 - (vx_ar As).length) none = L0)
    (body : ∀ (lim z : vx_Z) X, vx_cl0 none lim tb_V_widestBehind (fun r z' h' => z' = z ∧ P r h') X → X 0 L0 [] z h) : vx_Ok m_V_widestBehind As sz h P :=
  vx_ok0 (M := (⟨"VoteWalls", "widestBehind", "(I)I"⟩, prog_1_method_59_code, 4, (some .int), 5, 0, 0, 1, 0)) rfl (ow := 6) rfl ck_V_widestBehind rfl hlen hL0 body
abbrev kb_V_knocks_0 : List vx_I := [(.aload_n 0, 1, 0, 0, .null, []), (.iload_n 1, 1, 1, 0, .null, []), (.invokevirtual 91, 3, 29, 1, .null, [(0, 0), (0, 0), (0, 0), (0, 0), (0, 0), (0, 0)]), (.ifCond .eq 11, 3, 16, 0, .null, []), (.aload_n 0, 1, 0, 0, .null, []), (.iload_n 3, 1, 3, 0, .null, []), (.invokevirtual 91, 3, 29, 1, .null, [(0, 0), (0, 0), (0, 0), (0, 0), (0, 0), (0, 0)]), (.ifCond .ne 5, 3, 18, 0, .null, [])]
abbrev kb_V_knocks_16 : List vx_I := [(.iconst (-1), 1, 0, 0, .int (-1), []), (.ireturn, 1, 0, 0, .null, [])]
abbrev kb_V_knocks_18 : List vx_I := [(.iload_n 2, 1, 2, 0, .null, []), (.invokestatic 169, 3, 36, 1, .null, []), (.ifCond .ne 6, 3, 28, 0, .null, []), (.bipush (-2), 2, 0, 0, .int (-2), []), (.ireturn, 1, 0, 0, .null, [])]
abbrev kb_V_knocks_28 : List vx_I := [(.aload_n 0, 1, 0, 0, .null, []), (.bipush 49, 2, 0, 0, .int 49, []), (.invokevirtual 131, 3, 44, 1, .null, [(0, 0), (0, 0), (0, 0), (0, 0), (0, 0), (0, 0)]), (.iconst 1, 1, 0, 0, .int 1, []), (.iload_n 1, 1, 1, 0, .null, []), (.ishl, 1, 0, 0, .null, []), (.istore 4, 2, 4, 0, .null, []), (.iload_n 2, 1, 2, 0, .null, []), (.istore 5, 2, 5, 0, .null, [])]
abbrev kb_V_knocks_42 : List vx_I := [(.iload 5, 2, 5, 0, .null, []), (.bipush 49, 2, 0, 0, .int 49, []), (.if_icmp .gt 37, 3, 83, 0, .null, []), (.aload_n 0, 1, 0, 0, .null, []), (.aload_n 0, 1, 0, 0, .null, []), (.iload 4, 2, 4, 0, .null, []), (.iload 5, 2, 5, 0, .null, []), (.invokevirtual 175, 3, 74, 2, .null, [(0, 0), (0, 0), (0, 0), (0, 0), (0, 0), (0, 0)]), (.iload 5, 2, 5, 0, .null, []), (.invokevirtual 147, 3, 62, 2, .null, [(0, 0), (0, 0), (0, 0), (0, 0), (0, 0), (0, 0)]), (.istore 4, 2, 4, 0, .null, []), (.iload 4, 2, 4, 0, .null, []), (.iload_n 3, 1, 3, 0, .null, []), (.invokestatic 178, 3, 49, 2, .null, []), (.ifCond .eq 6, 3, 77, 0, .null, []), (.iload 5, 2, 5, 0, .null, []), (.ireturn, 1, 0, 0, .null, [])]
abbrev kb_V_knocks_77 : List vx_I := [(.iinc 5 1, 3, 5, 0, .int 1, []), (.goto (-38), 3, 42, 0, .null, [])]
abbrev kb_V_knocks_83 : List vx_I := [(.bipush (-9), 2, 0, 0, .int (-9), []), (.ireturn, 1, 0, 0, .null, [])]
def tb_V_knocks : List (Nat × List vx_I) := [(0, kb_V_knocks_0), (16, kb_V_knocks_16), (18, kb_V_knocks_18), (28, kb_V_knocks_28), (42, kb_V_knocks_42), (77, kb_V_knocks_77), (83, kb_V_knocks_83)]
theorem bk_V_knocks_0 : vx_bk tb_V_knocks 0 = kb_V_knocks_0 := rfl
theorem bk_V_knocks_16 : vx_bk tb_V_knocks 16 = kb_V_knocks_16 := rfl
theorem bk_V_knocks_18 : vx_bk tb_V_knocks 18 = kb_V_knocks_18 := rfl
theorem bk_V_knocks_28 : vx_bk tb_V_knocks 28 = kb_V_knocks_28 := rfl
theorem bk_V_knocks_42 : vx_bk tb_V_knocks 42 = kb_V_knocks_42 := rfl
theorem bk_V_knocks_77 : vx_bk tb_V_knocks 77 = kb_V_knocks_77 := rfl
theorem bk_V_knocks_83 : vx_bk tb_V_knocks 83 = kb_V_knocks_83 := rfl
abbrev m_V_knocks : Nat := 73
set_option maxRecDepth 100000 in
theorem ck_V_knocks : vx_ckM prog_1_method_19_code 6 6 6 false (some .int) tb_V_knocks = true := by decide +kernel
theorem ok_V_knocks {As : List Value} {sz : Nat} {h : vx_H} {P : Option Value → vx_H → Prop} (L0 : vx_L) (hlen : (vx_ar As).length ≤ 6) (hL0 : vx_ar As ++ List.replicate (6 - (vx_ar As).length) none = L0)
    (body : ∀ (lim z : vx_Z) X, vx_cl0 none lim tb_V_knocks (fun r z' h' => z' = z ∧ P r h') X → X 0 L0 [] z h) : vx_Ok m_V_knocks As sz h P :=
  vx_ok0 (M := (⟨"VoteWalls", "knocks", "(III)I"⟩, prog_1_method_19_code, 6, (some .int), 6, 0, 0, 3, 0)) rfl (ow := 6) rfl ck_V_knocks rfl hlen hL0 body
abbrev kb_V_cellsNear_0 : List vx_I := [(.iconst 0, 1, 0, 0, .int 0, []), (.istore_n 3, 1, 3, 0, .null, []), (.iconst 0, 1, 0, 0, .int 0, []), (.istore 4, 2, 4, 0, .null, [])]
abbrev kb_V_cellsNear_5 : List vx_I := [(.iload 4, 2, 4, 0, .null, []), (.aload_n 0, 1, 0, 0, .null, []), (.getfield 56, 3, 6, 7, .null, []), (.getfield 88, 3, 5, 5, .null, []), (.if_icmp .ge 44, 3, 58, 0, .null, []), (.iload_n 1, 1, 1, 0, .null, []), (.iload 4, 2, 4, 0, .null, []), (.invokestatic 178, 3, 49, 2, .null, []), (.ifCond .eq 29, 3, 52, 0, .null, []), (.iconst 1, 1, 0, 0, .int 1, []), (.aload_n 0, 1, 0, 0, .null, []), (.iload 4, 2, 4, 0, .null, []), (.iload_n 2, 1, 2, 0, .null, []), (.invokevirtual 138, 3, 56, 2, .null, [(0, 0), (0, 0), (0, 0), (0, 0), (0, 0), (0, 0)]), (.ishl, 1, 0, 0, .null, []), (.istore 5, 2, 5, 0, .null, []), (.iload_n 3, 1, 3, 0, .null, []), (.iload 5, 2, 5, 0, .null, []), (.iload 5, 2, 5, 0, .null, []), (.iconst 1, 1, 0, 0, .int 1, []), (.ishl, 1, 0, 0, .null, []), (.ior, 1, 0, 0, .null, []), (.iload 5, 2, 5, 0, .null, []), (.iconst 1, 1, 0, 0, .int 1, []), (.ishr, 1, 0, 0, .null, []), (.ior, 1, 0, 0, .null, []), (.ior, 1, 0, 0, .null, []), (.istore_n 3, 1, 3, 0, .null, [])]
abbrev kb_V_cellsNear_52 : List vx_I := [(.iinc 4 1, 3, 4, 0, .int 1, []), (.goto (-50), 3, 5, 0, .null, [])]
abbrev kb_V_cellsNear_58 : List vx_I := [(.iload_n 3, 1, 3, 0, .null, []), (.ireturn, 1, 0, 0, .null, [])]
def tb_V_cellsNear : List (Nat × List vx_I) := [(0, kb_V_cellsNear_0), (5, kb_V_cellsNear_5), (52, kb_V_cellsNear_52), (58, kb_V_cellsNear_58)]
theorem bk_V_cellsNear_0 : vx_bk tb_V_cellsNear 0 = kb_V_cellsNear_0 := rfl
theorem bk_V_cellsNear_5 : vx_bk tb_V_cellsNear 5 = kb_V_cellsNear_5 := rfl
theorem bk_V_cellsNear_52 : vx_bk tb_V_cellsNear 52 = kb_V_cellsNear_52 := rfl
theorem bk_V_cellsNear_58 : vx_bk tb_V_cellsNear 58 = kb_V_cellsNear_58 := rfl
abbrev m_V_cellsNear : Nat := 74
set_option maxRecDepth 100000 in
theorem ck_V_cellsNear : vx_ckM prog_1_method_58_code 6 6 4 false (some .int) tb_V_cellsNear = true := by decide +kernel
theorem ok_V_cellsNear {As : List Value} {sz : Nat} {h : vx_H} {P : Option Value → vx_H → Prop} (L0 : vx_L) (hlen : (vx_ar As).length ≤ 6) (hL0 : vx_ar As ++ List.replicate (6 - (vx_ar As).length) none = L0)
    (body : ∀ (lim z : vx_Z) X, vx_cl0 none lim tb_V_cellsNear (fun r z' h' => z' = z ∧ P r h') X → X 0 L0 [] z h) : vx_Ok m_V_cellsNear As sz h P :=
  vx_ok0 (M := (⟨"VoteWalls", "cellsNear", "(II)I"⟩, prog_1_method_58_code, 6, (some .int), 4, 0, 0, 2, 0)) rfl (ow := 6) rfl ck_V_cellsNear rfl hlen hL0 body
abbrev kb_V_walk_0 : List vx_I := [(.aload_n 0, 1, 0, 0, .null, []), (.iload_n 1, 1, 1, 0, .null, []), (.iload_n 2, 1, 2, 0, .null, []), (.iload_n 3, 1, 3, 0, .null, []), (.iload 4, 2, 4, 0, .null, []), (.invokevirtual 74, 3, 8, 4, .null, [(0, 0), (0, 0), (0, 0), (0, 0), (0, 0), (0, 0)]), (.istore 5, 2, 5, 0, .null, []), (.iload 5, 2, 5, 0, .null, []), (.ifCond .eq 6, 3, 19, 0, .null, []), (.iload 5, 2, 5, 0, .null, []), (.ireturn, 1, 0, 0, .null, [])]
abbrev kb_V_walk_19 : List vx_I := [(.aload_n 0, 1, 0, 0, .null, []), (.invokevirtual 106, 3, 32, 0, .null, [(0, 0), (0, 0), (0, 0), (0, 0), (0, 0), (0, 0)]), (.ifCond .ne 6, 3, 29, 0, .null, []), (.bipush (-3), 2, 0, 0, .int (-3), []), (.ireturn, 1, 0, 0, .null, [])]
abbrev kb_V_walk_29 : List vx_I := [(.iload 4, 2, 4, 0, .null, []), (.bipush 50, 2, 0, 0, .int 50, []), (.if_icmp .le 6, 3, 39, 0, .null, []), (.bipush (-2), 2, 0, 0, .int (-2), []), (.ireturn, 1, 0, 0, .null, [])]
abbrev kb_V_walk_39 : List vx_I := [(.iconst 0, 1, 0, 0, .int 0, []), (.istore 6, 2, 6, 0, .null, [])]
abbrev kb_V_walk_42 : List vx_I := [(.iload 6, 2, 6, 0, .null, []), (.iload 4, 2, 4, 0, .null, []), (.if_icmp .ge 31, 3, 77, 0, .null, []), (.aload_n 0, 1, 0, 0, .null, []), (.aload_n 0, 1, 0, 0, .null, []), (.getfield 13, 3, 6, 0, .null, []), (.iload_n 1, 1, 1, 0, .null, []), (.aaload, 1, 0, 0, .null, []), (.iload_n 3, 1, 3, 0, .null, []), (.iload 6, 2, 6, 0, .null, []), (.iadd, 1, 0, 0, .null, []), (.invokevirtual 181, 3, 18, 1, .null, [(0, 0)]), (.invokevirtual 141, 3, 59, 1, .null, [(0, 0), (0, 0), (0, 0), (0, 0), (0, 0), (0, 0)]), (.ifCond .ne 5, 3, 71, 0, .null, []), (.iconst (-1), 1, 0, 0, .int (-1), []), (.ireturn, 1, 0, 0, .null, [])]
abbrev kb_V_walk_71 : List vx_I := [(.iinc 6 1, 3, 6, 0, .int 1, []), (.goto (-32), 3, 42, 0, .null, [])]
abbrev kb_V_walk_77 : List vx_I := [(.aload_n 0, 1, 0, 0, .null, []), (.aload_n 0, 1, 0, 0, .null, []), (.getfield 13, 3, 6, 0, .null, []), (.iload_n 1, 1, 1, 0, .null, []), (.aaload, 1, 0, 0, .null, []), (.iload_n 3, 1, 3, 0, .null, []), (.iload 4, 2, 4, 0, .null, []), (.invokevirtual 184, 3, 76, 3, .null, [(0, 0), (0, 0), (0, 0), (0, 0), (0, 0), (0, 0)]), (.ireturn, 1, 0, 0, .null, [])]
def tb_V_walk : List (Nat × List vx_I) := [(0, kb_V_walk_0), (19, kb_V_walk_19), (29, kb_V_walk_29), (39, kb_V_walk_39), (42, kb_V_walk_42), (71, kb_V_walk_71), (77, kb_V_walk_77)]
theorem bk_V_walk_0 : vx_bk tb_V_walk 0 = kb_V_walk_0 := rfl
theorem bk_V_walk_19 : vx_bk tb_V_walk 19 = kb_V_walk_19 := rfl
theorem bk_V_walk_29 : vx_bk tb_V_walk 29 = kb_V_walk_29 := rfl
theorem bk_V_walk_39 : vx_bk tb_V_walk 39 = kb_V_walk_39 := rfl
theorem bk_V_walk_42 : vx_bk tb_V_walk 42 = kb_V_walk_42 := rfl
theorem bk_V_walk_71 : vx_bk tb_V_walk 71 = kb_V_walk_71 := rfl
theorem bk_V_walk_77 : vx_bk tb_V_walk 77 = kb_V_walk_77 := rfl
abbrev m_V_walk : Nat := 75
set_option maxRecDepth 100000 in
theorem ck_V_walk : vx_ckM prog_1_method_20_code 6 7 7 false (some .int) tb_V_walk = true := by decide +kernel
theorem ok_V_walk {As : List Value} {sz : Nat} {h : vx_H} {P : Option Value → vx_H → Prop} (L0 : vx_L) (hlen : (vx_ar As).length ≤ 7) (hL0 : vx_ar As ++ List.replicate (7 - (vx_ar As).length) none = L0)
    (body : ∀ (lim z : vx_Z) X, vx_cl0 none lim tb_V_walk (fun r z' h' => z' = z ∧ P r h') X → X 0 L0 [] z h) : vx_Ok m_V_walk As sz h P :=
  vx_ok0 (M := (⟨"VoteWalls", "walk", "(IIII)I"⟩, prog_1_method_20_code, 7, (some .int), 7, 0, 0, 4, 0)) rfl (ow := 6) rfl ck_V_walk rfl hlen hL0 body
abbrev kb_V_stepsOfWalk_0 : List vx_I := [(.aload_n 0, 1, 0, 0, .null, []), (.bipush 49, 2, 0, 0, .int 49, []), (.invokevirtual 131, 3, 44, 1, .null, [(0, 0), (0, 0), (0, 0), (0, 0), (0, 0), (0, 0)]), (.iconst 0, 1, 0, 0, .int 0, []), (.istore 4, 2, 4, 0, .null, []), (.iconst 0, 1, 0, 0, .int 0, []), (.istore 5, 2, 5, 0, .null, [])]
abbrev kb_V_stepsOfWalk_12 : List vx_I := [(.iload 5, 2, 5, 0, .null, []), (.iload_n 3, 1, 3, 0, .null, []), (.if_icmp .ge 66, 3, 81, 0, .null, []), (.aload_n 1, 1, 1, 0, .null, []), (.iload_n 2, 1, 2, 0, .null, []), (.iload 5, 2, 5, 0, .null, []), (.iadd, 1, 0, 0, .null, []), (.invokevirtual 181, 3, 18, 1, .null, [(0, 0)]), (.istore 6, 2, 6, 0, .null, []), (.iload 5, 2, 5, 0, .null, []), (.ifCond .ne 7, 3, 37, 0, .null, []), (.iconst 0, 1, 0, 0, .int 0, []), (.goto 4, 3, 38, 0, .null, [])]
abbrev kb_V_stepsOfWalk_37 : List vx_I := [(.iconst 1, 1, 0, 0, .int 1, [])]
abbrev kb_V_stepsOfWalk_38 : List vx_I := [(.istore 7, 2, 7, 0, .null, []), (.iload 6, 2, 6, 0, .null, []), (.iload 4, 2, 4, 0, .null, []), (.isub, 1, 0, 0, .null, []), (.invokestatic 262, 3, 0, 0, .double 0, []), (.iload 7, 2, 7, 0, .null, []), (.if_icmp .gt 18, 3, 68, 0, .null, []), (.aload_n 0, 1, 0, 0, .null, []), (.getfield 49, 3, 6, 6, .null, []), (.iload 6, 2, 6, 0, .null, []), (.iload 5, 2, 5, 0, .null, []), (.invokevirtual 144, 3, 60, 2, .null, [(0, 0), (0, 0), (0, 0), (0, 0)]), (.iconst 2, 1, 0, 0, .int 2, []), (.if_icmp .ge 6, 3, 71, 0, .null, [])]
abbrev kb_V_stepsOfWalk_68 : List vx_I := [(.iload 5, 2, 5, 0, .null, []), (.ireturn, 1, 0, 0, .null, [])]
abbrev kb_V_stepsOfWalk_71 : List vx_I := [(.iload 6, 2, 6, 0, .null, []), (.istore 4, 2, 4, 0, .null, []), (.iinc 5 1, 3, 5, 0, .int 1, []), (.goto (-66), 3, 12, 0, .null, [])]
abbrev kb_V_stepsOfWalk_81 : List vx_I := [(.iload_n 3, 1, 3, 0, .null, []), (.ireturn, 1, 0, 0, .null, [])]
def tb_V_stepsOfWalk : List (Nat × List vx_I) := [(0, kb_V_stepsOfWalk_0), (12, kb_V_stepsOfWalk_12), (37, kb_V_stepsOfWalk_37), (38, kb_V_stepsOfWalk_38), (68, kb_V_stepsOfWalk_68), (71, kb_V_stepsOfWalk_71), (81, kb_V_stepsOfWalk_81)]
theorem bk_V_stepsOfWalk_0 : vx_bk tb_V_stepsOfWalk 0 = kb_V_stepsOfWalk_0 := rfl
theorem bk_V_stepsOfWalk_12 : vx_bk tb_V_stepsOfWalk 12 = kb_V_stepsOfWalk_12 := rfl
theorem bk_V_stepsOfWalk_37 : vx_bk tb_V_stepsOfWalk 37 = kb_V_stepsOfWalk_37 := rfl
theorem bk_V_stepsOfWalk_38 : vx_bk tb_V_stepsOfWalk 38 = kb_V_stepsOfWalk_38 := rfl
theorem bk_V_stepsOfWalk_68 : vx_bk tb_V_stepsOfWalk 68 = kb_V_stepsOfWalk_68 := rfl
theorem bk_V_stepsOfWalk_71 : vx_bk tb_V_stepsOfWalk 71 = kb_V_stepsOfWalk_71 := rfl
theorem bk_V_stepsOfWalk_81 : vx_bk tb_V_stepsOfWalk 81 = kb_V_stepsOfWalk_81 := rfl
abbrev m_V_stepsOfWalk : Nat := 76
set_option maxRecDepth 100000 in
theorem ck_V_stepsOfWalk : vx_ckM prog_1_method_60_code 6 8 6 false (some .int) tb_V_stepsOfWalk = true := by decide +kernel
theorem ok_V_stepsOfWalk {As : List Value} {sz : Nat} {h : vx_H} {P : Option Value → vx_H → Prop} (L0 : vx_L) (hlen : (vx_ar As).length ≤ 8) (hL0 : vx_ar As ++ List.replicate (8 - (vx_ar As).length) none = L0)
    (body : ∀ (lim z : vx_Z) X, vx_cl0 none lim tb_V_stepsOfWalk (fun r z' h' => z' = z ∧ P r h') X → X 0 L0 [] z h) : vx_Ok m_V_stepsOfWalk As sz h P :=
  vx_ok0 (M := (⟨"VoteWalls", "stepsOfWalk", "(LVoteWalls$Sheet;II)I"⟩, prog_1_method_60_code, 8, (some .int), 6, 0, 0, 3, 0)) rfl (ow := 6) rfl ck_V_stepsOfWalk rfl hlen hL0 body
abbrev kb_V_reading_0 : List vx_I := [(.aload_n 0, 1, 0, 0, .null, []), (.iload_n 1, 1, 1, 0, .null, []), (.invokevirtual 110, 3, 34, 1, .null, [(0, 0), (0, 0), (0, 0), (0, 0), (0, 0), (0, 0)]), (.ifCond .ne 5, 3, 10, 0, .null, []), (.iconst (-1), 1, 0, 0, .int (-1), []), (.ireturn, 1, 0, 0, .null, [])]
abbrev kb_V_reading_10 : List vx_I := [(.iload_n 2, 1, 2, 0, .null, []), (.invokestatic 169, 3, 36, 1, .null, []), (.ifCond .eq 13, 3, 27, 0, .null, []), (.iload_n 3, 1, 3, 0, .null, []), (.ifCond .lt 9, 3, 27, 0, .null, []), (.iload_n 3, 1, 3, 0, .null, []), (.bipush 30, 2, 0, 0, .int 30, []), (.if_icmp .le 6, 3, 30, 0, .null, [])]
abbrev kb_V_reading_27 : List vx_I := [(.bipush (-2), 2, 0, 0, .int (-2), []), (.ireturn, 1, 0, 0, .null, [])]
abbrev kb_V_reading_30 : List vx_I := [(.aload_n 0, 1, 0, 0, .null, []), (.getfield 36, 3, 6, 4, .null, []), (.iload_n 1, 1, 1, 0, .null, []), (.iload_n 2, 1, 2, 0, .null, []), (.iload_n 3, 1, 3, 0, .null, []), (.invokevirtual 117, 3, 37, 3, .null, [(0, 0), (0, 0), (0, 0)]), (.ireturn, 1, 0, 0, .null, [])]
def tb_V_reading : List (Nat × List vx_I) := [(0, kb_V_reading_0), (10, kb_V_reading_10), (27, kb_V_reading_27), (30, kb_V_reading_30)]
theorem bk_V_reading_0 : vx_bk tb_V_reading 0 = kb_V_reading_0 := rfl
theorem bk_V_reading_10 : vx_bk tb_V_reading 10 = kb_V_reading_10 := rfl
theorem bk_V_reading_27 : vx_bk tb_V_reading 27 = kb_V_reading_27 := rfl
theorem bk_V_reading_30 : vx_bk tb_V_reading 30 = kb_V_reading_30 := rfl
abbrev m_V_reading : Nat := 77
set_option maxRecDepth 100000 in
theorem ck_V_reading : vx_ckM prog_1_method_21_code 6 4 1 false (some .int) tb_V_reading = true := by decide +kernel
theorem ok_V_reading {As : List Value} {sz : Nat} {h : vx_H} {P : Option Value → vx_H → Prop} (L0 : vx_L) (hlen : (vx_ar As).length ≤ 4) (hL0 : vx_ar As ++ List.replicate (4 - (vx_ar As).length) none = L0)
    (body : ∀ (lim z : vx_Z) X, vx_cl0 none lim tb_V_reading (fun r z' h' => z' = z ∧ P r h') X → X 0 L0 [] z h) : vx_Ok m_V_reading As sz h P :=
  vx_ok0 (M := (⟨"VoteWalls", "reading", "(III)I"⟩, prog_1_method_21_code, 4, (some .int), 1, 0, 0, 3, 0)) rfl (ow := 6) rfl ck_V_reading rfl hlen hL0 body
abbrev kb_V_back_0 : List vx_I := [(.aload_n 0, 1, 0, 0, .null, []), (.getfield 36, 3, 6, 4, .null, []), (.iload_n 1, 1, 1, 0, .null, []), (.invokevirtual 125, 3, 39, 1, .null, [(0, 0), (0, 0), (0, 0)]), (.ireturn, 1, 0, 0, .null, [])]
def tb_V_back : List (Nat × List vx_I) := [(0, kb_V_back_0)]
theorem bk_V_back_0 : vx_bk tb_V_back 0 = kb_V_back_0 := rfl
abbrev m_V_back : Nat := 78
set_option maxRecDepth 100000 in
theorem ck_V_back : vx_ckM prog_1_method_22_code 6 2 1 false (some .int) tb_V_back = true := by decide +kernel
theorem ok_V_back {As : List Value} {sz : Nat} {h : vx_H} {P : Option Value → vx_H → Prop} (L0 : vx_L) (hlen : (vx_ar As).length ≤ 2) (hL0 : vx_ar As ++ List.replicate (2 - (vx_ar As).length) none = L0)
    (body : ∀ (lim z : vx_Z) X, vx_cl0 none lim tb_V_back (fun r z' h' => z' = z ∧ P r h') X → X 0 L0 [] z h) : vx_Ok m_V_back As sz h P :=
  vx_ok0 (M := (⟨"VoteWalls", "back", "(I)I"⟩, prog_1_method_22_code, 2, (some .int), 1, 0, 0, 1, 0)) rfl (ow := 6) rfl ck_V_back rfl hlen hL0 body
abbrev kb_V_struck_0 : List vx_I := [(.aload_n 0, 1, 0, 0, .null, []), (.invokevirtual 106, 3, 32, 0, .null, [(0, 0), (0, 0), (0, 0), (0, 0), (0, 0), (0, 0)]), (.ifCond .ne 6, 3, 10, 0, .null, []), (.bipush (-3), 2, 0, 0, .int (-3), []), (.ireturn, 1, 0, 0, .null, [])]
abbrev kb_V_struck_10 : List vx_I := [(.iconst 0, 1, 0, 0, .int 0, []), (.istore_n 1, 1, 1, 0, .null, []), (.iconst 0, 1, 0, 0, .int 0, []), (.istore_n 2, 1, 2, 0, .null, [])]
abbrev kb_V_struck_14 : List vx_I := [(.iload_n 2, 1, 2, 0, .null, []), (.aload_n 0, 1, 0, 0, .null, []), (.getfield 56, 3, 6, 7, .null, []), (.getfield 88, 3, 5, 5, .null, []), (.if_icmp .ge 32, 3, 54, 0, .null, []), (.aload_n 0, 1, 0, 0, .null, []), (.iconst 0, 1, 0, 0, .int 0, []), (.iconst 1, 1, 0, 0, .int 1, []), (.iload_n 2, 1, 2, 0, .null, []), (.ishl, 1, 0, 0, .null, []), (.bipush 49, 2, 0, 0, .int 49, []), (.invokevirtual 162, 3, 45, 3, .null, [(0, 0), (0, 0), (0, 0), (0, 0), (0, 0), (0, 0)]), (.aload_n 0, 1, 0, 0, .null, []), (.invokevirtual 188, 3, 80, 0, .null, [(0, 0), (0, 0), (0, 0), (0, 0), (0, 0), (0, 0)]), (.ifCond .eq 9, 3, 48, 0, .null, []), (.iload_n 1, 1, 1, 0, .null, []), (.iconst 1, 1, 0, 0, .int 1, []), (.iload_n 2, 1, 2, 0, .null, []), (.ishl, 1, 0, 0, .null, []), (.ior, 1, 0, 0, .null, []), (.istore_n 1, 1, 1, 0, .null, [])]
abbrev kb_V_struck_48 : List vx_I := [(.iinc 2 1, 3, 2, 0, .int 1, []), (.goto (-37), 3, 14, 0, .null, [])]
abbrev kb_V_struck_54 : List vx_I := [(.iload_n 1, 1, 1, 0, .null, []), (.ireturn, 1, 0, 0, .null, [])]
def tb_V_struck : List (Nat × List vx_I) := [(0, kb_V_struck_0), (10, kb_V_struck_10), (14, kb_V_struck_14), (48, kb_V_struck_48), (54, kb_V_struck_54)]
theorem bk_V_struck_0 : vx_bk tb_V_struck 0 = kb_V_struck_0 := rfl
theorem bk_V_struck_10 : vx_bk tb_V_struck 10 = kb_V_struck_10 := rfl
theorem bk_V_struck_14 : vx_bk tb_V_struck 14 = kb_V_struck_14 := rfl
theorem bk_V_struck_48 : vx_bk tb_V_struck 48 = kb_V_struck_48 := rfl
theorem bk_V_struck_54 : vx_bk tb_V_struck 54 = kb_V_struck_54 := rfl
abbrev m_V_struck : Nat := 79
set_option maxRecDepth 100000 in
theorem ck_V_struck : vx_ckM prog_1_method_23_code 6 3 5 false (some .int) tb_V_struck = true := by decide +kernel
theorem ok_V_struck {As : List Value} {sz : Nat} {h : vx_H} {P : Option Value → vx_H → Prop} (L0 : vx_L) (hlen : (vx_ar As).length ≤ 3) (hL0 : vx_ar As ++ List.replicate (3 - (vx_ar As).length) none = L0)
    (body : ∀ (lim z : vx_Z) X, vx_cl0 none lim tb_V_struck (fun r z' h' => z' = z ∧ P r h') X → X 0 L0 [] z h) : vx_Ok m_V_struck As sz h P :=
  vx_ok0 (M := (⟨"VoteWalls", "struck", "()I"⟩, prog_1_method_23_code, 3, (some .int), 5, 0, 0, 0, 0)) rfl (ow := 6) rfl ck_V_struck rfl hlen hL0 body
abbrev kb_V_readingsAreSo_0 : List vx_I := [(.iconst 0, 1, 0, 0, .int 0, []), (.istore_n 1, 1, 1, 0, .null, [])]
abbrev kb_V_readingsAreSo_2 : List vx_I := [(.iload_n 1, 1, 1, 0, .null, []), (.aload_n 0, 1, 0, 0, .null, []), (.getfield 36, 3, 6, 4, .null, []), (.getfield 243, 3, 3, 4, .null, []), (.if_icmp .ge 48, 3, 58, 0, .null, []), (.aload_n 0, 1, 0, 0, .null, []), (.getfield 49, 3, 6, 6, .null, []), (.aload_n 0, 1, 0, 0, .null, []), (.getfield 36, 3, 6, 4, .null, []), (.getfield 265, 3, 3, 0, .null, []), (.iload_n 1, 1, 1, 0, .null, []), (.iaload, 1, 0, 0, .null, []), (.aload_n 0, 1, 0, 0, .null, []), (.getfield 36, 3, 6, 4, .null, []), (.getfield 268, 3, 3, 1, .null, []), (.iload_n 1, 1, 1, 0, .null, []), (.iaload, 1, 0, 0, .null, []), (.invokevirtual 134, 3, 54, 2, .null, [(0, 0), (0, 0), (0, 0), (0, 0)]), (.aload_n 0, 1, 0, 0, .null, []), (.getfield 36, 3, 6, 4, .null, []), (.getfield 271, 3, 3, 2, .null, []), (.iload_n 1, 1, 1, 0, .null, []), (.iaload, 1, 0, 0, .null, []), (.if_icmp .eq 5, 3, 52, 0, .null, []), (.iconst 0, 1, 0, 0, .int 0, []), (.ireturn, 1, 1, 0, .null, [])]
abbrev kb_V_readingsAreSo_52 : List vx_I := [(.iinc 1 1, 3, 1, 0, .int 1, []), (.goto (-53), 3, 2, 0, .null, [])]
abbrev kb_V_readingsAreSo_58 : List vx_I := [(.iconst 1, 1, 0, 0, .int 1, []), (.ireturn, 1, 1, 0, .null, [])]
def tb_V_readingsAreSo : List (Nat × List vx_I) := [(0, kb_V_readingsAreSo_0), (2, kb_V_readingsAreSo_2), (52, kb_V_readingsAreSo_52), (58, kb_V_readingsAreSo_58)]
theorem bk_V_readingsAreSo_0 : vx_bk tb_V_readingsAreSo 0 = kb_V_readingsAreSo_0 := rfl
theorem bk_V_readingsAreSo_2 : vx_bk tb_V_readingsAreSo 2 = kb_V_readingsAreSo_2 := rfl
theorem bk_V_readingsAreSo_52 : vx_bk tb_V_readingsAreSo 52 = kb_V_readingsAreSo_52 := rfl
theorem bk_V_readingsAreSo_58 : vx_bk tb_V_readingsAreSo 58 = kb_V_readingsAreSo_58 := rfl
abbrev m_V_readingsAreSo : Nat := 80
set_option maxRecDepth 100000 in
theorem ck_V_readingsAreSo : vx_ckM prog_1_method_61_code 6 2 2 false (some .boolean) tb_V_readingsAreSo = true := by decide +kernel
theorem ok_V_readingsAreSo {As : List Value} {sz : Nat} {h : vx_H} {P : Option Value → vx_H → Prop} (L0 : vx_L) (hlen : (vx_ar As).length ≤ 2) (hL0 : vx_ar As ++ List.replicate (2 - (vx_ar As).length) none = L0)
    (body : ∀ (lim z : vx_Z) X, vx_cl0 none lim tb_V_readingsAreSo (fun r z' h' => z' = z ∧ P r h') X → X 0 L0 [] z h) : vx_Ok m_V_readingsAreSo As sz h P :=
  vx_ok0 (M := (⟨"VoteWalls", "readingsAreSo", "()Z"⟩, prog_1_method_61_code, 2, (some .boolean), 2, 0, 0, 0, 0)) rfl (ow := 6) rfl ck_V_readingsAreSo rfl hlen hL0 body
abbrev kb_V_laws_0 : List vx_I := [(.aload_n 0, 1, 0, 0, .null, []), (.invokevirtual 106, 3, 32, 0, .null, [(0, 0), (0, 0), (0, 0), (0, 0), (0, 0), (0, 0)]), (.ifCond .ne 6, 3, 10, 0, .null, []), (.bipush (-3), 2, 0, 0, .int (-3), []), (.ireturn, 1, 0, 0, .null, [])]
abbrev kb_V_laws_10 : List vx_I := [(.iconst 0, 1, 0, 0, .int 0, []), (.istore_n 1, 1, 1, 0, .null, []), (.iconst 0, 1, 0, 0, .int 0, []), (.istore_n 2, 1, 2, 0, .null, [])]
abbrev kb_V_laws_14 : List vx_I := [(.iload_n 2, 1, 2, 0, .null, []), (.iconst 1, 1, 0, 0, .int 1, []), (.if_icmp .gt 42, 3, 58, 0, .null, []), (.aload_n 0, 1, 0, 0, .null, []), (.getfield 49, 3, 6, 6, .null, []), (.aload_n 0, 1, 0, 0, .null, []), (.getfield 56, 3, 6, 7, .null, []), (.aload_n 0, 1, 0, 0, .null, []), (.getfield 42, 3, 6, 5, .null, []), (.iload_n 2, 1, 2, 0, .null, []), (.iconst 0, 1, 0, 0, .int 0, []), (.iconst 0, 1, 0, 0, .int 0, []), (.bipush 49, 2, 0, 0, .int 49, []), (.invokevirtual 191, 3, 46, 6, .null, [(0, 0), (0, 0), (0, 0), (0, 0)]), (.aload_n 0, 1, 0, 0, .null, []), (.invokevirtual 188, 3, 80, 0, .null, [(0, 0), (0, 0), (0, 0), (0, 0), (0, 0), (0, 0)]), (.ifCond .eq 9, 3, 52, 0, .null, []), (.iload_n 1, 1, 1, 0, .null, []), (.iconst 1, 1, 0, 0, .int 1, []), (.iload_n 2, 1, 2, 0, .null, []), (.ishl, 1, 0, 0, .null, []), (.ior, 1, 0, 0, .null, []), (.istore_n 1, 1, 1, 0, .null, [])]
abbrev kb_V_laws_52 : List vx_I := [(.iinc 2 1, 3, 2, 0, .int 1, []), (.goto (-41), 3, 14, 0, .null, [])]
abbrev kb_V_laws_58 : List vx_I := [(.iload_n 1, 1, 1, 0, .null, []), (.ireturn, 1, 0, 0, .null, [])]
def tb_V_laws : List (Nat × List vx_I) := [(0, kb_V_laws_0), (10, kb_V_laws_10), (14, kb_V_laws_14), (52, kb_V_laws_52), (58, kb_V_laws_58)]
theorem bk_V_laws_0 : vx_bk tb_V_laws 0 = kb_V_laws_0 := rfl
theorem bk_V_laws_10 : vx_bk tb_V_laws 10 = kb_V_laws_10 := rfl
theorem bk_V_laws_14 : vx_bk tb_V_laws 14 = kb_V_laws_14 := rfl
theorem bk_V_laws_52 : vx_bk tb_V_laws 52 = kb_V_laws_52 := rfl
theorem bk_V_laws_58 : vx_bk tb_V_laws 58 = kb_V_laws_58 := rfl
abbrev m_V_laws : Nat := 81
set_option maxRecDepth 100000 in
theorem ck_V_laws : vx_ckM prog_1_method_24_code 6 3 4 false (some .int) tb_V_laws = true := by decide +kernel
theorem ok_V_laws {As : List Value} {sz : Nat} {h : vx_H} {P : Option Value → vx_H → Prop} (L0 : vx_L) (hlen : (vx_ar As).length ≤ 3) (hL0 : vx_ar As ++ List.replicate (3 - (vx_ar As).length) none = L0)
    (body : ∀ (lim z : vx_Z) X, vx_cl0 none lim tb_V_laws (fun r z' h' => z' = z ∧ P r h') X → X 0 L0 [] z h) : vx_Ok m_V_laws As sz h P :=
  vx_ok0 (M := (⟨"VoteWalls", "laws", "()I"⟩, prog_1_method_24_code, 3, (some .int), 4, 0, 0, 0, 0)) rfl (ow := 6) rfl ck_V_laws rfl hlen hL0 body
abbrev kb_V_stood_0 : List vx_I := [(.aload_n 0, 1, 0, 0, .null, []), (.iload_n 1, 1, 1, 0, .null, []), (.invokevirtual 91, 3, 29, 1, .null, [(0, 0), (0, 0), (0, 0), (0, 0), (0, 0), (0, 0)]), (.ifCond .ne 5, 3, 10, 0, .null, []), (.iconst (-1), 1, 0, 0, .int (-1), []), (.ireturn, 1, 0, 0, .null, [])]
abbrev kb_V_stood_10 : List vx_I := [(.aload_n 0, 1, 0, 0, .null, []), (.getfield 56, 3, 6, 7, .null, []), (.getfield 99, 3, 5, 2, .null, []), (.iload_n 1, 1, 1, 0, .null, []), (.iaload, 1, 0, 0, .null, []), (.istore_n 2, 1, 2, 0, .null, []), (.iconst 0, 1, 0, 0, .int 0, []), (.istore_n 3, 1, 3, 0, .null, []), (.iconst 0, 1, 0, 0, .int 0, []), (.istore 4, 2, 4, 0, .null, [])]
abbrev kb_V_stood_25 : List vx_I := [(.iload 4, 2, 4, 0, .null, []), (.aload_n 0, 1, 0, 0, .null, []), (.getfield 56, 3, 6, 7, .null, []), (.getfield 166, 3, 5, 3, .null, []), (.if_icmp .ge 40, 3, 74, 0, .null, []), (.aload_n 0, 1, 0, 0, .null, []), (.getfield 56, 3, 6, 7, .null, []), (.getfield 99, 3, 5, 2, .null, []), (.iload_n 1, 1, 1, 0, .null, []), (.iload 4, 2, 4, 0, .null, []), (.iastore, 1, 0, 0, .null, []), (.aload_n 0, 1, 0, 0, .null, []), (.bipush 49, 2, 0, 0, .int 49, []), (.invokevirtual 131, 3, 44, 1, .null, [(0, 0), (0, 0), (0, 0), (0, 0), (0, 0), (0, 0)]), (.aload_n 0, 1, 0, 0, .null, []), (.invokevirtual 188, 3, 80, 0, .null, [(0, 0), (0, 0), (0, 0), (0, 0), (0, 0), (0, 0)]), (.ifCond .eq 10, 3, 68, 0, .null, []), (.iload_n 3, 1, 3, 0, .null, []), (.iconst 1, 1, 0, 0, .int 1, []), (.iload 4, 2, 4, 0, .null, []), (.ishl, 1, 0, 0, .null, []), (.ior, 1, 0, 0, .null, []), (.istore_n 3, 1, 3, 0, .null, [])]
abbrev kb_V_stood_68 : List vx_I := [(.iinc 4 1, 3, 4, 0, .int 1, []), (.goto (-46), 3, 25, 0, .null, [])]
abbrev kb_V_stood_74 : List vx_I := [(.aload_n 0, 1, 0, 0, .null, []), (.getfield 56, 3, 6, 7, .null, []), (.getfield 99, 3, 5, 2, .null, []), (.iload_n 1, 1, 1, 0, .null, []), (.iload_n 2, 1, 2, 0, .null, []), (.iastore, 1, 0, 0, .null, []), (.iload_n 3, 1, 3, 0, .null, []), (.ireturn, 1, 0, 0, .null, [])]
def tb_V_stood : List (Nat × List vx_I) := [(0, kb_V_stood_0), (10, kb_V_stood_10), (25, kb_V_stood_25), (68, kb_V_stood_68), (74, kb_V_stood_74)]
theorem bk_V_stood_0 : vx_bk tb_V_stood 0 = kb_V_stood_0 := rfl
theorem bk_V_stood_10 : vx_bk tb_V_stood 10 = kb_V_stood_10 := rfl
theorem bk_V_stood_25 : vx_bk tb_V_stood 25 = kb_V_stood_25 := rfl
theorem bk_V_stood_68 : vx_bk tb_V_stood 68 = kb_V_stood_68 := rfl
theorem bk_V_stood_74 : vx_bk tb_V_stood 74 = kb_V_stood_74 := rfl
abbrev m_V_stood : Nat := 82
set_option maxRecDepth 100000 in
theorem ck_V_stood : vx_ckM prog_1_method_25_code 6 5 6 false (some .int) tb_V_stood = true := by decide +kernel
theorem ok_V_stood {As : List Value} {sz : Nat} {h : vx_H} {P : Option Value → vx_H → Prop} (L0 : vx_L) (hlen : (vx_ar As).length ≤ 5) (hL0 : vx_ar As ++ List.replicate (5 - (vx_ar As).length) none = L0)
    (body : ∀ (lim z : vx_Z) X, vx_cl0 none lim tb_V_stood (fun r z' h' => z' = z ∧ P r h') X → X 0 L0 [] z h) : vx_Ok m_V_stood As sz h P :=
  vx_ok0 (M := (⟨"VoteWalls", "stood", "(I)I"⟩, prog_1_method_25_code, 5, (some .int), 6, 0, 0, 1, 0)) rfl (ow := 6) rfl ck_V_stood rfl hlen hL0 body
abbrev kb_V_odds_0 : List vx_I := [(.aload_n 0, 1, 0, 0, .null, []), (.iload_n 1, 1, 1, 0, .null, []), (.invokevirtual 91, 3, 29, 1, .null, [(0, 0), (0, 0), (0, 0), (0, 0), (0, 0), (0, 0)]), (.ifCond .eq 11, 3, 16, 0, .null, []), (.aload_n 0, 1, 0, 0, .null, []), (.iload_n 2, 1, 2, 0, .null, []), (.invokevirtual 91, 3, 29, 1, .null, [(0, 0), (0, 0), (0, 0), (0, 0), (0, 0), (0, 0)]), (.ifCond .ne 7, 3, 20, 0, .null, [])]
abbrev kb_V_odds_16 : List vx_I := [(.ldc2_w 195, 3, 0, 0, .long (-9223372036854775808), []), (.lreturn, 1, 0, 0, .null, [])]
abbrev kb_V_odds_20 : List vx_I := [(.iload_n 3, 1, 3, 0, .null, []), (.invokestatic 169, 3, 36, 1, .null, []), (.ifCond .eq 14, 3, 38, 0, .null, []), (.iload 4, 2, 4, 0, .null, []), (.ifCond .eq 13, 3, 42, 0, .null, []), (.iload 4, 2, 4, 0, .null, []), (.iconst 1, 1, 0, 0, .int 1, []), (.if_icmp .eq 7, 3, 42, 0, .null, [])]
abbrev kb_V_odds_38 : List vx_I := [(.ldc2_w 195, 3, 0, 0, .long (-9223372036854775808), []), (.lreturn, 1, 0, 0, .null, [])]
abbrev kb_V_odds_42 : List vx_I := [(.iconst 0, 1, 0, 0, .int 0, []), (.istore 5, 2, 5, 0, .null, []), (.iconst 1, 1, 0, 0, .int 1, []), (.aload_n 0, 1, 0, 0, .null, []), (.getfield 56, 3, 6, 7, .null, []), (.getfield 88, 3, 5, 5, .null, []), (.ishl, 1, 0, 0, .null, []), (.istore 6, 2, 6, 0, .null, []), (.iconst 0, 1, 0, 0, .int 0, []), (.istore 7, 2, 7, 0, .null, [])]
abbrev kb_V_odds_59 : List vx_I := [(.iload 7, 2, 7, 0, .null, []), (.iload 6, 2, 6, 0, .null, []), (.if_icmp .ge 35, 3, 98, 0, .null, []), (.aload_n 0, 1, 0, 0, .null, []), (.iconst 0, 1, 0, 0, .int 0, []), (.iload 7, 2, 7, 0, .null, []), (.iload_n 3, 1, 3, 0, .null, []), (.invokevirtual 162, 3, 45, 3, .null, [(0, 0), (0, 0), (0, 0), (0, 0), (0, 0), (0, 0)]), (.aload_n 0, 1, 0, 0, .null, []), (.iload_n 1, 1, 1, 0, .null, []), (.iload_n 3, 1, 3, 0, .null, []), (.invokevirtual 138, 3, 56, 2, .null, [(0, 0), (0, 0), (0, 0), (0, 0), (0, 0), (0, 0)]), (.aload_n 0, 1, 0, 0, .null, []), (.iload_n 2, 1, 2, 0, .null, []), (.iload_n 3, 1, 3, 0, .null, []), (.invokevirtual 138, 3, 56, 2, .null, [(0, 0), (0, 0), (0, 0), (0, 0), (0, 0), (0, 0)]), (.if_icmp .ne 6, 3, 92, 0, .null, []), (.iinc 5 1, 3, 5, 0, .int 1, [])]
abbrev kb_V_odds_92 : List vx_I := [(.iinc 7 1, 3, 7, 0, .int 1, []), (.goto (-36), 3, 59, 0, .null, [])]
abbrev kb_V_odds_98 : List vx_I := [(.iload 6, 2, 6, 0, .null, []), (.istore 7, 2, 7, 0, .null, []), (.iconst 0, 1, 0, 0, .int 0, []), (.istore 8, 2, 8, 0, .null, [])]
abbrev kb_V_odds_105 : List vx_I := [(.iload 8, 2, 8, 0, .null, []), (.aload_n 0, 1, 0, 0, .null, []), (.getfield 56, 3, 6, 7, .null, []), (.getfield 88, 3, 5, 5, .null, []), (.if_icmp .ge 28, 3, 142, 0, .null, []), (.iload 5, 2, 5, 0, .null, []), (.iconst 1, 1, 0, 0, .int 1, []), (.iand, 1, 0, 0, .null, []), (.ifCond .ne 21, 3, 142, 0, .null, []), (.iload 5, 2, 5, 0, .null, []), (.iconst 1, 1, 0, 0, .int 1, []), (.ishr, 1, 0, 0, .null, []), (.istore 5, 2, 5, 0, .null, []), (.iload 7, 2, 7, 0, .null, []), (.iconst 1, 1, 0, 0, .int 1, []), (.ishr, 1, 0, 0, .null, []), (.istore 7, 2, 7, 0, .null, []), (.iinc 8 1, 3, 8, 0, .int 1, []), (.goto (-34), 3, 105, 0, .null, [])]
abbrev kb_V_odds_142 : List vx_I := [(.iload 4, 2, 4, 0, .null, []), (.ifCond .ne 9, 3, 153, 0, .null, []), (.iload 5, 2, 5, 0, .null, []), (.i2l, 1, 0, 0, .null, []), (.goto 6, 3, 156, 0, .null, [])]
abbrev kb_V_odds_153 : List vx_I := [(.iload 7, 2, 7, 0, .null, []), (.i2l, 1, 0, 0, .null, [])]
abbrev kb_V_odds_156 : List vx_I := [(.lreturn, 1, 0, 0, .null, [])]
def tb_V_odds : List (Nat × List vx_I) := [(0, kb_V_odds_0), (16, kb_V_odds_16), (20, kb_V_odds_20), (38, kb_V_odds_38), (42, kb_V_odds_42), (59, kb_V_odds_59), (92, kb_V_odds_92), (98, kb_V_odds_98), (105, kb_V_odds_105), (142, kb_V_odds_142), (153, kb_V_odds_153), (156, kb_V_odds_156)]
theorem bk_V_odds_0 : vx_bk tb_V_odds 0 = kb_V_odds_0 := rfl
theorem bk_V_odds_16 : vx_bk tb_V_odds 16 = kb_V_odds_16 := rfl
theorem bk_V_odds_20 : vx_bk tb_V_odds 20 = kb_V_odds_20 := rfl
theorem bk_V_odds_38 : vx_bk tb_V_odds 38 = kb_V_odds_38 := rfl
theorem bk_V_odds_42 : vx_bk tb_V_odds 42 = kb_V_odds_42 := rfl
theorem bk_V_odds_59 : vx_bk tb_V_odds 59 = kb_V_odds_59 := rfl
theorem bk_V_odds_92 : vx_bk tb_V_odds 92 = kb_V_odds_92 := rfl
theorem bk_V_odds_98 : vx_bk tb_V_odds 98 = kb_V_odds_98 := rfl
theorem bk_V_odds_105 : vx_bk tb_V_odds 105 = kb_V_odds_105 := rfl
theorem bk_V_odds_142 : vx_bk tb_V_odds 142 = kb_V_odds_142 := rfl
theorem bk_V_odds_153 : vx_bk tb_V_odds 153 = kb_V_odds_153 := rfl
theorem bk_V_odds_156 : vx_bk tb_V_odds 156 = kb_V_odds_156 := rfl
abbrev m_V_odds : Nat := 83
set_option maxRecDepth 100000 in
theorem ck_V_odds : vx_ckM prog_1_method_26_code 6 9 5 false (some .long) tb_V_odds = true := by decide +kernel
theorem ok_V_odds {As : List Value} {sz : Nat} {h : vx_H} {P : Option Value → vx_H → Prop} (L0 : vx_L) (hlen : (vx_ar As).length ≤ 9) (hL0 : vx_ar As ++ List.replicate (9 - (vx_ar As).length) none = L0)
    (body : ∀ (lim z : vx_Z) X, vx_cl0 none lim tb_V_odds (fun r z' h' => z' = z ∧ P r h') X → X 0 L0 [] z h) : vx_Ok m_V_odds As sz h P :=
  vx_ok0 (M := (⟨"VoteWalls", "odds", "(IIII)J"⟩, prog_1_method_26_code, 9, (some .long), 5, 0, 0, 4, 0)) rfl (ow := 6) rfl ck_V_odds rfl hlen hL0 body
abbrev kb_V_sheet_0 : List vx_I := [(.aload_n 0, 1, 0, 0, .null, []), (.iconst 0, 1, 0, 0, .int 0, []), (.putfield 70, 3, 6, 11, .int 0, []), (.iload_n 1, 1, 1, 0, .null, []), (.invokestatic 197, 3, 9, 1, .null, []), (.ifCond .ne 5, 3, 14, 0, .null, []), (.iconst (-1), 1, 0, 0, .int (-1), []), (.ireturn, 1, 0, 0, .null, [])]
abbrev kb_V_sheet_14 : List vx_I := [(.iload_n 2, 1, 2, 0, .null, []), (.invokestatic 200, 3, 10, 1, .null, []), (.ifCond .eq 9, 3, 27, 0, .null, []), (.iload_n 3, 1, 3, 0, .null, []), (.bipush 60, 2, 0, 0, .int 60, []), (.if_icmp .le 6, 3, 30, 0, .null, [])]
abbrev kb_V_sheet_27 : List vx_I := [(.bipush (-2), 2, 0, 0, .int (-2), []), (.ireturn, 1, 0, 0, .null, [])]
abbrev kb_V_sheet_30 : List vx_I := [(.iload_n 3, 1, 3, 0, .null, []), (.ifCond .ge 9, 3, 40, 0, .null, []), (.aload_n 0, 1, 0, 0, .null, []), (.iconst 4, 1, 0, 0, .int 4, []), (.invokevirtual 203, 3, 13, 1, .null, [(0, 0), (0, 0), (0, 0), (0, 0), (0, 0), (0, 0)]), (.ireturn, 1, 0, 0, .null, [])]
abbrev kb_V_sheet_40 : List vx_I := [(.aload_n 0, 1, 0, 0, .null, []), (.getfield 13, 3, 6, 0, .null, []), (.iload_n 1, 1, 1, 0, .null, []), (.aaload, 1, 0, 0, .null, []), (.iload_n 2, 1, 2, 0, .null, []), (.iload_n 3, 1, 3, 0, .null, []), (.invokevirtual 206, 3, 85, 2, .null, [(0, 0)]), (.iconst 1, 1, 0, 0, .int 1, []), (.ireturn, 1, 0, 0, .null, [])]
def tb_V_sheet : List (Nat × List vx_I) := [(0, kb_V_sheet_0), (14, kb_V_sheet_14), (27, kb_V_sheet_27), (30, kb_V_sheet_30), (40, kb_V_sheet_40)]
theorem bk_V_sheet_0 : vx_bk tb_V_sheet 0 = kb_V_sheet_0 := rfl
theorem bk_V_sheet_14 : vx_bk tb_V_sheet 14 = kb_V_sheet_14 := rfl
theorem bk_V_sheet_27 : vx_bk tb_V_sheet 27 = kb_V_sheet_27 := rfl
theorem bk_V_sheet_30 : vx_bk tb_V_sheet 30 = kb_V_sheet_30 := rfl
theorem bk_V_sheet_40 : vx_bk tb_V_sheet 40 = kb_V_sheet_40 := rfl
abbrev m_V_sheet : Nat := 84
set_option maxRecDepth 100000 in
theorem ck_V_sheet : vx_ckM prog_1_method_27_code 6 4 2 false (some .int) tb_V_sheet = true := by decide +kernel
theorem ok_V_sheet {As : List Value} {sz : Nat} {h : vx_H} {P : Option Value → vx_H → Prop} (L0 : vx_L) (hlen : (vx_ar As).length ≤ 4) (hL0 : vx_ar As ++ List.replicate (4 - (vx_ar As).length) none = L0)
    (body : ∀ (lim z : vx_Z) X, vx_cl0 none lim tb_V_sheet (fun r z' h' => z' = z ∧ P r h') X → X 0 L0 [] z h) : vx_Ok m_V_sheet As sz h P :=
  vx_ok0 (M := (⟨"VoteWalls", "sheet", "(III)I"⟩, prog_1_method_27_code, 4, (some .int), 2, 0, 0, 3, 0)) rfl (ow := 6) rfl ck_V_sheet rfl hlen hL0 body
abbrev kb_V_lose_0 : List vx_I := [(.iload_n 1, 1, 1, 0, .null, []), (.invokestatic 197, 3, 9, 1, .null, []), (.ifCond .ne 5, 3, 9, 0, .null, []), (.iconst (-1), 1, 0, 0, .int (-1), []), (.ireturn, 1, 0, 0, .null, [])]
abbrev kb_V_lose_9 : List vx_I := [(.aload_n 0, 1, 0, 0, .null, []), (.getfield 13, 3, 6, 0, .null, []), (.iload_n 1, 1, 1, 0, .null, []), (.aaload, 1, 0, 0, .null, []), (.getfield 210, 3, 1, 1, .null, []), (.iconst (-1), 1, 0, 0, .int (-1), []), (.if_icmp .ne 7, 3, 26, 0, .null, []), (.iconst 0, 1, 0, 0, .int 0, []), (.goto 4, 3, 27, 0, .null, [])]
abbrev kb_V_lose_26 : List vx_I := [(.iconst 1, 1, 0, 0, .int 1, [])]
abbrev kb_V_lose_27 : List vx_I := [(.istore_n 2, 1, 2, 0, .null, []), (.aload_n 0, 1, 0, 0, .null, []), (.getfield 13, 3, 6, 0, .null, []), (.iload_n 1, 1, 1, 0, .null, []), (.aaload, 1, 0, 0, .null, []), (.iconst (-1), 1, 0, 0, .int (-1), []), (.iconst 0, 1, 0, 0, .int 0, []), (.invokevirtual 206, 3, 85, 2, .null, [(0, 0)]), (.iload_n 2, 1, 2, 0, .null, []), (.ireturn, 1, 0, 0, .null, [])]
def tb_V_lose : List (Nat × List vx_I) := [(0, kb_V_lose_0), (9, kb_V_lose_9), (26, kb_V_lose_26), (27, kb_V_lose_27)]
theorem bk_V_lose_0 : vx_bk tb_V_lose 0 = kb_V_lose_0 := rfl
theorem bk_V_lose_9 : vx_bk tb_V_lose 9 = kb_V_lose_9 := rfl
theorem bk_V_lose_26 : vx_bk tb_V_lose 26 = kb_V_lose_26 := rfl
theorem bk_V_lose_27 : vx_bk tb_V_lose 27 = kb_V_lose_27 := rfl
abbrev m_V_lose : Nat := 86
set_option maxRecDepth 100000 in
theorem ck_V_lose : vx_ckM prog_1_method_28_code 6 3 2 false (some .int) tb_V_lose = true := by decide +kernel
theorem ok_V_lose {As : List Value} {sz : Nat} {h : vx_H} {P : Option Value → vx_H → Prop} (L0 : vx_L) (hlen : (vx_ar As).length ≤ 3) (hL0 : vx_ar As ++ List.replicate (3 - (vx_ar As).length) none = L0)
    (body : ∀ (lim z : vx_Z) X, vx_cl0 none lim tb_V_lose (fun r z' h' => z' = z ∧ P r h') X → X 0 L0 [] z h) : vx_Ok m_V_lose As sz h P :=
  vx_ok0 (M := (⟨"VoteWalls", "lose", "(I)I"⟩, prog_1_method_28_code, 3, (some .int), 2, 0, 0, 1, 0)) rfl (ow := 6) rfl ck_V_lose rfl hlen hL0 body
abbrev kb_V_put_0 : List vx_I := [(.aload_n 0, 1, 0, 0, .null, []), (.iconst 0, 1, 0, 0, .int 0, []), (.putfield 70, 3, 6, 11, .int 0, []), (.iload_n 1, 1, 1, 0, .null, []), (.invokestatic 197, 3, 9, 1, .null, []), (.ifCond .ne 5, 3, 14, 0, .null, []), (.iconst (-1), 1, 0, 0, .int (-1), []), (.ireturn, 1, 0, 0, .null, [])]
abbrev kb_V_put_14 : List vx_I := [(.aload_n 0, 1, 0, 0, .null, []), (.getfield 13, 3, 6, 0, .null, []), (.iload_n 1, 1, 1, 0, .null, []), (.aaload, 1, 0, 0, .null, []), (.getfield 210, 3, 1, 1, .null, []), (.iconst (-1), 1, 0, 0, .int (-1), []), (.if_icmp .ne 9, 3, 33, 0, .null, []), (.aload_n 0, 1, 0, 0, .null, []), (.iconst 1, 1, 0, 0, .int 1, []), (.invokevirtual 203, 3, 13, 1, .null, [(0, 0), (0, 0), (0, 0), (0, 0), (0, 0), (0, 0)]), (.ireturn, 1, 0, 0, .null, [])]
abbrev kb_V_put_33 : List vx_I := [(.aload_n 0, 1, 0, 0, .null, []), (.getfield 13, 3, 6, 0, .null, []), (.iload_n 1, 1, 1, 0, .null, []), (.aaload, 1, 0, 0, .null, []), (.iload_n 2, 1, 2, 0, .null, []), (.iconst 1, 1, 0, 0, .int 1, []), (.invokevirtual 213, 3, 12, 2, .null, [(0, 0)]), (.ifCond .ne 9, 3, 53, 0, .null, []), (.aload_n 0, 1, 0, 0, .null, []), (.iconst 3, 1, 0, 0, .int 3, []), (.invokevirtual 203, 3, 13, 1, .null, [(0, 0), (0, 0), (0, 0), (0, 0), (0, 0), (0, 0)]), (.ireturn, 1, 0, 0, .null, [])]
abbrev kb_V_put_53 : List vx_I := [(.aload_n 0, 1, 0, 0, .null, []), (.getfield 13, 3, 6, 0, .null, []), (.iload_n 1, 1, 1, 0, .null, []), (.aaload, 1, 0, 0, .null, []), (.iload_n 2, 1, 2, 0, .null, []), (.iload_n 3, 1, 3, 0, .null, []), (.invokevirtual 216, 3, 88, 2, .null, [(0, 0)]), (.iconst 1, 1, 0, 0, .int 1, []), (.ireturn, 1, 0, 0, .null, [])]
def tb_V_put : List (Nat × List vx_I) := [(0, kb_V_put_0), (14, kb_V_put_14), (33, kb_V_put_33), (53, kb_V_put_53)]
theorem bk_V_put_0 : vx_bk tb_V_put 0 = kb_V_put_0 := rfl
theorem bk_V_put_14 : vx_bk tb_V_put 14 = kb_V_put_14 := rfl
theorem bk_V_put_33 : vx_bk tb_V_put 33 = kb_V_put_33 := rfl
theorem bk_V_put_53 : vx_bk tb_V_put 53 = kb_V_put_53 := rfl
abbrev m_V_put : Nat := 87
set_option maxRecDepth 100000 in
theorem ck_V_put : vx_ckM prog_1_method_29_code 6 4 2 false (some .int) tb_V_put = true := by decide +kernel
theorem ok_V_put {As : List Value} {sz : Nat} {h : vx_H} {P : Option Value → vx_H → Prop} (L0 : vx_L) (hlen : (vx_ar As).length ≤ 4) (hL0 : vx_ar As ++ List.replicate (4 - (vx_ar As).length) none = L0)
    (body : ∀ (lim z : vx_Z) X, vx_cl0 none lim tb_V_put (fun r z' h' => z' = z ∧ P r h') X → X 0 L0 [] z h) : vx_Ok m_V_put As sz h P :=
  vx_ok0 (M := (⟨"VoteWalls", "put", "(III)I"⟩, prog_1_method_29_code, 4, (some .int), 2, 0, 0, 3, 0)) rfl (ow := 6) rfl ck_V_put rfl hlen hL0 body
abbrev kb_V_cell_0 : List vx_I := [(.aload_n 0, 1, 0, 0, .null, []), (.iconst 0, 1, 0, 0, .int 0, []), (.putfield 70, 3, 6, 11, .int 0, []), (.iload_n 1, 1, 1, 0, .null, []), (.invokestatic 197, 3, 9, 1, .null, []), (.ifCond .eq 10, 3, 19, 0, .null, []), (.iload_n 3, 1, 3, 0, .null, []), (.invokestatic 200, 3, 10, 1, .null, []), (.ifCond .ne 7, 3, 23, 0, .null, [])]
abbrev kb_V_cell_19 : List vx_I := [(.ldc2_w 195, 3, 0, 0, .long (-9223372036854775808), []), (.lreturn, 1, 0, 0, .null, [])]
abbrev kb_V_cell_23 : List vx_I := [(.aload_n 0, 1, 0, 0, .null, []), (.aload_n 0, 1, 0, 0, .null, []), (.getfield 13, 3, 6, 0, .null, []), (.iload_n 1, 1, 1, 0, .null, []), (.aaload, 1, 0, 0, .null, []), (.iload_n 3, 1, 3, 0, .null, []), (.iload_n 2, 1, 2, 0, .null, []), (.iconst 1, 1, 0, 0, .int 1, []), (.invokevirtual 219, 3, 11, 3, .null, [(0, 0)]), (.putfield 70, 3, 6, 11, .int 0, []), (.aload_n 0, 1, 0, 0, .null, []), (.getfield 70, 3, 6, 11, .null, []), (.ifCond .ne 17, 3, 60, 0, .null, []), (.aload_n 0, 1, 0, 0, .null, []), (.getfield 13, 3, 6, 0, .null, []), (.iload_n 1, 1, 1, 0, .null, []), (.aaload, 1, 0, 0, .null, []), (.iload_n 2, 1, 2, 0, .null, []), (.invokevirtual 181, 3, 18, 1, .null, [(0, 0)]), (.i2l, 1, 0, 0, .null, []), (.goto 6, 3, 63, 0, .null, [])]
abbrev kb_V_cell_60 : List vx_I := [(.ldc2_w 195, 3, 0, 0, .long (-9223372036854775808), [])]
abbrev kb_V_cell_63 : List vx_I := [(.lreturn, 1, 0, 0, .null, [])]
def tb_V_cell : List (Nat × List vx_I) := [(0, kb_V_cell_0), (19, kb_V_cell_19), (23, kb_V_cell_23), (60, kb_V_cell_60), (63, kb_V_cell_63)]
theorem bk_V_cell_0 : vx_bk tb_V_cell 0 = kb_V_cell_0 := rfl
theorem bk_V_cell_19 : vx_bk tb_V_cell 19 = kb_V_cell_19 := rfl
theorem bk_V_cell_23 : vx_bk tb_V_cell 23 = kb_V_cell_23 := rfl
theorem bk_V_cell_60 : vx_bk tb_V_cell 60 = kb_V_cell_60 := rfl
theorem bk_V_cell_63 : vx_bk tb_V_cell 63 = kb_V_cell_63 := rfl
abbrev m_V_cell : Nat := 90
set_option maxRecDepth 100000 in
theorem ck_V_cell : vx_ckM prog_1_method_30_code 6 4 2 false (some .long) tb_V_cell = true := by decide +kernel
theorem ok_V_cell {As : List Value} {sz : Nat} {h : vx_H} {P : Option Value → vx_H → Prop} (L0 : vx_L) (hlen : (vx_ar As).length ≤ 4) (hL0 : vx_ar As ++ List.replicate (4 - (vx_ar As).length) none = L0)
    (body : ∀ (lim z : vx_Z) X, vx_cl0 none lim tb_V_cell (fun r z' h' => z' = z ∧ P r h') X → X 0 L0 [] z h) : vx_Ok m_V_cell As sz h P :=
  vx_ok0 (M := (⟨"VoteWalls", "cell", "(III)J"⟩, prog_1_method_30_code, 4, (some .long), 2, 0, 0, 3, 0)) rfl (ow := 6) rfl ck_V_cell rfl hlen hL0 body
abbrev kb_V_copy_0 : List vx_I := [(.aload_n 0, 1, 0, 0, .null, []), (.iconst 0, 1, 0, 0, .int 0, []), (.putfield 70, 3, 6, 11, .int 0, []), (.iload_n 1, 1, 1, 0, .null, []), (.invokestatic 197, 3, 9, 1, .null, []), (.ifCond .eq 10, 3, 19, 0, .null, []), (.iload_n 3, 1, 3, 0, .null, []), (.invokestatic 197, 3, 9, 1, .null, []), (.ifCond .ne 5, 3, 21, 0, .null, [])]
abbrev kb_V_copy_19 : List vx_I := [(.iconst (-1), 1, 0, 0, .int (-1), []), (.ireturn, 1, 0, 0, .null, [])]
abbrev kb_V_copy_21 : List vx_I := [(.aload_n 0, 1, 0, 0, .null, []), (.getfield 13, 3, 6, 0, .null, []), (.iload_n 1, 1, 1, 0, .null, []), (.aaload, 1, 0, 0, .null, []), (.astore 6, 2, 6, 0, .null, []), (.aload_n 0, 1, 0, 0, .null, []), (.getfield 13, 3, 6, 0, .null, []), (.iload_n 3, 1, 3, 0, .null, []), (.aaload, 1, 0, 0, .null, []), (.astore 7, 2, 7, 0, .null, []), (.aload 6, 2, 6, 0, .null, []), (.getfield 210, 3, 1, 1, .null, []), (.iconst (-1), 1, 0, 0, .int (-1), []), (.if_icmp .eq 12, 3, 55, 0, .null, []), (.aload 7, 2, 7, 0, .null, []), (.getfield 210, 3, 1, 1, .null, []), (.iconst (-1), 1, 0, 0, .int (-1), []), (.if_icmp .ne 9, 3, 61, 0, .null, [])]
abbrev kb_V_copy_55 : List vx_I := [(.aload_n 0, 1, 0, 0, .null, []), (.iconst 1, 1, 0, 0, .int 1, []), (.invokevirtual 203, 3, 13, 1, .null, [(0, 0), (0, 0), (0, 0), (0, 0), (0, 0), (0, 0)]), (.ireturn, 1, 0, 0, .null, [])]
abbrev kb_V_copy_61 : List vx_I := [(.aload 6, 2, 6, 0, .null, []), (.getfield 210, 3, 1, 1, .null, []), (.aload 7, 2, 7, 0, .null, []), (.getfield 210, 3, 1, 1, .null, []), (.if_icmp .eq 9, 3, 80, 0, .null, []), (.aload_n 0, 1, 0, 0, .null, []), (.iconst 2, 1, 0, 0, .int 2, []), (.invokevirtual 203, 3, 13, 1, .null, [(0, 0), (0, 0), (0, 0), (0, 0), (0, 0), (0, 0)]), (.ireturn, 1, 0, 0, .null, [])]
abbrev kb_V_copy_80 : List vx_I := [(.aload 6, 2, 6, 0, .null, []), (.iload_n 2, 1, 2, 0, .null, []), (.iload 5, 2, 5, 0, .null, []), (.invokevirtual 213, 3, 12, 2, .null, [(0, 0)]), (.ifCond .eq 15, 3, 103, 0, .null, []), (.aload 7, 2, 7, 0, .null, []), (.iload 4, 2, 4, 0, .null, []), (.iload 5, 2, 5, 0, .null, []), (.invokevirtual 213, 3, 12, 2, .null, [(0, 0)]), (.ifCond .ne 9, 3, 109, 0, .null, [])]
abbrev kb_V_copy_103 : List vx_I := [(.aload_n 0, 1, 0, 0, .null, []), (.iconst 3, 1, 0, 0, .int 3, []), (.invokevirtual 203, 3, 13, 1, .null, [(0, 0), (0, 0), (0, 0), (0, 0), (0, 0), (0, 0)]), (.ireturn, 1, 0, 0, .null, [])]
abbrev kb_V_copy_109 : List vx_I := [(.aload 6, 2, 6, 0, .null, []), (.getfield 222, 3, 1, 0, .null, []), (.iload_n 2, 1, 2, 0, .null, []), (.aload 7, 2, 7, 0, .null, []), (.getfield 222, 3, 1, 0, .null, []), (.iload 4, 2, 4, 0, .null, []), (.iload 5, 2, 5, 0, .null, []), (.invokestatic 225, 3, 0, 0, .int 0, []), (.iload 5, 2, 5, 0, .null, []), (.ireturn, 1, 0, 0, .null, [])]
def tb_V_copy : List (Nat × List vx_I) := [(0, kb_V_copy_0), (19, kb_V_copy_19), (21, kb_V_copy_21), (55, kb_V_copy_55), (61, kb_V_copy_61), (80, kb_V_copy_80), (103, kb_V_copy_103), (109, kb_V_copy_109)]
theorem bk_V_copy_0 : vx_bk tb_V_copy 0 = kb_V_copy_0 := rfl
theorem bk_V_copy_19 : vx_bk tb_V_copy 19 = kb_V_copy_19 := rfl
theorem bk_V_copy_21 : vx_bk tb_V_copy 21 = kb_V_copy_21 := rfl
theorem bk_V_copy_55 : vx_bk tb_V_copy 55 = kb_V_copy_55 := rfl
theorem bk_V_copy_61 : vx_bk tb_V_copy 61 = kb_V_copy_61 := rfl
theorem bk_V_copy_80 : vx_bk tb_V_copy 80 = kb_V_copy_80 := rfl
theorem bk_V_copy_103 : vx_bk tb_V_copy 103 = kb_V_copy_103 := rfl
theorem bk_V_copy_109 : vx_bk tb_V_copy 109 = kb_V_copy_109 := rfl
abbrev m_V_copy : Nat := 91
set_option maxRecDepth 100000 in
theorem ck_V_copy : vx_ckM prog_1_method_31_code 6 8 1 false (some .int) tb_V_copy = true := by decide +kernel
theorem ok_V_copy {As : List Value} {sz : Nat} {h : vx_H} {P : Option Value → vx_H → Prop} (L0 : vx_L) (hlen : (vx_ar As).length ≤ 8) (hL0 : vx_ar As ++ List.replicate (8 - (vx_ar As).length) none = L0)
    (body : ∀ (lim z : vx_Z) X, vx_cl0 none lim tb_V_copy (fun r z' h' => z' = z ∧ P r h') X → X 0 L0 [] z h) : vx_Ok m_V_copy As sz h P :=
  vx_ok0 (M := (⟨"VoteWalls", "copy", "(IIIII)I"⟩, prog_1_method_31_code, 8, (some .int), 1, 0, 0, 5, 0)) rfl (ow := 6) rfl ck_V_copy rfl hlen hL0 body
abbrev kb_V_tell_0 : List vx_I := [(.aload_n 0, 1, 0, 0, .null, []), (.iload_n 1, 1, 1, 0, .null, []), (.invokevirtual 91, 3, 29, 1, .null, [(0, 0), (0, 0), (0, 0), (0, 0), (0, 0), (0, 0)]), (.ifCond .ne 5, 3, 10, 0, .null, []), (.iconst (-1), 1, 0, 0, .int (-1), []), (.ireturn, 1, 0, 0, .null, [])]
abbrev kb_V_tell_10 : List vx_I := [(.aload_n 0, 1, 0, 0, .null, []), (.getfield 56, 3, 6, 7, .null, []), (.getfield 95, 3, 5, 1, .null, []), (.iload_n 1, 1, 1, 0, .null, []), (.iaload, 1, 0, 0, .null, []), (.lookupswitch 53 #[(1, 39), (2, 25)], 25, 72, 0, .null, [(1, 58), (2, 44)])]
abbrev kb_V_tell_44 : List vx_I := [(.aload_n 0, 1, 0, 0, .null, []), (.aload_n 0, 1, 0, 0, .null, []), (.getfield 56, 3, 6, 7, .null, []), (.getfield 99, 3, 5, 2, .null, []), (.iload_n 1, 1, 1, 0, .null, []), (.iaload, 1, 0, 0, .null, []), (.invokevirtual 231, 3, 93, 1, .null, [(0, 0), (0, 0), (0, 0), (0, 0), (0, 0), (0, 0)]), (.ireturn, 1, 0, 0, .null, [])]
abbrev kb_V_tell_58 : List vx_I := [(.aload_n 0, 1, 0, 0, .null, []), (.aload_n 0, 1, 0, 0, .null, []), (.getfield 56, 3, 6, 7, .null, []), (.getfield 99, 3, 5, 2, .null, []), (.iload_n 1, 1, 1, 0, .null, []), (.iaload, 1, 0, 0, .null, []), (.invokevirtual 234, 3, 95, 1, .null, [(0, 0), (0, 0), (0, 0), (0, 0), (0, 0), (0, 0)]), (.ireturn, 1, 0, 0, .null, [])]
abbrev kb_V_tell_72 : List vx_I := [(.aload_n 0, 1, 0, 0, .null, []), (.aload_n 0, 1, 0, 0, .null, []), (.getfield 56, 3, 6, 7, .null, []), (.getfield 99, 3, 5, 2, .null, []), (.iload_n 1, 1, 1, 0, .null, []), (.iaload, 1, 0, 0, .null, []), (.invokevirtual 237, 3, 96, 1, .null, [(0, 0), (0, 0), (0, 0), (0, 0), (0, 0), (0, 0)]), (.ireturn, 1, 0, 0, .null, [])]
def tb_V_tell : List (Nat × List vx_I) := [(0, kb_V_tell_0), (10, kb_V_tell_10), (44, kb_V_tell_44), (58, kb_V_tell_58), (72, kb_V_tell_72)]
theorem bk_V_tell_0 : vx_bk tb_V_tell 0 = kb_V_tell_0 := rfl
theorem bk_V_tell_10 : vx_bk tb_V_tell 10 = kb_V_tell_10 := rfl
theorem bk_V_tell_44 : vx_bk tb_V_tell 44 = kb_V_tell_44 := rfl
theorem bk_V_tell_58 : vx_bk tb_V_tell 58 = kb_V_tell_58 := rfl
theorem bk_V_tell_72 : vx_bk tb_V_tell 72 = kb_V_tell_72 := rfl
abbrev m_V_tell : Nat := 92
set_option maxRecDepth 100000 in
theorem ck_V_tell : vx_ckM prog_1_method_32_code 6 2 4 false (some .int) tb_V_tell = true := by decide +kernel
theorem ok_V_tell {As : List Value} {sz : Nat} {h : vx_H} {P : Option Value → vx_H → Prop} (L0 : vx_L) (hlen : (vx_ar As).length ≤ 2) (hL0 : vx_ar As ++ List.replicate (2 - (vx_ar As).length) none = L0)
    (body : ∀ (lim z : vx_Z) X, vx_cl0 none lim tb_V_tell (fun r z' h' => z' = z ∧ P r h') X → X 0 L0 [] z h) : vx_Ok m_V_tell As sz h P :=
  vx_ok0 (M := (⟨"VoteWalls", "tell", "(I)I"⟩, prog_1_method_32_code, 2, (some .int), 4, 0, 0, 1, 0)) rfl (ow := 6) rfl ck_V_tell rfl hlen hL0 body
abbrev kb_V_bullyTells_0 : List vx_I := [(.aload_n 0, 1, 0, 0, .null, []), (.iconst 3, 1, 0, 0, .int 3, []), (.invokevirtual 240, 3, 94, 1, .null, [(0, 0), (0, 0), (0, 0), (0, 0), (0, 0), (0, 0)]), (.aload_n 0, 1, 0, 0, .null, []), (.iload_n 1, 1, 1, 0, .null, []), (.invokevirtual 234, 3, 95, 1, .null, [(0, 0), (0, 0), (0, 0), (0, 0), (0, 0), (0, 0)]), (.istore_n 2, 1, 2, 0, .null, []), (.iload_n 2, 1, 2, 0, .null, []), (.aload_n 0, 1, 0, 0, .null, []), (.iload_n 1, 1, 1, 0, .null, []), (.invokevirtual 237, 3, 96, 1, .null, [(0, 0), (0, 0), (0, 0), (0, 0), (0, 0), (0, 0)]), (.iadd, 1, 0, 0, .null, []), (.ireturn, 1, 0, 0, .null, [])]
def tb_V_bullyTells : List (Nat × List vx_I) := [(0, kb_V_bullyTells_0)]
theorem bk_V_bullyTells_0 : vx_bk tb_V_bullyTells 0 = kb_V_bullyTells_0 := rfl
abbrev m_V_bullyTells : Nat := 93
set_option maxRecDepth 100000 in
theorem ck_V_bullyTells : vx_ckM prog_1_method_65_code 6 3 3 false (some .int) tb_V_bullyTells = true := by decide +kernel
theorem ok_V_bullyTells {As : List Value} {sz : Nat} {h : vx_H} {P : Option Value → vx_H → Prop} (L0 : vx_L) (hlen : (vx_ar As).length ≤ 3) (hL0 : vx_ar As ++ List.replicate (3 - (vx_ar As).length) none = L0)
    (body : ∀ (lim z : vx_Z) X, vx_cl0 none lim tb_V_bullyTells (fun r z' h' => z' = z ∧ P r h') X → X 0 L0 [] z h) : vx_Ok m_V_bullyTells As sz h P :=
  vx_ok0 (M := (⟨"VoteWalls", "bullyTells", "(I)I"⟩, prog_1_method_65_code, 3, (some .int), 3, 0, 0, 1, 0)) rfl (ow := 6) rfl ck_V_bullyTells rfl hlen hL0 body
abbrev kb_V_leave_0 : List vx_I := [(.aload_n 0, 1, 0, 0, .null, []), (.bipush 31, 2, 0, 0, .int 31, []), (.aload_n 0, 1, 0, 0, .null, []), (.getfield 67, 3, 6, 10, .null, []), (.imul, 1, 0, 0, .null, []), (.iload_n 1, 1, 1, 0, .null, []), (.iadd, 1, 0, 0, .null, []), (.putfield 67, 3, 6, 10, .int 0, []), (.return_, 1, 0, 0, .null, [])]
def tb_V_leave : List (Nat × List vx_I) := [(0, kb_V_leave_0)]
theorem bk_V_leave_0 : vx_bk tb_V_leave 0 = kb_V_leave_0 := rfl
abbrev m_V_leave : Nat := 94
set_option maxRecDepth 100000 in
theorem ck_V_leave : vx_ckM prog_1_method_62_code 6 2 0 false none tb_V_leave = true := by decide +kernel
theorem ok_V_leave {As : List Value} {sz : Nat} {h : vx_H} {P : Option Value → vx_H → Prop} (L0 : vx_L) (hlen : (vx_ar As).length ≤ 2) (hL0 : vx_ar As ++ List.replicate (2 - (vx_ar As).length) none = L0)
    (body : ∀ (lim z : vx_Z) X, vx_cl0 none lim tb_V_leave (fun r z' h' => z' = z ∧ P r h') X → X 0 L0 [] z h) : vx_Ok m_V_leave As sz h P :=
  vx_ok0 (M := (⟨"VoteWalls", "leave", "(I)V"⟩, prog_1_method_62_code, 2, none, 0, 0, 0, 1, 0)) rfl (ow := 6) rfl ck_V_leave rfl hlen hL0 body
abbrev kb_V_tallTells_0 : List vx_I := [(.aload_n 0, 1, 0, 0, .null, []), (.iconst 2, 1, 0, 0, .int 2, []), (.invokevirtual 240, 3, 94, 1, .null, [(0, 0), (0, 0), (0, 0), (0, 0), (0, 0), (0, 0)]), (.aload_n 0, 1, 0, 0, .null, []), (.iload_n 1, 1, 1, 0, .null, []), (.invokevirtual 237, 3, 96, 1, .null, [(0, 0), (0, 0), (0, 0), (0, 0), (0, 0), (0, 0)]), (.bipush 100, 2, 0, 0, .int 100, []), (.iadd, 1, 0, 0, .null, []), (.ireturn, 1, 0, 0, .null, [])]
def tb_V_tallTells : List (Nat × List vx_I) := [(0, kb_V_tallTells_0)]
theorem bk_V_tallTells_0 : vx_bk tb_V_tallTells 0 = kb_V_tallTells_0 := rfl
abbrev m_V_tallTells : Nat := 95
set_option maxRecDepth 100000 in
theorem ck_V_tallTells : vx_ckM prog_1_method_64_code 6 2 2 false (some .int) tb_V_tallTells = true := by decide +kernel
theorem ok_V_tallTells {As : List Value} {sz : Nat} {h : vx_H} {P : Option Value → vx_H → Prop} (L0 : vx_L) (hlen : (vx_ar As).length ≤ 2) (hL0 : vx_ar As ++ List.replicate (2 - (vx_ar As).length) none = L0)
    (body : ∀ (lim z : vx_Z) X, vx_cl0 none lim tb_V_tallTells (fun r z' h' => z' = z ∧ P r h') X → X 0 L0 [] z h) : vx_Ok m_V_tallTells As sz h P :=
  vx_ok0 (M := (⟨"VoteWalls", "tallTells", "(I)I"⟩, prog_1_method_64_code, 2, (some .int), 2, 0, 0, 1, 0)) rfl (ow := 6) rfl ck_V_tallTells rfl hlen hL0 body
abbrev kb_V_prisonerTells_0 : List vx_I := [(.aload_n 0, 1, 0, 0, .null, []), (.iconst 1, 1, 0, 0, .int 1, []), (.invokevirtual 240, 3, 94, 1, .null, [(0, 0), (0, 0), (0, 0), (0, 0), (0, 0), (0, 0)]), (.iload_n 1, 1, 1, 0, .null, []), (.ireturn, 1, 0, 0, .null, [])]
def tb_V_prisonerTells : List (Nat × List vx_I) := [(0, kb_V_prisonerTells_0)]
theorem bk_V_prisonerTells_0 : vx_bk tb_V_prisonerTells 0 = kb_V_prisonerTells_0 := rfl
abbrev m_V_prisonerTells : Nat := 96
set_option maxRecDepth 100000 in
theorem ck_V_prisonerTells : vx_ckM prog_1_method_63_code 6 2 1 false (some .int) tb_V_prisonerTells = true := by decide +kernel
theorem ok_V_prisonerTells {As : List Value} {sz : Nat} {h : vx_H} {P : Option Value → vx_H → Prop} (L0 : vx_L) (hlen : (vx_ar As).length ≤ 2) (hL0 : vx_ar As ++ List.replicate (2 - (vx_ar As).length) none = L0)
    (body : ∀ (lim z : vx_Z) X, vx_cl0 none lim tb_V_prisonerTells (fun r z' h' => z' = z ∧ P r h') X → X 0 L0 [] z h) : vx_Ok m_V_prisonerTells As sz h P :=
  vx_ok0 (M := (⟨"VoteWalls", "prisonerTells", "(I)I"⟩, prog_1_method_63_code, 2, (some .int), 1, 0, 0, 1, 0)) rfl (ow := 6) rfl ck_V_prisonerTells rfl hlen hL0 body
abbrev kb_V_visit_0 : List vx_I := [(.aload_n 0, 1, 0, 0, .null, []), (.iload_n 1, 1, 1, 0, .null, []), (.invokevirtual 91, 3, 29, 1, .null, [(0, 0), (0, 0), (0, 0), (0, 0), (0, 0), (0, 0)]), (.ifCond .ne 5, 3, 10, 0, .null, []), (.iconst (-1), 1, 0, 0, .int (-1), []), (.ireturn, 1, 0, 0, .null, [])]
abbrev kb_V_visit_10 : List vx_I := [(.aload_n 0, 1, 0, 0, .null, []), (.getfield 56, 3, 6, 7, .null, []), (.getfield 95, 3, 5, 1, .null, []), (.iload_n 1, 1, 1, 0, .null, []), (.iaload, 1, 0, 0, .null, []), (.iconst 2, 1, 0, 0, .int 2, []), (.if_icmp .ne 11, 3, 31, 0, .null, []), (.aload_n 0, 1, 0, 0, .null, []), (.iconst 5, 1, 0, 0, .int 5, []), (.invokevirtual 240, 3, 94, 1, .null, [(0, 0), (0, 0), (0, 0), (0, 0), (0, 0), (0, 0)]), (.bipush 90, 2, 0, 0, .int 90, []), (.ireturn, 1, 0, 0, .null, [])]
abbrev kb_V_visit_31 : List vx_I := [(.aload_n 0, 1, 0, 0, .null, []), (.iconst 4, 1, 0, 0, .int 4, []), (.invokevirtual 240, 3, 94, 1, .null, [(0, 0), (0, 0), (0, 0), (0, 0), (0, 0), (0, 0)]), (.iload_n 1, 1, 1, 0, .null, []), (.ireturn, 1, 0, 0, .null, [])]
def tb_V_visit : List (Nat × List vx_I) := [(0, kb_V_visit_0), (10, kb_V_visit_10), (31, kb_V_visit_31)]
theorem bk_V_visit_0 : vx_bk tb_V_visit 0 = kb_V_visit_0 := rfl
theorem bk_V_visit_10 : vx_bk tb_V_visit 10 = kb_V_visit_10 := rfl
theorem bk_V_visit_31 : vx_bk tb_V_visit 31 = kb_V_visit_31 := rfl
abbrev m_V_visit : Nat := 97
set_option maxRecDepth 100000 in
theorem ck_V_visit : vx_ckM prog_1_method_33_code 6 2 1 false (some .int) tb_V_visit = true := by decide +kernel
theorem ok_V_visit {As : List Value} {sz : Nat} {h : vx_H} {P : Option Value → vx_H → Prop} (L0 : vx_L) (hlen : (vx_ar As).length ≤ 2) (hL0 : vx_ar As ++ List.replicate (2 - (vx_ar As).length) none = L0)
    (body : ∀ (lim z : vx_Z) X, vx_cl0 none lim tb_V_visit (fun r z' h' => z' = z ∧ P r h') X → X 0 L0 [] z h) : vx_Ok m_V_visit As sz h P :=
  vx_ok0 (M := (⟨"VoteWalls", "visit", "(I)I"⟩, prog_1_method_33_code, 2, (some .int), 1, 0, 0, 1, 0)) rfl (ow := 6) rfl ck_V_visit rfl hlen hL0 body
abbrev kb_V_as_0 : List vx_I := [(.aload_n 0, 1, 0, 0, .null, []), (.iconst 0, 1, 0, 0, .int 0, []), (.putfield 70, 3, 6, 11, .int 0, []), (.aload_n 0, 1, 0, 0, .null, []), (.iload_n 1, 1, 1, 0, .null, []), (.invokevirtual 91, 3, 29, 1, .null, [(0, 0), (0, 0), (0, 0), (0, 0), (0, 0), (0, 0)]), (.ifCond .ne 5, 3, 15, 0, .null, []), (.iconst (-1), 1, 0, 0, .int (-1), []), (.ireturn, 1, 0, 0, .null, [])]
abbrev kb_V_as_15 : List vx_I := [(.iload_n 2, 1, 2, 0, .null, []), (.ifCond .lt 8, 3, 24, 0, .null, []), (.iload_n 2, 1, 2, 0, .null, []), (.iconst 2, 1, 0, 0, .int 2, []), (.if_icmp .le 6, 3, 27, 0, .null, [])]
abbrev kb_V_as_24 : List vx_I := [(.bipush (-2), 2, 0, 0, .int (-2), []), (.ireturn, 1, 0, 0, .null, [])]
abbrev kb_V_as_27 : List vx_I := [(.aload_n 0, 1, 0, 0, .null, []), (.getfield 56, 3, 6, 7, .null, []), (.getfield 95, 3, 5, 1, .null, []), (.iload_n 1, 1, 1, 0, .null, []), (.iaload, 1, 0, 0, .null, []), (.iload_n 2, 1, 2, 0, .null, []), (.if_icmp .ge 11, 3, 48, 0, .null, []), (.aload_n 0, 1, 0, 0, .null, []), (.iconst 2, 1, 0, 0, .int 2, []), (.invokevirtual 203, 3, 13, 1, .null, [(0, 0), (0, 0), (0, 0), (0, 0), (0, 0), (0, 0)]), (.goto 4, 3, 49, 0, .null, [])]
abbrev kb_V_as_48 : List vx_I := [(.iconst 1, 1, 0, 0, .int 1, [])]
abbrev kb_V_as_49 : List vx_I := [(.ireturn, 1, 0, 0, .null, [])]
def tb_V_as : List (Nat × List vx_I) := [(0, kb_V_as_0), (15, kb_V_as_15), (24, kb_V_as_24), (27, kb_V_as_27), (48, kb_V_as_48), (49, kb_V_as_49)]
theorem bk_V_as_0 : vx_bk tb_V_as 0 = kb_V_as_0 := rfl
theorem bk_V_as_15 : vx_bk tb_V_as 15 = kb_V_as_15 := rfl
theorem bk_V_as_24 : vx_bk tb_V_as 24 = kb_V_as_24 := rfl
theorem bk_V_as_27 : vx_bk tb_V_as 27 = kb_V_as_27 := rfl
theorem bk_V_as_48 : vx_bk tb_V_as 48 = kb_V_as_48 := rfl
theorem bk_V_as_49 : vx_bk tb_V_as 49 = kb_V_as_49 := rfl
abbrev m_V_as : Nat := 98
set_option maxRecDepth 100000 in
theorem ck_V_as : vx_ckM prog_1_method_34_code 6 3 1 false (some .int) tb_V_as = true := by decide +kernel
theorem ok_V_as {As : List Value} {sz : Nat} {h : vx_H} {P : Option Value → vx_H → Prop} (L0 : vx_L) (hlen : (vx_ar As).length ≤ 3) (hL0 : vx_ar As ++ List.replicate (3 - (vx_ar As).length) none = L0)
    (body : ∀ (lim z : vx_Z) X, vx_cl0 none lim tb_V_as (fun r z' h' => z' = z ∧ P r h') X → X 0 L0 [] z h) : vx_Ok m_V_as As sz h P :=
  vx_ok0 (M := (⟨"VoteWalls", "as", "(II)I"⟩, prog_1_method_34_code, 3, (some .int), 1, 0, 0, 2, 0)) rfl (ow := 6) rfl ck_V_as rfl hlen hL0 body
abbrev kb_V_trace_0 : List vx_I := [(.aload_n 0, 1, 0, 0, .null, []), (.getfield 67, 3, 6, 10, .null, []), (.ireturn, 1, 0, 0, .null, [])]
def tb_V_trace : List (Nat × List vx_I) := [(0, kb_V_trace_0)]
theorem bk_V_trace_0 : vx_bk tb_V_trace 0 = kb_V_trace_0 := rfl
abbrev m_V_trace : Nat := 99
set_option maxRecDepth 100000 in
theorem ck_V_trace : vx_ckM prog_1_method_35_code 6 1 0 false (some .int) tb_V_trace = true := by decide +kernel
theorem ok_V_trace {As : List Value} {sz : Nat} {h : vx_H} {P : Option Value → vx_H → Prop} (L0 : vx_L) (hlen : (vx_ar As).length ≤ 1) (hL0 : vx_ar As ++ List.replicate (1 - (vx_ar As).length) none = L0)
    (body : ∀ (lim z : vx_Z) X, vx_cl0 none lim tb_V_trace (fun r z' h' => z' = z ∧ P r h') X → X 0 L0 [] z h) : vx_Ok m_V_trace As sz h P :=
  vx_ok0 (M := (⟨"VoteWalls", "trace", "()I"⟩, prog_1_method_35_code, 1, (some .int), 0, 0, 0, 0, 0)) rfl (ow := 6) rfl ck_V_trace rfl hlen hL0 body
abbrev kb_V_fault_0 : List vx_I := [(.aload_n 0, 1, 0, 0, .null, []), (.getfield 70, 3, 6, 11, .null, []), (.ireturn, 1, 0, 0, .null, [])]
def tb_V_fault : List (Nat × List vx_I) := [(0, kb_V_fault_0)]
theorem bk_V_fault_0 : vx_bk tb_V_fault 0 = kb_V_fault_0 := rfl
abbrev m_V_fault : Nat := 100
set_option maxRecDepth 100000 in
theorem ck_V_fault : vx_ckM prog_1_method_36_code 6 1 0 false (some .int) tb_V_fault = true := by decide +kernel
theorem ok_V_fault {As : List Value} {sz : Nat} {h : vx_H} {P : Option Value → vx_H → Prop} (L0 : vx_L) (hlen : (vx_ar As).length ≤ 1) (hL0 : vx_ar As ++ List.replicate (1 - (vx_ar As).length) none = L0)
    (body : ∀ (lim z : vx_Z) X, vx_cl0 none lim tb_V_fault (fun r z' h' => z' = z ∧ P r h') X → X 0 L0 [] z h) : vx_Ok m_V_fault As sz h P :=
  vx_ok0 (M := (⟨"VoteWalls", "fault", "()I"⟩, prog_1_method_36_code, 1, (some .int), 0, 0, 0, 0, 0)) rfl (ow := 6) rfl ck_V_fault rfl hlen hL0 body
abbrev kb_V_many_0 : List vx_I := [(.iload_n 1, 1, 1, 0, .null, []), (.tableswitch 96 0 6 #[43, 51, 59, 67, 75, 83, 91], 43, 97, 0, .null, [(0, 44), (1, 52), (2, 60), (3, 68), (4, 76), (5, 84), (6, 92)])]
abbrev kb_V_many_44 : List vx_I := [(.aload_n 0, 1, 0, 0, .null, []), (.getfield 56, 3, 6, 7, .null, []), (.getfield 88, 3, 5, 5, .null, []), (.ireturn, 1, 0, 0, .null, [])]
abbrev kb_V_many_52 : List vx_I := [(.aload_n 0, 1, 0, 0, .null, []), (.getfield 56, 3, 6, 7, .null, []), (.getfield 156, 3, 5, 4, .null, []), (.ireturn, 1, 0, 0, .null, [])]
abbrev kb_V_many_60 : List vx_I := [(.aload_n 0, 1, 0, 0, .null, []), (.getfield 56, 3, 6, 7, .null, []), (.getfield 166, 3, 5, 3, .null, []), (.ireturn, 1, 0, 0, .null, [])]
abbrev kb_V_many_68 : List vx_I := [(.aload_n 0, 1, 0, 0, .null, []), (.getfield 29, 3, 6, 2, .null, []), (.getfield 243, 3, 3, 4, .null, []), (.ireturn, 1, 0, 0, .null, [])]
abbrev kb_V_many_76 : List vx_I := [(.aload_n 0, 1, 0, 0, .null, []), (.getfield 33, 3, 6, 3, .null, []), (.getfield 243, 3, 3, 4, .null, []), (.ireturn, 1, 0, 0, .null, [])]
abbrev kb_V_many_84 : List vx_I := [(.aload_n 0, 1, 0, 0, .null, []), (.getfield 36, 3, 6, 4, .null, []), (.getfield 243, 3, 3, 4, .null, []), (.ireturn, 1, 0, 0, .null, [])]
abbrev kb_V_many_92 : List vx_I := [(.aload_n 0, 1, 0, 0, .null, []), (.getfield 63, 3, 6, 9, .null, []), (.ireturn, 1, 0, 0, .null, [])]
abbrev kb_V_many_97 : List vx_I := [(.bipush (-2), 2, 0, 0, .int (-2), []), (.ireturn, 1, 0, 0, .null, [])]
def tb_V_many : List (Nat × List vx_I) := [(0, kb_V_many_0), (44, kb_V_many_44), (52, kb_V_many_52), (60, kb_V_many_60), (68, kb_V_many_68), (76, kb_V_many_76), (84, kb_V_many_84), (92, kb_V_many_92), (97, kb_V_many_97)]
theorem bk_V_many_0 : vx_bk tb_V_many 0 = kb_V_many_0 := rfl
theorem bk_V_many_44 : vx_bk tb_V_many 44 = kb_V_many_44 := rfl
theorem bk_V_many_52 : vx_bk tb_V_many 52 = kb_V_many_52 := rfl
theorem bk_V_many_60 : vx_bk tb_V_many 60 = kb_V_many_60 := rfl
theorem bk_V_many_68 : vx_bk tb_V_many 68 = kb_V_many_68 := rfl
theorem bk_V_many_76 : vx_bk tb_V_many 76 = kb_V_many_76 := rfl
theorem bk_V_many_84 : vx_bk tb_V_many 84 = kb_V_many_84 := rfl
theorem bk_V_many_92 : vx_bk tb_V_many 92 = kb_V_many_92 := rfl
theorem bk_V_many_97 : vx_bk tb_V_many 97 = kb_V_many_97 := rfl
abbrev m_V_many : Nat := 101
set_option maxRecDepth 100000 in
theorem ck_V_many : vx_ckM prog_1_method_37_code 6 2 0 false (some .int) tb_V_many = true := by decide +kernel
theorem ok_V_many {As : List Value} {sz : Nat} {h : vx_H} {P : Option Value → vx_H → Prop} (L0 : vx_L) (hlen : (vx_ar As).length ≤ 2) (hL0 : vx_ar As ++ List.replicate (2 - (vx_ar As).length) none = L0)
    (body : ∀ (lim z : vx_Z) X, vx_cl0 none lim tb_V_many (fun r z' h' => z' = z ∧ P r h') X → X 0 L0 [] z h) : vx_Ok m_V_many As sz h P :=
  vx_ok0 (M := (⟨"VoteWalls", "many", "(I)I"⟩, prog_1_method_37_code, 2, (some .int), 0, 0, 0, 1, 0)) rfl (ow := 6) rfl ck_V_many rfl hlen hL0 body
