/-! blocks, printed by wip/gen.py: of each method its items from every place to which it jumps on -/
abbrev kb_Tr_init_0 : List vx_I := [(.aload_n 0, 1, 0, 0, .null, []), (.invokespecial 3, 3, 0, 0, .int 0, []), (.aload_n 0, 1, 0, 0, .null, []), (.iconst 0, 1, 0, 0, .int 0, []), (.putfield 9, 3, 2, 1, .int 0, []), (.aload_n 0, 1, 0, 0, .null, []), (.iconst 0, 1, 0, 0, .int 0, []), (.putfield 15, 3, 2, 2, .int 0, []), (.aload_n 0, 1, 0, 0, .null, []), (.iconst 0, 1, 0, 0, .int 0, []), (.putfield 18, 3, 2, 3, .int 0, []), (.return_, 1, 0, 0, .null, [])]
def tb_Tr_init : List (Nat × List vx_I) := [(0, kb_Tr_init_0)]
theorem bk_Tr_init_0 : vx_bk tb_Tr_init 0 = kb_Tr_init_0 := rfl
abbrev m_Tr_init : Nat := 1
set_option maxRecDepth 100000 in
theorem ck_Tr_init : vx_ckM prog_4_method_1_code 2 1 1 true none tb_Tr_init = true := by decide +kernel
theorem ok_Tr_init {As : List Value} {sz : Nat} {h : vx_H} {P : Option Value → vx_H → Prop} (L0 : vx_L) (hlen : (vx_ar As).length ≤ 1) (hL0 : vx_ar As ++ List.replicate (1 - (vx_ar As).length) none = L0)
    (body : ∀ (lim z : vx_Z) X, vx_cl0 none lim tb_Tr_init (fun r z' h' => z' = z ∧ P r h') X → X 0 L0 [] z h) : vx_Ok m_Tr_init As sz h P :=
  vx_ok0 (M := (⟨"VoteWalls$TextReader", "<init>", "()V"⟩, prog_4_method_1_code, 1, none, 1, 0, 0, 0, 2)) rfl (ow := 2) rfl ck_Tr_init rfl hlen hL0 body
abbrev kb_Tp_init_0 : List vx_I := [(.aload_n 0, 1, 0, 0, .null, []), (.invokespecial 3, 3, 0, 0, .int 0, []), (.aload_n 0, 1, 0, 0, .null, []), (.bipush 8, 2, 0, 0, .int 8, []), (.newarray .int, 2, 0, 8, .null, []), (.putfield 9, 3, 3, 0, .null, []), (.aload_n 0, 1, 0, 0, .null, []), (.bipush 8, 2, 0, 0, .int 8, []), (.newarray .int, 2, 0, 8, .null, []), (.putfield 15, 3, 3, 1, .null, []), (.aload_n 0, 1, 0, 0, .null, []), (.bipush 8, 2, 0, 0, .int 8, []), (.newarray .int, 2, 0, 8, .null, []), (.putfield 18, 3, 3, 2, .null, []), (.aload_n 0, 1, 0, 0, .null, []), (.iconst 0, 1, 0, 0, .int 0, []), (.putfield 21, 3, 3, 4, .int 0, []), (.aload_n 0, 1, 0, 0, .null, []), (.iload_n 1, 1, 1, 0, .null, []), (.bipush 8, 2, 0, 0, .int 8, []), (.invokestatic 25, 3, 0, 0, .long 0, []), (.putfield 31, 3, 3, 3, .int 0, []), (.return_, 1, 0, 0, .null, [])]
def tb_Tp_init : List (Nat × List vx_I) := [(0, kb_Tp_init_0)]
theorem bk_Tp_init_0 : vx_bk tb_Tp_init 0 = kb_Tp_init_0 := rfl
abbrev m_Tp_init : Nat := 2
set_option maxRecDepth 100000 in
theorem ck_Tp_init : vx_ckM prog_5_method_1_code 3 2 1 true none tb_Tp_init = true := by decide +kernel
theorem ok_Tp_init {As : List Value} {sz : Nat} {h : vx_H} {P : Option Value → vx_H → Prop} (L0 : vx_L) (hlen : (vx_ar As).length ≤ 2) (hL0 : vx_ar As ++ List.replicate (2 - (vx_ar As).length) none = L0)
    (body : ∀ X, vx_cl0 none (sz + 3, 24) tb_Tp_init (fun r z' h' => z'.1 = sz + 3 ∧ P r h') X → X 0 L0 [] (sz, 0) h) : vx_Ok m_Tp_init As sz h P :=
  vx_ok (M := (⟨"VoteWalls$Triples", "<init>", "(I)V"⟩, prog_5_method_1_code, 2, none, 1, 3, 24, 1, 2)) rfl (ow := 3) rfl ck_Tp_init hlen hL0 (fun _ _ _ h => h) body
abbrev kb_Cal_init_0 : List vx_I := [(.aload_n 0, 1, 0, 0, .null, []), (.invokespecial 3, 3, 0, 0, .int 0, []), (.aload_n 0, 1, 0, 0, .null, []), (.bipush 50, 2, 0, 0, .int 50, []), (.newarray .int, 2, 0, 50, .null, []), (.putfield 9, 3, 0, 0, .null, []), (.aload_n 0, 1, 0, 0, .null, []), (.bipush 50, 2, 0, 0, .int 50, []), (.newarray .int, 2, 0, 50, .null, []), (.putfield 15, 3, 0, 1, .null, []), (.aload_n 0, 1, 0, 0, .null, []), (.iconst 0, 1, 0, 0, .int 0, []), (.putfield 18, 3, 0, 2, .int 0, []), (.return_, 1, 0, 0, .null, [])]
def tb_Cal_init : List (Nat × List vx_I) := [(0, kb_Cal_init_0)]
theorem bk_Cal_init_0 : vx_bk tb_Cal_init 0 = kb_Cal_init_0 := rfl
abbrev m_Cal_init : Nat := 3
set_option maxRecDepth 100000 in
theorem ck_Cal_init : vx_ckM prog_2_method_1_code 0 1 1 true none tb_Cal_init = true := by decide +kernel
theorem ok_Cal_init {As : List Value} {sz : Nat} {h : vx_H} {P : Option Value → vx_H → Prop} (L0 : vx_L) (hlen : (vx_ar As).length ≤ 1) (hL0 : vx_ar As ++ List.replicate (1 - (vx_ar As).length) none = L0)
    (body : ∀ X, vx_cl0 none (sz + 2, 100) tb_Cal_init (fun r z' h' => z'.1 = sz + 2 ∧ P r h') X → X 0 L0 [] (sz, 0) h) : vx_Ok m_Cal_init As sz h P :=
  vx_ok (M := (⟨"VoteWalls$Calendar", "<init>", "()V"⟩, prog_2_method_1_code, 1, none, 1, 2, 100, 0, 2)) rfl (ow := 0) rfl ck_Cal_init hlen hL0 (fun _ _ _ h => h) body
abbrev kb_Wk_init_0 : List vx_I := [(.aload_n 0, 1, 0, 0, .null, []), (.invokespecial 3, 3, 0, 0, .int 0, []), (.aload_n 0, 1, 0, 0, .null, []), (.sipush 255, 3, 0, 0, .int 255, []), (.newarray .int, 2, 0, 255, .null, []), (.putfield 9, 3, 4, 0, .null, []), (.aload_n 0, 1, 0, 0, .null, []), (.iconst 5, 1, 0, 0, .int 5, []), (.newarray .int, 2, 0, 5, .null, []), (.putfield 15, 3, 4, 1, .null, []), (.aload_n 0, 1, 0, 0, .null, []), (.bipush 31, 2, 0, 0, .int 31, []), (.newarray .int, 2, 0, 31, .null, []), (.putfield 18, 3, 4, 2, .null, []), (.aload_n 0, 1, 0, 0, .null, []), (.iconst 0, 1, 0, 0, .int 0, []), (.putfield 21, 3, 4, 3, .int 0, []), (.aload_n 0, 1, 0, 0, .null, []), (.iconst 0, 1, 0, 0, .int 0, []), (.putfield 25, 3, 4, 4, .int 0, []), (.aload_n 0, 1, 0, 0, .null, []), (.iconst (-1), 1, 0, 0, .int (-1), []), (.putfield 28, 3, 4, 5, .int 0, []), (.aload_n 0, 1, 0, 0, .null, []), (.iconst (-1), 1, 0, 0, .int (-1), []), (.putfield 31, 3, 4, 6, .int 0, []), (.return_, 1, 0, 0, .null, [])]
def tb_Wk_init : List (Nat × List vx_I) := [(0, kb_Wk_init_0)]
theorem bk_Wk_init_0 : vx_bk tb_Wk_init 0 = kb_Wk_init_0 := rfl
abbrev m_Wk_init : Nat := 4
set_option maxRecDepth 100000 in
theorem ck_Wk_init : vx_ckM prog_6_method_1_code 4 1 1 true none tb_Wk_init = true := by decide +kernel
theorem ok_Wk_init {As : List Value} {sz : Nat} {h : vx_H} {P : Option Value → vx_H → Prop} (L0 : vx_L) (hlen : (vx_ar As).length ≤ 1) (hL0 : vx_ar As ++ List.replicate (1 - (vx_ar As).length) none = L0)
    (body : ∀ X, vx_cl0 none (sz + 3, 291) tb_Wk_init (fun r z' h' => z'.1 = sz + 3 ∧ P r h') X → X 0 L0 [] (sz, 0) h) : vx_Ok m_Wk_init As sz h P :=
  vx_ok (M := (⟨"VoteWalls$Weeks", "<init>", "()V"⟩, prog_6_method_1_code, 1, none, 1, 3, 291, 0, 2)) rfl (ow := 4) rfl ck_Wk_init hlen hL0 (fun _ _ _ h => h) body
abbrev kb_Yd_init_0 : List vx_I := [(.aload_n 0, 1, 0, 0, .null, []), (.invokespecial 3, 3, 0, 0, .int 0, []), (.aload_n 0, 1, 0, 0, .null, []), (.iconst 5, 1, 0, 0, .int 5, []), (.newarray .int, 2, 0, 5, .null, []), (.putfield 9, 3, 5, 0, .null, []), (.aload_n 0, 1, 0, 0, .null, []), (.bipush 8, 2, 0, 0, .int 8, []), (.newarray .int, 2, 0, 8, .null, []), (.putfield 15, 3, 5, 1, .null, []), (.aload_n 0, 1, 0, 0, .null, []), (.bipush 8, 2, 0, 0, .int 8, []), (.newarray .int, 2, 0, 8, .null, []), (.putfield 18, 3, 5, 2, .null, []), (.aload_n 0, 1, 0, 0, .null, []), (.iconst 0, 1, 0, 0, .int 0, []), (.putfield 21, 3, 5, 3, .int 0, []), (.aload_n 0, 1, 0, 0, .null, []), (.iconst 0, 1, 0, 0, .int 0, []), (.putfield 25, 3, 5, 4, .int 0, []), (.aload_n 0, 1, 0, 0, .null, []), (.iconst 0, 1, 0, 0, .int 0, []), (.putfield 28, 3, 5, 5, .int 0, []), (.return_, 1, 0, 0, .null, [])]
def tb_Yd_init : List (Nat × List vx_I) := [(0, kb_Yd_init_0)]
theorem bk_Yd_init_0 : vx_bk tb_Yd_init 0 = kb_Yd_init_0 := rfl
abbrev m_Yd_init : Nat := 5
set_option maxRecDepth 100000 in
theorem ck_Yd_init : vx_ckM prog_7_method_1_code 5 1 1 true none tb_Yd_init = true := by decide +kernel
theorem ok_Yd_init {As : List Value} {sz : Nat} {h : vx_H} {P : Option Value → vx_H → Prop} (L0 : vx_L) (hlen : (vx_ar As).length ≤ 1) (hL0 : vx_ar As ++ List.replicate (1 - (vx_ar As).length) none = L0)
    (body : ∀ X, vx_cl0 none (sz + 3, 21) tb_Yd_init (fun r z' h' => z'.1 = sz + 3 ∧ P r h') X → X 0 L0 [] (sz, 0) h) : vx_Ok m_Yd_init As sz h P :=
  vx_ok (M := (⟨"VoteWalls$Yard", "<init>", "()V"⟩, prog_7_method_1_code, 1, none, 1, 3, 21, 0, 2)) rfl (ow := 5) rfl ck_Yd_init hlen hL0 (fun _ _ _ h => h) body
abbrev kb_Sh_init_0 : List vx_I := [(.aload_n 0, 1, 0, 0, .null, []), (.invokespecial 3, 3, 0, 0, .int 0, []), (.aload_n 0, 1, 0, 0, .null, []), (.bipush 60, 2, 0, 0, .int 60, []), (.newarray .int, 2, 0, 60, .null, []), (.putfield 9, 3, 1, 0, .null, []), (.aload_n 0, 1, 0, 0, .null, []), (.iconst (-1), 1, 0, 0, .int (-1), []), (.putfield 15, 3, 1, 1, .int 0, []), (.aload_n 0, 1, 0, 0, .null, []), (.iconst 0, 1, 0, 0, .int 0, []), (.putfield 19, 3, 1, 2, .int 0, []), (.return_, 1, 0, 0, .null, [])]
def tb_Sh_init : List (Nat × List vx_I) := [(0, kb_Sh_init_0)]
theorem bk_Sh_init_0 : vx_bk tb_Sh_init 0 = kb_Sh_init_0 := rfl
abbrev m_Sh_init : Nat := 6
set_option maxRecDepth 100000 in
theorem ck_Sh_init : vx_ckM prog_3_method_1_code 1 1 1 true none tb_Sh_init = true := by decide +kernel
theorem ok_Sh_init {As : List Value} {sz : Nat} {h : vx_H} {P : Option Value → vx_H → Prop} (L0 : vx_L) (hlen : (vx_ar As).length ≤ 1) (hL0 : vx_ar As ++ List.replicate (1 - (vx_ar As).length) none = L0)
    (body : ∀ X, vx_cl0 none (sz + 1, 60) tb_Sh_init (fun r z' h' => z'.1 = sz + 1 ∧ P r h') X → X 0 L0 [] (sz, 0) h) : vx_Ok m_Sh_init As sz h P :=
  vx_ok (M := (⟨"VoteWalls$Sheet", "<init>", "()V"⟩, prog_3_method_1_code, 1, none, 1, 1, 60, 0, 2)) rfl (ow := 1) rfl ck_Sh_init hlen hL0 (fun _ _ _ h => h) body
abbrev kb_Sh_faultOfCells_0 : List vx_I := [(.aload_n 0, 1, 0, 0, .null, []), (.getfield 15, 3, 1, 1, .null, []), (.iconst (-1), 1, 0, 0, .int (-1), []), (.if_icmp .ne 5, 3, 10, 0, .null, []), (.iconst 1, 1, 0, 0, .int 1, []), (.ireturn, 1, 0, 0, .null, [])]
abbrev kb_Sh_faultOfCells_10 : List vx_I := [(.aload_n 0, 1, 0, 0, .null, []), (.getfield 15, 3, 1, 1, .null, []), (.iload_n 1, 1, 1, 0, .null, []), (.if_icmp .eq 5, 3, 20, 0, .null, []), (.iconst 2, 1, 0, 0, .int 2, []), (.ireturn, 1, 0, 0, .null, [])]
abbrev kb_Sh_faultOfCells_20 : List vx_I := [(.iload_n 3, 1, 3, 0, .null, []), (.ifCond .ge 5, 3, 26, 0, .null, []), (.iconst 4, 1, 0, 0, .int 4, []), (.ireturn, 1, 0, 0, .null, [])]
abbrev kb_Sh_faultOfCells_26 : List vx_I := [(.aload_n 0, 1, 0, 0, .null, []), (.iload_n 2, 1, 2, 0, .null, []), (.iload_n 3, 1, 3, 0, .null, []), (.invokevirtual 28, 3, 12, 2, .null, [(0, 0)]), (.ifCond .eq 7, 3, 39, 0, .null, []), (.iconst 0, 1, 0, 0, .int 0, []), (.goto 4, 3, 40, 0, .null, [])]
abbrev kb_Sh_faultOfCells_39 : List vx_I := [(.iconst 3, 1, 0, 0, .int 3, [])]
abbrev kb_Sh_faultOfCells_40 : List vx_I := [(.ireturn, 1, 0, 0, .null, [])]
def tb_Sh_faultOfCells : List (Nat × List vx_I) := [(0, kb_Sh_faultOfCells_0), (10, kb_Sh_faultOfCells_10), (20, kb_Sh_faultOfCells_20), (26, kb_Sh_faultOfCells_26), (39, kb_Sh_faultOfCells_39), (40, kb_Sh_faultOfCells_40)]
theorem bk_Sh_faultOfCells_0 : vx_bk tb_Sh_faultOfCells 0 = kb_Sh_faultOfCells_0 := rfl
theorem bk_Sh_faultOfCells_10 : vx_bk tb_Sh_faultOfCells 10 = kb_Sh_faultOfCells_10 := rfl
theorem bk_Sh_faultOfCells_20 : vx_bk tb_Sh_faultOfCells 20 = kb_Sh_faultOfCells_20 := rfl
theorem bk_Sh_faultOfCells_26 : vx_bk tb_Sh_faultOfCells 26 = kb_Sh_faultOfCells_26 := rfl
theorem bk_Sh_faultOfCells_39 : vx_bk tb_Sh_faultOfCells 39 = kb_Sh_faultOfCells_39 := rfl
theorem bk_Sh_faultOfCells_40 : vx_bk tb_Sh_faultOfCells 40 = kb_Sh_faultOfCells_40 := rfl
abbrev m_Sh_faultOfCells : Nat := 11
set_option maxRecDepth 100000 in
theorem ck_Sh_faultOfCells : vx_ckM prog_3_method_4_code 1 4 1 false (some .int) tb_Sh_faultOfCells = true := by decide +kernel
theorem ok_Sh_faultOfCells {As : List Value} {sz : Nat} {h : vx_H} {P : Option Value → vx_H → Prop} (L0 : vx_L) (hlen : (vx_ar As).length ≤ 4) (hL0 : vx_ar As ++ List.replicate (4 - (vx_ar As).length) none = L0)
    (body : ∀ (lim z : vx_Z) X, vx_cl0 none lim tb_Sh_faultOfCells (fun r z' h' => z' = z ∧ P r h') X → X 0 L0 [] z h) : vx_Ok m_Sh_faultOfCells As sz h P :=
  vx_ok0 (M := (⟨"VoteWalls$Sheet", "faultOfCells", "(III)I"⟩, prog_3_method_4_code, 4, (some .int), 1, 0, 0, 3, 0)) rfl (ow := 1) rfl ck_Sh_faultOfCells rfl hlen hL0 body
abbrev kb_Sh_holds_0 : List vx_I := [(.iload_n 2, 1, 2, 0, .null, []), (.ifCond .lt 29, 3, 30, 0, .null, []), (.iload_n 1, 1, 1, 0, .null, []), (.ifCond .lt 25, 3, 30, 0, .null, []), (.iload_n 1, 1, 1, 0, .null, []), (.aload_n 0, 1, 0, 0, .null, []), (.getfield 19, 3, 1, 2, .null, []), (.if_icmp .gt 17, 3, 30, 0, .null, []), (.iload_n 2, 1, 2, 0, .null, []), (.aload_n 0, 1, 0, 0, .null, []), (.getfield 19, 3, 1, 2, .null, []), (.iload_n 1, 1, 1, 0, .null, []), (.isub, 1, 0, 0, .null, []), (.if_icmp .gt 7, 3, 30, 0, .null, []), (.iconst 1, 1, 0, 0, .int 1, []), (.goto 4, 3, 31, 0, .null, [])]
abbrev kb_Sh_holds_30 : List vx_I := [(.iconst 0, 1, 0, 0, .int 0, [])]
abbrev kb_Sh_holds_31 : List vx_I := [(.ireturn, 1, 1, 0, .null, [])]
def tb_Sh_holds : List (Nat × List vx_I) := [(0, kb_Sh_holds_0), (30, kb_Sh_holds_30), (31, kb_Sh_holds_31)]
theorem bk_Sh_holds_0 : vx_bk tb_Sh_holds 0 = kb_Sh_holds_0 := rfl
theorem bk_Sh_holds_30 : vx_bk tb_Sh_holds 30 = kb_Sh_holds_30 := rfl
theorem bk_Sh_holds_31 : vx_bk tb_Sh_holds 31 = kb_Sh_holds_31 := rfl
abbrev m_Sh_holds : Nat := 12
set_option maxRecDepth 100000 in
theorem ck_Sh_holds : vx_ckM prog_3_method_3_code 1 3 0 false (some .boolean) tb_Sh_holds = true := by decide +kernel
theorem ok_Sh_holds {As : List Value} {sz : Nat} {h : vx_H} {P : Option Value → vx_H → Prop} (L0 : vx_L) (hlen : (vx_ar As).length ≤ 3) (hL0 : vx_ar As ++ List.replicate (3 - (vx_ar As).length) none = L0)
    (body : ∀ (lim z : vx_Z) X, vx_cl0 none lim tb_Sh_holds (fun r z' h' => z' = z ∧ P r h') X → X 0 L0 [] z h) : vx_Ok m_Sh_holds As sz h P :=
  vx_ok0 (M := (⟨"VoteWalls$Sheet", "holds", "(II)Z"⟩, prog_3_method_3_code, 3, (some .boolean), 0, 0, 0, 2, 0)) rfl (ow := 1) rfl ck_Sh_holds rfl hlen hL0 body
abbrev kb_Tr_takes_0 : List vx_I := [(.aload_n 0, 1, 0, 0, .null, []), (.aload_n 1, 1, 1, 0, .null, []), (.putfield 21, 3, 2, 0, .null, []), (.aload_n 0, 1, 0, 0, .null, []), (.iload_n 2, 1, 2, 0, .null, []), (.putfield 9, 3, 2, 1, .int 0, []), (.aload_n 0, 1, 0, 0, .null, []), (.iload_n 3, 1, 3, 0, .null, []), (.putfield 15, 3, 2, 2, .int 0, []), (.aload_n 0, 1, 0, 0, .null, []), (.iconst 0, 1, 0, 0, .int 0, []), (.putfield 18, 3, 2, 3, .int 0, []), (.aload_n 0, 1, 0, 0, .null, []), (.aload 4, 2, 4, 0, .null, []), (.invokevirtual 25, 3, 15, 1, .null, [(0, 0), (0, 0)]), (.ifCond .eq 36, 3, 62, 0, .null, []), (.aload_n 0, 1, 0, 0, .null, []), (.aload 4, 2, 4, 0, .null, []), (.invokevirtual 29, 3, 21, 1, .null, [(0, 0), (0, 0)]), (.ifCond .eq 27, 3, 62, 0, .null, []), (.aload_n 0, 1, 0, 0, .null, []), (.aload 4, 2, 4, 0, .null, []), (.invokevirtual 32, 3, 22, 1, .null, [(0, 0), (0, 0)]), (.ifCond .eq 18, 3, 62, 0, .null, []), (.aload_n 0, 1, 0, 0, .null, []), (.getfield 18, 3, 2, 3, .null, []), (.aload_n 0, 1, 0, 0, .null, []), (.getfield 15, 3, 2, 2, .null, []), (.if_icmp .ne 7, 3, 62, 0, .null, []), (.iconst 1, 1, 0, 0, .int 1, []), (.goto 4, 3, 63, 0, .null, [])]
abbrev kb_Tr_takes_62 : List vx_I := [(.iconst 0, 1, 0, 0, .int 0, [])]
abbrev kb_Tr_takes_63 : List vx_I := [(.ireturn, 1, 1, 0, .null, [])]
def tb_Tr_takes : List (Nat × List vx_I) := [(0, kb_Tr_takes_0), (62, kb_Tr_takes_62), (63, kb_Tr_takes_63)]
theorem bk_Tr_takes_0 : vx_bk tb_Tr_takes 0 = kb_Tr_takes_0 := rfl
theorem bk_Tr_takes_62 : vx_bk tb_Tr_takes 62 = kb_Tr_takes_62 := rfl
theorem bk_Tr_takes_63 : vx_bk tb_Tr_takes 63 = kb_Tr_takes_63 := rfl
abbrev m_Tr_takes : Nat := 14
set_option maxRecDepth 100000 in
theorem ck_Tr_takes : vx_ckM prog_4_method_2_code 2 5 5 false (some .boolean) tb_Tr_takes = true := by decide +kernel
theorem ok_Tr_takes {As : List Value} {sz : Nat} {h : vx_H} {P : Option Value → vx_H → Prop} (L0 : vx_L) (hlen : (vx_ar As).length ≤ 5) (hL0 : vx_ar As ++ List.replicate (5 - (vx_ar As).length) none = L0)
    (body : ∀ (lim z : vx_Z) X, vx_cl0 none lim tb_Tr_takes (fun r z' h' => z' = z ∧ P r h') X → X 0 L0 [] z h) : vx_Ok m_Tr_takes As sz h P :=
  vx_ok0 (M := (⟨"VoteWalls$TextReader", "takes", "(LVoteWalls$Sheet;IILVoteWalls$Yard;)Z"⟩, prog_4_method_2_code, 5, (some .boolean), 5, 0, 0, 4, 0)) rfl (ow := 2) rfl ck_Tr_takes rfl hlen hL0 body
abbrev kb_Tr_takeInches_0 : List vx_I := [(.aload_n 0, 1, 0, 0, .null, []), (.bipush 118, 2, 0, 0, .int 118, []), (.invokevirtual 35, 3, 16, 1, .null, [(0, 0), (0, 0)]), (.ifCond .ne 5, 3, 11, 0, .null, []), (.iconst 0, 1, 0, 0, .int 0, []), (.ireturn, 1, 1, 0, .null, [])]
abbrev kb_Tr_takeInches_11 : List vx_I := [(.aload_n 1, 1, 1, 0, .null, []), (.aload_n 0, 1, 0, 0, .null, []), (.iconst 4, 1, 0, 0, .int 4, []), (.bipush 30, 2, 0, 0, .int 30, []), (.invokevirtual 39, 3, 19, 2, .null, [(0, 0), (0, 0)]), (.putfield 43, 3, 5, 3, .int 0, []), (.aload_n 1, 1, 1, 0, .null, []), (.getfield 43, 3, 5, 3, .null, []), (.ifCond .lt 7, 3, 33, 0, .null, []), (.iconst 1, 1, 0, 0, .int 1, []), (.goto 4, 3, 34, 0, .null, [])]
abbrev kb_Tr_takeInches_33 : List vx_I := [(.iconst 0, 1, 0, 0, .int 0, [])]
abbrev kb_Tr_takeInches_34 : List vx_I := [(.ireturn, 1, 1, 0, .null, [])]
def tb_Tr_takeInches : List (Nat × List vx_I) := [(0, kb_Tr_takeInches_0), (11, kb_Tr_takeInches_11), (33, kb_Tr_takeInches_33), (34, kb_Tr_takeInches_34)]
theorem bk_Tr_takeInches_0 : vx_bk tb_Tr_takeInches 0 = kb_Tr_takeInches_0 := rfl
theorem bk_Tr_takeInches_11 : vx_bk tb_Tr_takeInches 11 = kb_Tr_takeInches_11 := rfl
theorem bk_Tr_takeInches_33 : vx_bk tb_Tr_takeInches 33 = kb_Tr_takeInches_33 := rfl
theorem bk_Tr_takeInches_34 : vx_bk tb_Tr_takeInches 34 = kb_Tr_takeInches_34 := rfl
abbrev m_Tr_takeInches : Nat := 15
set_option maxRecDepth 100000 in
theorem ck_Tr_takeInches : vx_ckM prog_4_method_3_code 2 2 4 false (some .boolean) tb_Tr_takeInches = true := by decide +kernel
theorem ok_Tr_takeInches {As : List Value} {sz : Nat} {h : vx_H} {P : Option Value → vx_H → Prop} (L0 : vx_L) (hlen : (vx_ar As).length ≤ 2) (hL0 : vx_ar As ++ List.replicate (2 - (vx_ar As).length) none = L0)
    (body : ∀ (lim z : vx_Z) X, vx_cl0 none lim tb_Tr_takeInches (fun r z' h' => z' = z ∧ P r h') X → X 0 L0 [] z h) : vx_Ok m_Tr_takeInches As sz h P :=
  vx_ok0 (M := (⟨"VoteWalls$TextReader", "takeInches", "(LVoteWalls$Yard;)Z"⟩, prog_4_method_3_code, 2, (some .boolean), 4, 0, 0, 1, 0)) rfl (ow := 2) rfl ck_Tr_takeInches rfl hlen hL0 body
abbrev kb_Tr_takeCode_0 : List vx_I := [(.aload_n 0, 1, 0, 0, .null, []), (.invokevirtual 51, 3, 17, 0, .null, [(0, 0), (0, 0)]), (.iload_n 1, 1, 1, 0, .null, []), (.if_icmp .eq 5, 3, 10, 0, .null, []), (.iconst 0, 1, 0, 0, .int 0, []), (.ireturn, 1, 1, 0, .null, [])]
abbrev kb_Tr_takeCode_10 : List vx_I := [(.aload_n 0, 1, 0, 0, .null, []), (.dup, 1, 0, 0, .null, []), (.getfield 18, 3, 2, 3, .null, []), (.iconst 1, 1, 0, 0, .int 1, []), (.iadd, 1, 0, 0, .null, []), (.putfield 18, 3, 2, 3, .int 0, []), (.iconst 1, 1, 0, 0, .int 1, []), (.ireturn, 1, 1, 0, .null, [])]
def tb_Tr_takeCode : List (Nat × List vx_I) := [(0, kb_Tr_takeCode_0), (10, kb_Tr_takeCode_10)]
theorem bk_Tr_takeCode_0 : vx_bk tb_Tr_takeCode 0 = kb_Tr_takeCode_0 := rfl
theorem bk_Tr_takeCode_10 : vx_bk tb_Tr_takeCode 10 = kb_Tr_takeCode_10 := rfl
abbrev m_Tr_takeCode : Nat := 16
set_option maxRecDepth 100000 in
theorem ck_Tr_takeCode : vx_ckM prog_4_method_7_code 2 2 2 false (some .boolean) tb_Tr_takeCode = true := by decide +kernel
theorem ok_Tr_takeCode {As : List Value} {sz : Nat} {h : vx_H} {P : Option Value → vx_H → Prop} (L0 : vx_L) (hlen : (vx_ar As).length ≤ 2) (hL0 : vx_ar As ++ List.replicate (2 - (vx_ar As).length) none = L0)
    (body : ∀ (lim z : vx_Z) X, vx_cl0 none lim tb_Tr_takeCode (fun r z' h' => z' = z ∧ P r h') X → X 0 L0 [] z h) : vx_Ok m_Tr_takeCode As sz h P :=
  vx_ok0 (M := (⟨"VoteWalls$TextReader", "takeCode", "(I)Z"⟩, prog_4_method_7_code, 2, (some .boolean), 2, 0, 0, 1, 0)) rfl (ow := 2) rfl ck_Tr_takeCode rfl hlen hL0 body
abbrev kb_Tr_code_0 : List vx_I := [(.aload_n 0, 1, 0, 0, .null, []), (.getfield 18, 3, 2, 3, .null, []), (.aload_n 0, 1, 0, 0, .null, []), (.getfield 15, 3, 2, 2, .null, []), (.if_icmp .ge 29, 3, 37, 0, .null, []), (.aload_n 0, 1, 0, 0, .null, []), (.getfield 21, 3, 2, 0, .null, []), (.ifnull 22, 3, 37, 0, .null, []), (.aload_n 0, 1, 0, 0, .null, []), (.getfield 21, 3, 2, 0, .null, []), (.aload_n 0, 1, 0, 0, .null, []), (.getfield 9, 3, 2, 1, .null, []), (.aload_n 0, 1, 0, 0, .null, []), (.getfield 18, 3, 2, 3, .null, []), (.iadd, 1, 0, 0, .null, []), (.invokevirtual 71, 3, 18, 1, .null, [(0, 0)]), (.goto 4, 3, 38, 0, .null, [])]
abbrev kb_Tr_code_37 : List vx_I := [(.iconst (-1), 1, 0, 0, .int (-1), [])]
abbrev kb_Tr_code_38 : List vx_I := [(.ireturn, 1, 0, 0, .null, [])]
def tb_Tr_code : List (Nat × List vx_I) := [(0, kb_Tr_code_0), (37, kb_Tr_code_37), (38, kb_Tr_code_38)]
theorem bk_Tr_code_0 : vx_bk tb_Tr_code 0 = kb_Tr_code_0 := rfl
theorem bk_Tr_code_37 : vx_bk tb_Tr_code 37 = kb_Tr_code_37 := rfl
theorem bk_Tr_code_38 : vx_bk tb_Tr_code 38 = kb_Tr_code_38 := rfl
abbrev m_Tr_code : Nat := 17
set_option maxRecDepth 100000 in
theorem ck_Tr_code : vx_ckM prog_4_method_6_code 2 1 1 false (some .int) tb_Tr_code = true := by decide +kernel
theorem ok_Tr_code {As : List Value} {sz : Nat} {h : vx_H} {P : Option Value → vx_H → Prop} (L0 : vx_L) (hlen : (vx_ar As).length ≤ 1) (hL0 : vx_ar As ++ List.replicate (1 - (vx_ar As).length) none = L0)
    (body : ∀ (lim z : vx_Z) X, vx_cl0 none lim tb_Tr_code (fun r z' h' => z' = z ∧ P r h') X → X 0 L0 [] z h) : vx_Ok m_Tr_code As sz h P :=
  vx_ok0 (M := (⟨"VoteWalls$TextReader", "code", "()I"⟩, prog_4_method_6_code, 1, (some .int), 1, 0, 0, 0, 0)) rfl (ow := 2) rfl ck_Tr_code rfl hlen hL0 body
abbrev kb_Sh_numberAt_0 : List vx_I := [(.iload_n 1, 1, 1, 0, .null, []), (.ifCond .lt 20, 3, 21, 0, .null, []), (.iload_n 1, 1, 1, 0, .null, []), (.aload_n 0, 1, 0, 0, .null, []), (.getfield 19, 3, 1, 2, .null, []), (.if_icmp .ge 12, 3, 21, 0, .null, []), (.aload_n 0, 1, 0, 0, .null, []), (.getfield 9, 3, 1, 0, .null, []), (.iload_n 1, 1, 1, 0, .null, []), (.iaload, 1, 0, 0, .null, []), (.goto 4, 3, 22, 0, .null, [])]
abbrev kb_Sh_numberAt_21 : List vx_I := [(.iconst 0, 1, 0, 0, .int 0, [])]
abbrev kb_Sh_numberAt_22 : List vx_I := [(.ireturn, 1, 0, 0, .null, [])]
def tb_Sh_numberAt : List (Nat × List vx_I) := [(0, kb_Sh_numberAt_0), (21, kb_Sh_numberAt_21), (22, kb_Sh_numberAt_22)]
theorem bk_Sh_numberAt_0 : vx_bk tb_Sh_numberAt 0 = kb_Sh_numberAt_0 := rfl
theorem bk_Sh_numberAt_21 : vx_bk tb_Sh_numberAt 21 = kb_Sh_numberAt_21 := rfl
theorem bk_Sh_numberAt_22 : vx_bk tb_Sh_numberAt 22 = kb_Sh_numberAt_22 := rfl
abbrev m_Sh_numberAt : Nat := 18
set_option maxRecDepth 100000 in
theorem ck_Sh_numberAt : vx_ckM prog_3_method_5_code 1 2 0 false (some .int) tb_Sh_numberAt = true := by decide +kernel
theorem ok_Sh_numberAt {As : List Value} {sz : Nat} {h : vx_H} {P : Option Value → vx_H → Prop} (L0 : vx_L) (hlen : (vx_ar As).length ≤ 2) (hL0 : vx_ar As ++ List.replicate (2 - (vx_ar As).length) none = L0)
    (body : ∀ (lim z : vx_Z) X, vx_cl0 none lim tb_Sh_numberAt (fun r z' h' => z' = z ∧ P r h') X → X 0 L0 [] z h) : vx_Ok m_Sh_numberAt As sz h P :=
  vx_ok0 (M := (⟨"VoteWalls$Sheet", "numberAt", "(I)I"⟩, prog_3_method_5_code, 2, (some .int), 0, 0, 0, 1, 0)) rfl (ow := 1) rfl ck_Sh_numberAt rfl hlen hL0 body
abbrev kb_Tr_takeNumber_0 : List vx_I := [(.aload_n 0, 1, 0, 0, .null, []), (.iload_n 1, 1, 1, 0, .null, []), (.iload_n 2, 1, 2, 0, .null, []), (.iconst 0, 1, 0, 0, .int 0, []), (.bipush 10, 2, 0, 0, .int 10, []), (.invokevirtual 77, 3, 20, 4, .null, [(0, 0), (0, 0)]), (.istore_n 3, 1, 3, 0, .null, []), (.iload_n 3, 1, 3, 0, .null, []), (.ifCond .ge 7, 3, 18, 0, .null, []), (.iconst (-1), 1, 0, 0, .int (-1), []), (.goto 11, 3, 26, 0, .null, [])]
abbrev kb_Tr_takeNumber_18 : List vx_I := [(.aload_n 0, 1, 0, 0, .null, []), (.iload_n 1, 1, 1, 0, .null, []), (.iload_n 2, 1, 2, 0, .null, []), (.iload_n 3, 1, 3, 0, .null, []), (.iconst 1, 1, 0, 0, .int 1, []), (.invokevirtual 77, 3, 20, 4, .null, [(0, 0), (0, 0)])]
abbrev kb_Tr_takeNumber_26 : List vx_I := [(.ireturn, 1, 0, 0, .null, [])]
def tb_Tr_takeNumber : List (Nat × List vx_I) := [(0, kb_Tr_takeNumber_0), (18, kb_Tr_takeNumber_18), (26, kb_Tr_takeNumber_26)]
theorem bk_Tr_takeNumber_0 : vx_bk tb_Tr_takeNumber 0 = kb_Tr_takeNumber_0 := rfl
theorem bk_Tr_takeNumber_18 : vx_bk tb_Tr_takeNumber 18 = kb_Tr_takeNumber_18 := rfl
theorem bk_Tr_takeNumber_26 : vx_bk tb_Tr_takeNumber 26 = kb_Tr_takeNumber_26 := rfl
abbrev m_Tr_takeNumber : Nat := 19
set_option maxRecDepth 100000 in
theorem ck_Tr_takeNumber : vx_ckM prog_4_method_9_code 2 4 3 false (some .int) tb_Tr_takeNumber = true := by decide +kernel
theorem ok_Tr_takeNumber {As : List Value} {sz : Nat} {h : vx_H} {P : Option Value → vx_H → Prop} (L0 : vx_L) (hlen : (vx_ar As).length ≤ 4) (hL0 : vx_ar As ++ List.replicate (4 - (vx_ar As).length) none = L0)
    (body : ∀ (lim z : vx_Z) X, vx_cl0 none lim tb_Tr_takeNumber (fun r z' h' => z' = z ∧ P r h') X → X 0 L0 [] z h) : vx_Ok m_Tr_takeNumber As sz h P :=
  vx_ok0 (M := (⟨"VoteWalls$TextReader", "takeNumber", "(II)I"⟩, prog_4_method_9_code, 4, (some .int), 3, 0, 0, 2, 0)) rfl (ow := 2) rfl ck_Tr_takeNumber rfl hlen hL0 body
abbrev kb_Tr_takeDigit_0 : List vx_I := [(.aload_n 0, 1, 0, 0, .null, []), (.invokevirtual 51, 3, 17, 0, .null, [(0, 0), (0, 0)]), (.bipush 48, 2, 0, 0, .int 48, []), (.isub, 1, 0, 0, .null, []), (.istore 5, 2, 5, 0, .null, []), (.iload_n 3, 1, 3, 0, .null, []), (.iload 5, 2, 5, 0, .null, []), (.iload 4, 2, 4, 0, .null, []), (.imul, 1, 0, 0, .null, []), (.iadd, 1, 0, 0, .null, []), (.istore 6, 2, 6, 0, .null, []), (.iload 6, 2, 6, 0, .null, []), (.iload 4, 2, 4, 0, .null, []), (.iadd, 1, 0, 0, .null, []), (.iconst 1, 1, 0, 0, .int 1, []), (.isub, 1, 0, 0, .null, []), (.istore 7, 2, 7, 0, .null, []), (.iload 5, 2, 5, 0, .null, []), (.ifCond .lt 25, 3, 54, 0, .null, []), (.iload 5, 2, 5, 0, .null, []), (.bipush 9, 2, 0, 0, .int 9, []), (.if_icmp .gt 18, 3, 54, 0, .null, []), (.iload 6, 2, 6, 0, .null, []), (.iload_n 1, 1, 1, 0, .null, []), (.invokestatic 81, 3, 0, 0, .float 0, []), (.iload 7, 2, 7, 0, .null, []), (.iload_n 2, 1, 2, 0, .null, []), (.invokestatic 86, 3, 0, 0, .long 0, []), (.if_icmp .le 5, 3, 56, 0, .null, [])]
abbrev kb_Tr_takeDigit_54 : List vx_I := [(.iconst (-1), 1, 0, 0, .int (-1), []), (.ireturn, 1, 0, 0, .null, [])]
abbrev kb_Tr_takeDigit_56 : List vx_I := [(.aload_n 0, 1, 0, 0, .null, []), (.dup, 1, 0, 0, .null, []), (.getfield 18, 3, 2, 3, .null, []), (.iconst 1, 1, 0, 0, .int 1, []), (.iadd, 1, 0, 0, .null, []), (.putfield 18, 3, 2, 3, .int 0, []), (.iload 6, 2, 6, 0, .null, []), (.ireturn, 1, 0, 0, .null, [])]
def tb_Tr_takeDigit : List (Nat × List vx_I) := [(0, kb_Tr_takeDigit_0), (54, kb_Tr_takeDigit_54), (56, kb_Tr_takeDigit_56)]
theorem bk_Tr_takeDigit_0 : vx_bk tb_Tr_takeDigit 0 = kb_Tr_takeDigit_0 := rfl
theorem bk_Tr_takeDigit_54 : vx_bk tb_Tr_takeDigit 54 = kb_Tr_takeDigit_54 := rfl
theorem bk_Tr_takeDigit_56 : vx_bk tb_Tr_takeDigit 56 = kb_Tr_takeDigit_56 := rfl
abbrev m_Tr_takeDigit : Nat := 20
set_option maxRecDepth 100000 in
theorem ck_Tr_takeDigit : vx_ckM prog_4_method_10_code 2 8 2 false (some .int) tb_Tr_takeDigit = true := by decide +kernel
theorem ok_Tr_takeDigit {As : List Value} {sz : Nat} {h : vx_H} {P : Option Value → vx_H → Prop} (L0 : vx_L) (hlen : (vx_ar As).length ≤ 8) (hL0 : vx_ar As ++ List.replicate (8 - (vx_ar As).length) none = L0)
    (body : ∀ (lim z : vx_Z) X, vx_cl0 none lim tb_Tr_takeDigit (fun r z' h' => z' = z ∧ P r h') X → X 0 L0 [] z h) : vx_Ok m_Tr_takeDigit As sz h P :=
  vx_ok0 (M := (⟨"VoteWalls$TextReader", "takeDigit", "(IIII)I"⟩, prog_4_method_10_code, 8, (some .int), 2, 0, 0, 4, 0)) rfl (ow := 2) rfl ck_Tr_takeDigit rfl hlen hL0 body
abbrev kb_Tr_takeBoards_0 : List vx_I := [(.iconst 0, 1, 0, 0, .int 0, []), (.istore_n 2, 1, 2, 0, .null, []), (.aload_n 1, 1, 1, 0, .null, []), (.iconst 0, 1, 0, 0, .int 0, []), (.putfield 48, 3, 5, 4, .int 0, []), (.iconst 0, 1, 0, 0, .int 0, []), (.istore_n 3, 1, 3, 0, .null, [])]
abbrev kb_Tr_takeBoards_9 : List vx_I := [(.iload_n 3, 1, 3, 0, .null, []), (.iconst 5, 1, 0, 0, .int 5, []), (.if_icmp .ge 69, 3, 80, 0, .null, []), (.iload_n 3, 1, 3, 0, .null, []), (.ifCond .le 14, 3, 29, 0, .null, []), (.aload_n 0, 1, 0, 0, .null, []), (.invokevirtual 51, 3, 17, 0, .null, [(0, 0), (0, 0)]), (.bipush 59, 2, 0, 0, .int 59, []), (.if_icmp .eq 5, 3, 29, 0, .null, []), (.iconst 1, 1, 0, 0, .int 1, []), (.ireturn, 1, 1, 0, .null, [])]
abbrev kb_Tr_takeBoards_29 : List vx_I := [(.aload_n 0, 1, 0, 0, .null, []), (.bipush 59, 2, 0, 0, .int 59, []), (.invokevirtual 35, 3, 16, 1, .null, [(0, 0), (0, 0)]), (.ifCond .ne 5, 3, 40, 0, .null, []), (.iconst 0, 1, 0, 0, .int 0, []), (.ireturn, 1, 1, 0, .null, [])]
abbrev kb_Tr_takeBoards_40 : List vx_I := [(.aload_n 0, 1, 0, 0, .null, []), (.iload_n 2, 1, 2, 0, .null, []), (.iconst 1, 1, 0, 0, .int 1, []), (.iadd, 1, 0, 0, .null, []), (.aload_n 1, 1, 1, 0, .null, []), (.getfield 43, 3, 5, 3, .null, []), (.iconst 1, 1, 0, 0, .int 1, []), (.isub, 1, 0, 0, .null, []), (.invokevirtual 39, 3, 19, 2, .null, [(0, 0), (0, 0)]), (.istore_n 2, 1, 2, 0, .null, []), (.iload_n 2, 1, 2, 0, .null, []), (.ifCond .ge 5, 3, 60, 0, .null, []), (.iconst 0, 1, 0, 0, .int 0, []), (.ireturn, 1, 1, 0, .null, [])]
abbrev kb_Tr_takeBoards_60 : List vx_I := [(.aload_n 1, 1, 1, 0, .null, []), (.getfield 55, 3, 5, 0, .null, []), (.iload_n 3, 1, 3, 0, .null, []), (.iload_n 2, 1, 2, 0, .null, []), (.iastore, 1, 0, 0, .null, []), (.aload_n 1, 1, 1, 0, .null, []), (.iload_n 3, 1, 3, 0, .null, []), (.iconst 1, 1, 0, 0, .int 1, []), (.iadd, 1, 0, 0, .null, []), (.putfield 48, 3, 5, 4, .int 0, []), (.iinc 3 1, 3, 3, 0, .int 1, []), (.goto (-68), 3, 9, 0, .null, [])]
abbrev kb_Tr_takeBoards_80 : List vx_I := [(.iconst 1, 1, 0, 0, .int 1, []), (.ireturn, 1, 1, 0, .null, [])]
def tb_Tr_takeBoards : List (Nat × List vx_I) := [(0, kb_Tr_takeBoards_0), (9, kb_Tr_takeBoards_9), (29, kb_Tr_takeBoards_29), (40, kb_Tr_takeBoards_40), (60, kb_Tr_takeBoards_60), (80, kb_Tr_takeBoards_80)]
theorem bk_Tr_takeBoards_0 : vx_bk tb_Tr_takeBoards 0 = kb_Tr_takeBoards_0 := rfl
theorem bk_Tr_takeBoards_9 : vx_bk tb_Tr_takeBoards 9 = kb_Tr_takeBoards_9 := rfl
theorem bk_Tr_takeBoards_29 : vx_bk tb_Tr_takeBoards 29 = kb_Tr_takeBoards_29 := rfl
theorem bk_Tr_takeBoards_40 : vx_bk tb_Tr_takeBoards 40 = kb_Tr_takeBoards_40 := rfl
theorem bk_Tr_takeBoards_60 : vx_bk tb_Tr_takeBoards 60 = kb_Tr_takeBoards_60 := rfl
theorem bk_Tr_takeBoards_80 : vx_bk tb_Tr_takeBoards 80 = kb_Tr_takeBoards_80 := rfl
abbrev m_Tr_takeBoards : Nat := 21
set_option maxRecDepth 100000 in
theorem ck_Tr_takeBoards : vx_ckM prog_4_method_4_code 2 4 4 false (some .boolean) tb_Tr_takeBoards = true := by decide +kernel
theorem ok_Tr_takeBoards {As : List Value} {sz : Nat} {h : vx_H} {P : Option Value → vx_H → Prop} (L0 : vx_L) (hlen : (vx_ar As).length ≤ 4) (hL0 : vx_ar As ++ List.replicate (4 - (vx_ar As).length) none = L0)
    (body : ∀ (lim z : vx_Z) X, vx_cl0 none lim tb_Tr_takeBoards (fun r z' h' => z' = z ∧ P r h') X → X 0 L0 [] z h) : vx_Ok m_Tr_takeBoards As sz h P :=
  vx_ok0 (M := (⟨"VoteWalls$TextReader", "takeBoards", "(LVoteWalls$Yard;)Z"⟩, prog_4_method_4_code, 4, (some .boolean), 4, 0, 0, 1, 0)) rfl (ow := 2) rfl ck_Tr_takeBoards rfl hlen hL0 body
abbrev kb_Tr_takePrisoners_0 : List vx_I := [(.aload_n 1, 1, 1, 0, .null, []), (.iconst 0, 1, 0, 0, .int 0, []), (.putfield 59, 3, 5, 5, .int 0, []), (.iconst 0, 1, 0, 0, .int 0, []), (.istore_n 2, 1, 2, 0, .null, [])]
abbrev kb_Tr_takePrisoners_7 : List vx_I := [(.iload_n 2, 1, 2, 0, .null, []), (.bipush 8, 2, 0, 0, .int 8, []), (.if_icmp .ge 93, 3, 103, 0, .null, []), (.iload_n 2, 1, 2, 0, .null, []), (.ifCond .le 16, 3, 30, 0, .null, []), (.aload_n 0, 1, 0, 0, .null, []), (.getfield 18, 3, 2, 3, .null, []), (.aload_n 0, 1, 0, 0, .null, []), (.getfield 15, 3, 2, 2, .null, []), (.if_icmp .ne 5, 3, 30, 0, .null, []), (.iconst 1, 1, 0, 0, .int 1, []), (.ireturn, 1, 1, 0, .null, [])]
abbrev kb_Tr_takePrisoners_30 : List vx_I := [(.aload_n 0, 1, 0, 0, .null, []), (.bipush 44, 2, 0, 0, .int 44, []), (.invokevirtual 35, 3, 16, 1, .null, [(0, 0), (0, 0)]), (.ifCond .ne 5, 3, 41, 0, .null, []), (.iconst 0, 1, 0, 0, .int 0, []), (.ireturn, 1, 1, 0, .null, [])]
abbrev kb_Tr_takePrisoners_41 : List vx_I := [(.aload_n 1, 1, 1, 0, .null, []), (.getfield 62, 3, 5, 1, .null, []), (.iload_n 2, 1, 2, 0, .null, []), (.aload_n 0, 1, 0, 0, .null, []), (.invokevirtual 65, 3, 23, 0, .null, [(0, 0), (0, 0)]), (.iastore, 1, 0, 0, .null, []), (.aload_n 1, 1, 1, 0, .null, []), (.getfield 62, 3, 5, 1, .null, []), (.iload_n 2, 1, 2, 0, .null, []), (.iaload, 1, 0, 0, .null, []), (.ifCond .ge 5, 3, 62, 0, .null, []), (.iconst 0, 1, 0, 0, .int 0, []), (.ireturn, 1, 1, 0, .null, [])]
abbrev kb_Tr_takePrisoners_62 : List vx_I := [(.aload_n 1, 1, 1, 0, .null, []), (.getfield 68, 3, 5, 2, .null, []), (.iload_n 2, 1, 2, 0, .null, []), (.aload_n 0, 1, 0, 0, .null, []), (.iconst 0, 1, 0, 0, .int 0, []), (.aload_n 1, 1, 1, 0, .null, []), (.getfield 43, 3, 5, 3, .null, []), (.iconst 1, 1, 0, 0, .int 1, []), (.isub, 1, 0, 0, .null, []), (.invokevirtual 39, 3, 19, 2, .null, [(0, 0), (0, 0)]), (.iastore, 1, 0, 0, .null, []), (.aload_n 1, 1, 1, 0, .null, []), (.getfield 68, 3, 5, 2, .null, []), (.iload_n 2, 1, 2, 0, .null, []), (.iaload, 1, 0, 0, .null, []), (.ifCond .ge 5, 3, 90, 0, .null, []), (.iconst 0, 1, 0, 0, .int 0, []), (.ireturn, 1, 1, 0, .null, [])]
abbrev kb_Tr_takePrisoners_90 : List vx_I := [(.aload_n 1, 1, 1, 0, .null, []), (.iload_n 2, 1, 2, 0, .null, []), (.iconst 1, 1, 0, 0, .int 1, []), (.iadd, 1, 0, 0, .null, []), (.putfield 59, 3, 5, 5, .int 0, []), (.iinc 2 1, 3, 2, 0, .int 1, []), (.goto (-93), 3, 7, 0, .null, [])]
abbrev kb_Tr_takePrisoners_103 : List vx_I := [(.iconst 1, 1, 0, 0, .int 1, []), (.ireturn, 1, 1, 0, .null, [])]
def tb_Tr_takePrisoners : List (Nat × List vx_I) := [(0, kb_Tr_takePrisoners_0), (7, kb_Tr_takePrisoners_7), (30, kb_Tr_takePrisoners_30), (41, kb_Tr_takePrisoners_41), (62, kb_Tr_takePrisoners_62), (90, kb_Tr_takePrisoners_90), (103, kb_Tr_takePrisoners_103)]
theorem bk_Tr_takePrisoners_0 : vx_bk tb_Tr_takePrisoners 0 = kb_Tr_takePrisoners_0 := rfl
theorem bk_Tr_takePrisoners_7 : vx_bk tb_Tr_takePrisoners 7 = kb_Tr_takePrisoners_7 := rfl
theorem bk_Tr_takePrisoners_30 : vx_bk tb_Tr_takePrisoners 30 = kb_Tr_takePrisoners_30 := rfl
theorem bk_Tr_takePrisoners_41 : vx_bk tb_Tr_takePrisoners 41 = kb_Tr_takePrisoners_41 := rfl
theorem bk_Tr_takePrisoners_62 : vx_bk tb_Tr_takePrisoners 62 = kb_Tr_takePrisoners_62 := rfl
theorem bk_Tr_takePrisoners_90 : vx_bk tb_Tr_takePrisoners 90 = kb_Tr_takePrisoners_90 := rfl
theorem bk_Tr_takePrisoners_103 : vx_bk tb_Tr_takePrisoners 103 = kb_Tr_takePrisoners_103 := rfl
abbrev m_Tr_takePrisoners : Nat := 22
set_option maxRecDepth 100000 in
theorem ck_Tr_takePrisoners : vx_ckM prog_4_method_5_code 2 3 4 false (some .boolean) tb_Tr_takePrisoners = true := by decide +kernel
theorem ok_Tr_takePrisoners {As : List Value} {sz : Nat} {h : vx_H} {P : Option Value → vx_H → Prop} (L0 : vx_L) (hlen : (vx_ar As).length ≤ 3) (hL0 : vx_ar As ++ List.replicate (3 - (vx_ar As).length) none = L0)
    (body : ∀ (lim z : vx_Z) X, vx_cl0 none lim tb_Tr_takePrisoners (fun r z' h' => z' = z ∧ P r h') X → X 0 L0 [] z h) : vx_Ok m_Tr_takePrisoners As sz h P :=
  vx_ok0 (M := (⟨"VoteWalls$TextReader", "takePrisoners", "(LVoteWalls$Yard;)Z"⟩, prog_4_method_5_code, 3, (some .boolean), 4, 0, 0, 1, 0)) rfl (ow := 2) rfl ck_Tr_takePrisoners rfl hlen hL0 body
abbrev kb_Tr_takeKind_0 : List vx_I := [(.aload_n 0, 1, 0, 0, .null, []), (.bipush 112, 2, 0, 0, .int 112, []), (.invokevirtual 35, 3, 16, 1, .null, [(0, 0), (0, 0)]), (.ifCond .eq 5, 3, 11, 0, .null, []), (.iconst 0, 1, 0, 0, .int 0, []), (.ireturn, 1, 0, 0, .null, [])]
abbrev kb_Tr_takeKind_11 : List vx_I := [(.aload_n 0, 1, 0, 0, .null, []), (.bipush 116, 2, 0, 0, .int 116, []), (.invokevirtual 35, 3, 16, 1, .null, [(0, 0), (0, 0)]), (.ifCond .eq 5, 3, 22, 0, .null, []), (.iconst 1, 1, 0, 0, .int 1, []), (.ireturn, 1, 0, 0, .null, [])]
abbrev kb_Tr_takeKind_22 : List vx_I := [(.aload_n 0, 1, 0, 0, .null, []), (.bipush 98, 2, 0, 0, .int 98, []), (.invokevirtual 35, 3, 16, 1, .null, [(0, 0), (0, 0)]), (.ifCond .eq 7, 3, 35, 0, .null, []), (.iconst 2, 1, 0, 0, .int 2, []), (.goto 4, 3, 36, 0, .null, [])]
abbrev kb_Tr_takeKind_35 : List vx_I := [(.iconst (-1), 1, 0, 0, .int (-1), [])]
abbrev kb_Tr_takeKind_36 : List vx_I := [(.ireturn, 1, 0, 0, .null, [])]
def tb_Tr_takeKind : List (Nat × List vx_I) := [(0, kb_Tr_takeKind_0), (11, kb_Tr_takeKind_11), (22, kb_Tr_takeKind_22), (35, kb_Tr_takeKind_35), (36, kb_Tr_takeKind_36)]
theorem bk_Tr_takeKind_0 : vx_bk tb_Tr_takeKind 0 = kb_Tr_takeKind_0 := rfl
theorem bk_Tr_takeKind_11 : vx_bk tb_Tr_takeKind 11 = kb_Tr_takeKind_11 := rfl
theorem bk_Tr_takeKind_22 : vx_bk tb_Tr_takeKind 22 = kb_Tr_takeKind_22 := rfl
theorem bk_Tr_takeKind_35 : vx_bk tb_Tr_takeKind 35 = kb_Tr_takeKind_35 := rfl
theorem bk_Tr_takeKind_36 : vx_bk tb_Tr_takeKind 36 = kb_Tr_takeKind_36 := rfl
abbrev m_Tr_takeKind : Nat := 23
set_option maxRecDepth 100000 in
theorem ck_Tr_takeKind : vx_ckM prog_4_method_8_code 2 1 3 false (some .int) tb_Tr_takeKind = true := by decide +kernel
theorem ok_Tr_takeKind {As : List Value} {sz : Nat} {h : vx_H} {P : Option Value → vx_H → Prop} (L0 : vx_L) (hlen : (vx_ar As).length ≤ 1) (hL0 : vx_ar As ++ List.replicate (1 - (vx_ar As).length) none = L0)
    (body : ∀ (lim z : vx_Z) X, vx_cl0 none lim tb_Tr_takeKind (fun r z' h' => z' = z ∧ P r h') X → X 0 L0 [] z h) : vx_Ok m_Tr_takeKind As sz h P :=
  vx_ok0 (M := (⟨"VoteWalls$TextReader", "takeKind", "()I"⟩, prog_4_method_8_code, 1, (some .int), 3, 0, 0, 0, 0)) rfl (ow := 2) rfl ck_Tr_takeKind rfl hlen hL0 body
abbrev kb_Cal_mark_0 : List vx_I := [(.aload_n 0, 1, 0, 0, .null, []), (.getfield 9, 3, 0, 0, .null, []), (.aload_n 1, 1, 1, 0, .null, []), (.invokestatic 22, 3, 26, 2, .null, []), (.aload_n 0, 1, 0, 0, .null, []), (.getfield 15, 3, 0, 1, .null, []), (.aload_n 2, 1, 2, 0, .null, []), (.invokestatic 22, 3, 26, 2, .null, []), (.aload_n 0, 1, 0, 0, .null, []), (.iconst 0, 1, 0, 0, .int 0, []), (.putfield 18, 3, 0, 2, .int 0, []), (.iconst 1, 1, 0, 0, .int 1, []), (.istore_n 3, 1, 3, 0, .null, [])]
abbrev kb_Cal_mark_23 : List vx_I := [(.iload_n 3, 1, 3, 0, .null, []), (.bipush 50, 2, 0, 0, .int 50, []), (.if_icmp .ge 48, 3, 74, 0, .null, []), (.aload_n 0, 1, 0, 0, .null, []), (.getfield 9, 3, 0, 0, .null, []), (.iload_n 3, 1, 3, 0, .null, []), (.iaload, 1, 0, 0, .null, []), (.aload_n 0, 1, 0, 0, .null, []), (.getfield 9, 3, 0, 0, .null, []), (.iload_n 3, 1, 3, 0, .null, []), (.iconst 1, 1, 0, 0, .int 1, []), (.isub, 1, 0, 0, .null, []), (.iaload, 1, 0, 0, .null, []), (.if_icmp .ne 20, 3, 63, 0, .null, []), (.aload_n 0, 1, 0, 0, .null, []), (.getfield 15, 3, 0, 1, .null, []), (.iload_n 3, 1, 3, 0, .null, []), (.iaload, 1, 0, 0, .null, []), (.aload_n 0, 1, 0, 0, .null, []), (.getfield 15, 3, 0, 1, .null, []), (.iload_n 3, 1, 3, 0, .null, []), (.iconst 1, 1, 0, 0, .int 1, []), (.isub, 1, 0, 0, .null, []), (.iaload, 1, 0, 0, .null, []), (.if_icmp .eq 8, 3, 68, 0, .null, [])]
abbrev kb_Cal_mark_63 : List vx_I := [(.aload_n 0, 1, 0, 0, .null, []), (.iload_n 3, 1, 3, 0, .null, []), (.putfield 18, 3, 0, 2, .int 0, [])]
abbrev kb_Cal_mark_68 : List vx_I := [(.iinc 3 1, 3, 3, 0, .int 1, []), (.goto (-48), 3, 23, 0, .null, [])]
abbrev kb_Cal_mark_74 : List vx_I := [(.return_, 1, 0, 0, .null, [])]
def tb_Cal_mark : List (Nat × List vx_I) := [(0, kb_Cal_mark_0), (23, kb_Cal_mark_23), (63, kb_Cal_mark_63), (68, kb_Cal_mark_68), (74, kb_Cal_mark_74)]
theorem bk_Cal_mark_0 : vx_bk tb_Cal_mark 0 = kb_Cal_mark_0 := rfl
theorem bk_Cal_mark_23 : vx_bk tb_Cal_mark 23 = kb_Cal_mark_23 := rfl
theorem bk_Cal_mark_63 : vx_bk tb_Cal_mark 63 = kb_Cal_mark_63 := rfl
theorem bk_Cal_mark_68 : vx_bk tb_Cal_mark 68 = kb_Cal_mark_68 := rfl
theorem bk_Cal_mark_74 : vx_bk tb_Cal_mark 74 = kb_Cal_mark_74 := rfl
abbrev m_Cal_mark : Nat := 25
set_option maxRecDepth 100000 in
theorem ck_Cal_mark : vx_ckM prog_2_method_2_code 0 4 2 false none tb_Cal_mark = true := by decide +kernel
theorem ok_Cal_mark {As : List Value} {sz : Nat} {h : vx_H} {P : Option Value → vx_H → Prop} (L0 : vx_L) (hlen : (vx_ar As).length ≤ 4) (hL0 : vx_ar As ++ List.replicate (4 - (vx_ar As).length) none = L0)
    (body : ∀ (lim z : vx_Z) X, vx_cl0 none lim tb_Cal_mark (fun r z' h' => z' = z ∧ P r h') X → X 0 L0 [] z h) : vx_Ok m_Cal_mark As sz h P :=
  vx_ok0 (M := (⟨"VoteWalls$Calendar", "mark", "(LVoteWalls$Triples;LVoteWalls$Triples;)V"⟩, prog_2_method_2_code, 4, none, 2, 0, 0, 2, 0)) rfl (ow := 0) rfl ck_Cal_mark rfl hlen hL0 body
abbrev kb_Cal_markSets_0 : List vx_I := [(.aload_n 0, 1, 0, 0, .null, []), (.iconst 0, 1, 0, 0, .int 0, []), (.invokestatic 26, 3, 27, 2, .null, []), (.iconst 0, 1, 0, 0, .int 0, []), (.istore_n 2, 1, 2, 0, .null, [])]
abbrev kb_Cal_markSets_7 : List vx_I := [(.iload_n 2, 1, 2, 0, .null, []), (.aload_n 1, 1, 1, 0, .null, []), (.getfield 32, 3, 3, 4, .null, []), (.if_icmp .ge 60, 3, 72, 0, .null, []), (.aload_n 1, 1, 1, 0, .null, []), (.getfield 37, 3, 3, 2, .null, []), (.iload_n 2, 1, 2, 0, .null, []), (.iaload, 1, 0, 0, .null, []), (.bipush 49, 2, 0, 0, .int 49, []), (.invokestatic 40, 3, 0, 0, .long 0, []), (.istore_n 3, 1, 3, 0, .null, []), (.aload_n 1, 1, 1, 0, .null, []), (.getfield 46, 3, 3, 1, .null, []), (.iload_n 2, 1, 2, 0, .null, []), (.iaload, 1, 0, 0, .null, []), (.iconst 0, 1, 0, 0, .int 0, []), (.invokestatic 49, 3, 0, 0, .float 0, []), (.istore 4, 2, 4, 0, .null, [])]
abbrev kb_Cal_markSets_39 : List vx_I := [(.iload 4, 2, 4, 0, .null, []), (.iload_n 3, 1, 3, 0, .null, []), (.if_icmp .gt 24, 3, 66, 0, .null, []), (.aload_n 0, 1, 0, 0, .null, []), (.iload 4, 2, 4, 0, .null, []), (.dup2, 1, 0, 0, .null, []), (.iaload, 1, 0, 0, .null, []), (.iconst 1, 1, 0, 0, .int 1, []), (.aload_n 1, 1, 1, 0, .null, []), (.getfield 52, 3, 3, 0, .null, []), (.iload_n 2, 1, 2, 0, .null, []), (.iaload, 1, 0, 0, .null, []), (.ishl, 1, 0, 0, .null, []), (.ior, 1, 0, 0, .null, []), (.iastore, 1, 0, 0, .null, []), (.iinc 4 1, 3, 4, 0, .int 1, []), (.goto (-24), 3, 39, 0, .null, [])]
abbrev kb_Cal_markSets_66 : List vx_I := [(.iinc 2 1, 3, 2, 0, .int 1, []), (.goto (-62), 3, 7, 0, .null, [])]
abbrev kb_Cal_markSets_72 : List vx_I := [(.return_, 1, 0, 0, .null, [])]
def tb_Cal_markSets : List (Nat × List vx_I) := [(0, kb_Cal_markSets_0), (7, kb_Cal_markSets_7), (39, kb_Cal_markSets_39), (66, kb_Cal_markSets_66), (72, kb_Cal_markSets_72)]
theorem bk_Cal_markSets_0 : vx_bk tb_Cal_markSets 0 = kb_Cal_markSets_0 := rfl
theorem bk_Cal_markSets_7 : vx_bk tb_Cal_markSets 7 = kb_Cal_markSets_7 := rfl
theorem bk_Cal_markSets_39 : vx_bk tb_Cal_markSets 39 = kb_Cal_markSets_39 := rfl
theorem bk_Cal_markSets_66 : vx_bk tb_Cal_markSets 66 = kb_Cal_markSets_66 := rfl
theorem bk_Cal_markSets_72 : vx_bk tb_Cal_markSets 72 = kb_Cal_markSets_72 := rfl
abbrev m_Cal_markSets : Nat := 26
set_option maxRecDepth 100000 in
theorem ck_Cal_markSets : vx_ckM prog_2_method_3_code 0 5 1 false none tb_Cal_markSets = true := by decide +kernel
theorem ok_Cal_markSets {As : List Value} {sz : Nat} {h : vx_H} {P : Option Value → vx_H → Prop} (L0 : vx_L) (hlen : (vx_ar As).length ≤ 5) (hL0 : vx_ar As ++ List.replicate (5 - (vx_ar As).length) none = L0)
    (body : ∀ (lim z : vx_Z) X, vx_cl0 none lim tb_Cal_markSets (fun r z' h' => z' = z ∧ P r h') X → X 0 L0 [] z h) : vx_Ok m_Cal_markSets As sz h P :=
  vx_ok0 (M := (⟨"VoteWalls$Calendar", "markSets", "([ILVoteWalls$Triples;)V"⟩, prog_2_method_3_code, 5, none, 1, 0, 0, 2, 1)) rfl (ow := 0) rfl ck_Cal_markSets rfl hlen hL0 body
abbrev kb_JA_fill_0 : List vx_I := [(.iconst 0, 1, 0, 0, .int 0, []), (.istore_n 2, 1, 2, 0, .null, []), (.aload_n 0, 1, 0, 0, .null, []), (.arraylength, 1, 0, 0, .null, []), (.istore_n 3, 1, 3, 0, .null, [])]
abbrev kb_JA_fill_5 : List vx_I := [(.iload_n 2, 1, 2, 0, .null, []), (.iload_n 3, 1, 3, 0, .null, []), (.if_icmp .ge 13, 3, 20, 0, .null, []), (.aload_n 0, 1, 0, 0, .null, []), (.iload_n 2, 1, 2, 0, .null, []), (.iload_n 1, 1, 1, 0, .null, []), (.iastore, 1, 0, 0, .null, []), (.iinc 2 1, 3, 2, 0, .int 1, []), (.goto (-12), 3, 5, 0, .null, [])]
abbrev kb_JA_fill_20 : List vx_I := [(.return_, 1, 0, 0, .null, [])]
def tb_JA_fill : List (Nat × List vx_I) := [(0, kb_JA_fill_0), (5, kb_JA_fill_5), (20, kb_JA_fill_20)]
theorem bk_JA_fill_0 : vx_bk tb_JA_fill 0 = kb_JA_fill_0 := rfl
theorem bk_JA_fill_5 : vx_bk tb_JA_fill 5 = kb_JA_fill_5 := rfl
theorem bk_JA_fill_20 : vx_bk tb_JA_fill 20 = kb_JA_fill_20 := rfl
abbrev m_JA_fill : Nat := 27
set_option maxRecDepth 100000 in
theorem ck_JA_fill : vx_ckM prog_13_method_103_code 10 4 0 false none tb_JA_fill = true := by decide +kernel
theorem ok_JA_fill {As : List Value} {sz : Nat} {h : vx_H} {P : Option Value → vx_H → Prop} (L0 : vx_L) (hlen : (vx_ar As).length ≤ 4) (hL0 : vx_ar As ++ List.replicate (4 - (vx_ar As).length) none = L0)
    (body : ∀ (lim z : vx_Z) X, vx_cl0 none lim tb_JA_fill (fun r z' h' => z' = z ∧ P r h') X → X 0 L0 [] z h) : vx_Ok m_JA_fill As sz h P :=
  vx_ok0 (M := (⟨"java/util/Arrays", "fill", "([II)V"⟩, prog_13_method_103_code, 4, none, 0, 0, 0, 2, 1)) rfl (ow := 10) rfl ck_JA_fill rfl hlen hL0 body
abbrev kb_Tp_add_0 : List vx_I := [(.aload_n 0, 1, 0, 0, .null, []), (.getfield 21, 3, 3, 4, .null, []), (.ifCond .lt 14, 3, 18, 0, .null, []), (.aload_n 0, 1, 0, 0, .null, []), (.getfield 21, 3, 3, 4, .null, []), (.aload_n 0, 1, 0, 0, .null, []), (.getfield 31, 3, 3, 3, .null, []), (.if_icmp .lt 6, 3, 21, 0, .null, [])]
abbrev kb_Tp_add_18 : List vx_I := [(.bipush (-4), 2, 0, 0, .int (-4), []), (.ireturn, 1, 0, 0, .null, [])]
abbrev kb_Tp_add_21 : List vx_I := [(.aload_n 0, 1, 0, 0, .null, []), (.getfield 9, 3, 3, 0, .null, []), (.aload_n 0, 1, 0, 0, .null, []), (.getfield 21, 3, 3, 4, .null, []), (.iload_n 1, 1, 1, 0, .null, []), (.iastore, 1, 0, 0, .null, []), (.aload_n 0, 1, 0, 0, .null, []), (.getfield 15, 3, 3, 1, .null, []), (.aload_n 0, 1, 0, 0, .null, []), (.getfield 21, 3, 3, 4, .null, []), (.iload_n 2, 1, 2, 0, .null, []), (.iastore, 1, 0, 0, .null, []), (.aload_n 0, 1, 0, 0, .null, []), (.getfield 18, 3, 3, 2, .null, []), (.aload_n 0, 1, 0, 0, .null, []), (.getfield 21, 3, 3, 4, .null, []), (.iload_n 3, 1, 3, 0, .null, []), (.iastore, 1, 0, 0, .null, []), (.aload_n 0, 1, 0, 0, .null, []), (.dup, 1, 0, 0, .null, []), (.getfield 21, 3, 3, 4, .null, []), (.iconst 1, 1, 0, 0, .int 1, []), (.iadd, 1, 0, 0, .null, []), (.putfield 21, 3, 3, 4, .int 0, []), (.aload_n 0, 1, 0, 0, .null, []), (.getfield 21, 3, 3, 4, .null, []), (.iconst 1, 1, 0, 0, .int 1, []), (.isub, 1, 0, 0, .null, []), (.ireturn, 1, 0, 0, .null, [])]
def tb_Tp_add : List (Nat × List vx_I) := [(0, kb_Tp_add_0), (18, kb_Tp_add_18), (21, kb_Tp_add_21)]
theorem bk_Tp_add_0 : vx_bk tb_Tp_add 0 = kb_Tp_add_0 := rfl
theorem bk_Tp_add_18 : vx_bk tb_Tp_add 18 = kb_Tp_add_18 := rfl
theorem bk_Tp_add_21 : vx_bk tb_Tp_add 21 = kb_Tp_add_21 := rfl
abbrev m_Tp_add : Nat := 37
set_option maxRecDepth 100000 in
theorem ck_Tp_add : vx_ckM prog_5_method_2_code 3 4 0 false (some .int) tb_Tp_add = true := by decide +kernel
theorem ok_Tp_add {As : List Value} {sz : Nat} {h : vx_H} {P : Option Value → vx_H → Prop} (L0 : vx_L) (hlen : (vx_ar As).length ≤ 4) (hL0 : vx_ar As ++ List.replicate (4 - (vx_ar As).length) none = L0)
    (body : ∀ (lim z : vx_Z) X, vx_cl0 none lim tb_Tp_add (fun r z' h' => z' = z ∧ P r h') X → X 0 L0 [] z h) : vx_Ok m_Tp_add As sz h P :=
  vx_ok0 (M := (⟨"VoteWalls$Triples", "add", "(III)I"⟩, prog_5_method_2_code, 4, (some .int), 0, 0, 0, 3, 0)) rfl (ow := 3) rfl ck_Tp_add rfl hlen hL0 body
abbrev kb_Tp_drop_0 : List vx_I := [(.iload_n 1, 1, 1, 0, .null, []), (.ifCond .lt 11, 3, 12, 0, .null, []), (.iload_n 1, 1, 1, 0, .null, []), (.aload_n 0, 1, 0, 0, .null, []), (.getfield 21, 3, 3, 4, .null, []), (.if_icmp .le 6, 3, 15, 0, .null, [])]
abbrev kb_Tp_drop_12 : List vx_I := [(.bipush (-2), 2, 0, 0, .int (-2), []), (.ireturn, 1, 0, 0, .null, [])]
abbrev kb_Tp_drop_15 : List vx_I := [(.aload_n 0, 1, 0, 0, .null, []), (.dup, 1, 0, 0, .null, []), (.getfield 21, 3, 3, 4, .null, []), (.iload_n 1, 1, 1, 0, .null, []), (.isub, 1, 0, 0, .null, []), (.putfield 21, 3, 3, 4, .int 0, []), (.aload_n 0, 1, 0, 0, .null, []), (.getfield 21, 3, 3, 4, .null, []), (.ireturn, 1, 0, 0, .null, [])]
def tb_Tp_drop : List (Nat × List vx_I) := [(0, kb_Tp_drop_0), (12, kb_Tp_drop_12), (15, kb_Tp_drop_15)]
theorem bk_Tp_drop_0 : vx_bk tb_Tp_drop 0 = kb_Tp_drop_0 := rfl
theorem bk_Tp_drop_12 : vx_bk tb_Tp_drop 12 = kb_Tp_drop_12 := rfl
theorem bk_Tp_drop_15 : vx_bk tb_Tp_drop 15 = kb_Tp_drop_15 := rfl
abbrev m_Tp_drop : Nat := 39
set_option maxRecDepth 100000 in
theorem ck_Tp_drop : vx_ckM prog_5_method_3_code 3 2 0 false (some .int) tb_Tp_drop = true := by decide +kernel
theorem ok_Tp_drop {As : List Value} {sz : Nat} {h : vx_H} {P : Option Value → vx_H → Prop} (L0 : vx_L) (hlen : (vx_ar As).length ≤ 2) (hL0 : vx_ar As ++ List.replicate (2 - (vx_ar As).length) none = L0)
    (body : ∀ (lim z : vx_Z) X, vx_cl0 none lim tb_Tp_drop (fun r z' h' => z' = z ∧ P r h') X → X 0 L0 [] z h) : vx_Ok m_Tp_drop As sz h P :=
  vx_ok0 (M := (⟨"VoteWalls$Triples", "drop", "(I)I"⟩, prog_5_method_3_code, 2, (some .int), 0, 0, 0, 1, 0)) rfl (ow := 3) rfl ck_Tp_drop rfl hlen hL0 body
abbrev kb_Wk_reckon_0 : List vx_I := [(.aload_n 0, 1, 0, 0, .null, []), (.aload_n 1, 1, 1, 0, .null, []), (.invokevirtual 34, 3, 47, 1, .null, [(0, 0), (0, 0), (0, 0), (0, 0)]), (.iconst (-1), 1, 0, 0, .int (-1), []), (.istore 7, 2, 7, 0, .null, []), (.iconst 0, 1, 0, 0, .int 0, []), (.istore 8, 2, 8, 0, .null, [])]
abbrev kb_Wk_reckon_11 : List vx_I := [(.iload 8, 2, 8, 0, .null, []), (.iload 6, 2, 6, 0, .null, []), (.if_icmp .gt 114, 3, 129, 0, .null, []), (.iload 8, 2, 8, 0, .null, []), (.bipush 50, 2, 0, 0, .int 50, []), (.if_icmp .ge 107, 3, 129, 0, .null, []), (.aload_n 2, 1, 2, 0, .null, []), (.getfield 38, 3, 0, 1, .null, []), (.iload 8, 2, 8, 0, .null, []), (.iaload, 1, 0, 0, .null, []), (.iload 5, 2, 5, 0, .null, []), (.ior, 1, 0, 0, .null, []), (.istore 9, 2, 9, 0, .null, []), (.iload 9, 2, 9, 0, .null, []), (.iload 7, 2, 7, 0, .null, []), (.if_icmp .eq 14, 3, 55, 0, .null, []), (.aload_n 0, 1, 0, 0, .null, []), (.aload_n 1, 1, 1, 0, .null, []), (.iload 9, 2, 9, 0, .null, []), (.invokevirtual 43, 3, 48, 2, .null, [(0, 0), (0, 0), (0, 0), (0, 0)]), (.iload 9, 2, 9, 0, .null, []), (.istore 7, 2, 7, 0, .null, [])]
abbrev kb_Wk_reckon_55 : List vx_I := [(.aload_n 0, 1, 0, 0, .null, []), (.iload_n 3, 1, 3, 0, .null, []), (.aload_n 2, 1, 2, 0, .null, []), (.getfield 47, 3, 0, 0, .null, []), (.iload 8, 2, 8, 0, .null, []), (.iaload, 1, 0, 0, .null, []), (.iload 4, 2, 4, 0, .null, []), (.ior, 1, 0, 0, .null, []), (.invokevirtual 50, 3, 50, 2, .null, [(0, 0), (0, 0), (0, 0), (0, 0)]), (.istore 10, 2, 10, 0, .null, []), (.aload_n 0, 1, 0, 0, .null, []), (.iload 8, 2, 8, 0, .null, []), (.putfield 28, 3, 4, 5, .int 0, []), (.aload_n 0, 1, 0, 0, .null, []), (.getfield 15, 3, 4, 1, .null, []), (.iconst 0, 1, 0, 0, .int 0, []), (.aload_n 0, 1, 0, 0, .null, []), (.getfield 9, 3, 4, 0, .null, []), (.iload 8, 2, 8, 0, .null, []), (.iconst 1, 1, 0, 0, .int 1, []), (.iadd, 1, 0, 0, .null, []), (.iconst 5, 1, 0, 0, .int 5, []), (.imul, 1, 0, 0, .null, []), (.iconst 5, 1, 0, 0, .int 5, []), (.invokestatic 54, 3, 0, 0, .int 0, []), (.iload 10, 2, 10, 0, .null, []), (.ifCond .eq 12, 3, 111, 0, .null, []), (.aload_n 0, 1, 0, 0, .null, []), (.iload 8, 2, 8, 0, .null, []), (.putfield 31, 3, 4, 6, .int 0, []), (.goto 15, 3, 123, 0, .null, [])]
abbrev kb_Wk_reckon_111 : List vx_I := [(.iload 8, 2, 8, 0, .null, []), (.aload_n 2, 1, 2, 0, .null, []), (.getfield 60, 3, 0, 2, .null, []), (.if_icmp .lt 6, 3, 123, 0, .null, []), (.goto 9, 3, 129, 0, .null, [])]
abbrev kb_Wk_reckon_123 : List vx_I := [(.iinc 8 1, 3, 8, 0, .int 1, []), (.goto (-115), 3, 11, 0, .null, [])]
abbrev kb_Wk_reckon_129 : List vx_I := [(.return_, 1, 0, 0, .null, [])]
def tb_Wk_reckon : List (Nat × List vx_I) := [(0, kb_Wk_reckon_0), (11, kb_Wk_reckon_11), (55, kb_Wk_reckon_55), (111, kb_Wk_reckon_111), (123, kb_Wk_reckon_123), (129, kb_Wk_reckon_129)]
theorem bk_Wk_reckon_0 : vx_bk tb_Wk_reckon 0 = kb_Wk_reckon_0 := rfl
theorem bk_Wk_reckon_11 : vx_bk tb_Wk_reckon 11 = kb_Wk_reckon_11 := rfl
theorem bk_Wk_reckon_55 : vx_bk tb_Wk_reckon 55 = kb_Wk_reckon_55 := rfl
theorem bk_Wk_reckon_111 : vx_bk tb_Wk_reckon 111 = kb_Wk_reckon_111 := rfl
theorem bk_Wk_reckon_123 : vx_bk tb_Wk_reckon 123 = kb_Wk_reckon_123 := rfl
theorem bk_Wk_reckon_129 : vx_bk tb_Wk_reckon 129 = kb_Wk_reckon_129 := rfl
abbrev m_Wk_reckon : Nat := 46
set_option maxRecDepth 100000 in
theorem ck_Wk_reckon : vx_ckM prog_6_method_2_code 4 11 3 false none tb_Wk_reckon = true := by decide +kernel
theorem ok_Wk_reckon {As : List Value} {sz : Nat} {h : vx_H} {P : Option Value → vx_H → Prop} (L0 : vx_L) (hlen : (vx_ar As).length ≤ 11) (hL0 : vx_ar As ++ List.replicate (11 - (vx_ar As).length) none = L0)
    (body : ∀ (lim z : vx_Z) X, vx_cl0 none lim tb_Wk_reckon (fun r z' h' => z' = z ∧ P r h') X → X 0 L0 [] z h) : vx_Ok m_Wk_reckon As sz h P :=
  vx_ok0 (M := (⟨"VoteWalls$Weeks", "reckon", "(LVoteWalls$Yard;LVoteWalls$Calendar;IIII)V"⟩, prog_6_method_2_code, 11, none, 3, 0, 0, 6, 0)) rfl (ow := 4) rfl ck_Wk_reckon rfl hlen hL0 body
abbrev kb_Wk_begin_0 : List vx_I := [(.aload_n 0, 1, 0, 0, .null, []), (.aload_n 1, 1, 1, 0, .null, []), (.getfield 63, 3, 5, 4, .null, []), (.putfield 21, 3, 4, 3, .int 0, []), (.aload_n 0, 1, 0, 0, .null, []), (.aload_n 1, 1, 1, 0, .null, []), (.getfield 66, 3, 5, 3, .null, []), (.putfield 25, 3, 4, 4, .int 0, []), (.aload_n 0, 1, 0, 0, .null, []), (.iconst (-1), 1, 0, 0, .int (-1), []), (.putfield 28, 3, 4, 5, .int 0, []), (.aload_n 0, 1, 0, 0, .null, []), (.iconst (-1), 1, 0, 0, .int (-1), []), (.putfield 31, 3, 4, 6, .int 0, []), (.aload_n 1, 1, 1, 0, .null, []), (.getfield 67, 3, 5, 0, .null, []), (.iconst 0, 1, 0, 0, .int 0, []), (.aload_n 0, 1, 0, 0, .null, []), (.getfield 15, 3, 4, 1, .null, []), (.iconst 0, 1, 0, 0, .int 0, []), (.iconst 5, 1, 0, 0, .int 5, []), (.invokestatic 54, 3, 0, 0, .int 0, []), (.aload_n 0, 1, 0, 0, .null, []), (.getfield 15, 3, 4, 1, .null, []), (.iconst 0, 1, 0, 0, .int 0, []), (.aload_n 0, 1, 0, 0, .null, []), (.getfield 9, 3, 4, 0, .null, []), (.iconst 0, 1, 0, 0, .int 0, []), (.iconst 5, 1, 0, 0, .int 5, []), (.invokestatic 54, 3, 0, 0, .int 0, []), (.return_, 1, 0, 0, .null, [])]
def tb_Wk_begin : List (Nat × List vx_I) := [(0, kb_Wk_begin_0)]
theorem bk_Wk_begin_0 : vx_bk tb_Wk_begin 0 = kb_Wk_begin_0 := rfl
abbrev m_Wk_begin : Nat := 47
set_option maxRecDepth 100000 in
theorem ck_Wk_begin : vx_ckM prog_6_method_3_code 4 2 1 false none tb_Wk_begin = true := by decide +kernel
theorem ok_Wk_begin {As : List Value} {sz : Nat} {h : vx_H} {P : Option Value → vx_H → Prop} (L0 : vx_L) (hlen : (vx_ar As).length ≤ 2) (hL0 : vx_ar As ++ List.replicate (2 - (vx_ar As).length) none = L0)
    (body : ∀ (lim z : vx_Z) X, vx_cl0 none lim tb_Wk_begin (fun r z' h' => z' = z ∧ P r h') X → X 0 L0 [] z h) : vx_Ok m_Wk_begin As sz h P :=
  vx_ok0 (M := (⟨"VoteWalls$Weeks", "begin", "(LVoteWalls$Yard;)V"⟩, prog_6_method_3_code, 2, none, 1, 0, 0, 1, 0)) rfl (ow := 4) rfl ck_Wk_begin rfl hlen hL0 body
abbrev kb_Wk_countVotes_0 : List vx_I := [(.aload_n 0, 1, 0, 0, .null, []), (.getfield 18, 3, 4, 2, .null, []), (.iconst 0, 1, 0, 0, .int 0, []), (.invokestatic 68, 3, 27, 2, .null, []), (.iconst 0, 1, 0, 0, .int 0, []), (.istore_n 3, 1, 3, 0, .null, [])]
abbrev kb_Wk_countVotes_10 : List vx_I := [(.iload_n 3, 1, 3, 0, .null, []), (.aload_n 1, 1, 1, 0, .null, []), (.getfield 74, 3, 5, 5, .null, []), (.if_icmp .ge 58, 3, 73, 0, .null, []), (.aload_n 1, 1, 1, 0, .null, []), (.getfield 77, 3, 5, 2, .null, []), (.iload_n 3, 1, 3, 0, .null, []), (.iaload, 1, 0, 0, .null, []), (.istore 4, 2, 4, 0, .null, []), (.iload_n 2, 1, 2, 0, .null, []), (.iload_n 3, 1, 3, 0, .null, []), (.invokestatic 80, 3, 49, 2, .null, []), (.ifCond .ne 36, 3, 67, 0, .null, []), (.iload 4, 2, 4, 0, .null, []), (.ifCond .lt 31, 3, 67, 0, .null, []), (.iload 4, 2, 4, 0, .null, []), (.bipush 30, 2, 0, 0, .int 30, []), (.if_icmp .ge 24, 3, 67, 0, .null, []), (.aload_n 0, 1, 0, 0, .null, []), (.getfield 18, 3, 4, 2, .null, []), (.iload 4, 2, 4, 0, .null, []), (.iconst 1, 1, 0, 0, .int 1, []), (.iadd, 1, 0, 0, .null, []), (.dup2, 1, 0, 0, .null, []), (.iaload, 1, 0, 0, .null, []), (.aload_n 1, 1, 1, 0, .null, []), (.getfield 83, 3, 5, 1, .null, []), (.iload_n 3, 1, 3, 0, .null, []), (.iaload, 1, 0, 0, .null, []), (.invokestatic 86, 3, 30, 1, .null, []), (.iadd, 1, 0, 0, .null, []), (.iastore, 1, 0, 0, .null, [])]
abbrev kb_Wk_countVotes_67 : List vx_I := [(.iinc 3 1, 3, 3, 0, .int 1, []), (.goto (-60), 3, 10, 0, .null, [])]
abbrev kb_Wk_countVotes_73 : List vx_I := [(.iconst 1, 1, 0, 0, .int 1, []), (.istore_n 3, 1, 3, 0, .null, [])]
abbrev kb_Wk_countVotes_75 : List vx_I := [(.iload_n 3, 1, 3, 0, .null, []), (.bipush 30, 2, 0, 0, .int 30, []), (.if_icmp .gt 26, 3, 104, 0, .null, []), (.aload_n 0, 1, 0, 0, .null, []), (.getfield 18, 3, 4, 2, .null, []), (.iload_n 3, 1, 3, 0, .null, []), (.dup2, 1, 0, 0, .null, []), (.iaload, 1, 0, 0, .null, []), (.aload_n 0, 1, 0, 0, .null, []), (.getfield 18, 3, 4, 2, .null, []), (.iload_n 3, 1, 3, 0, .null, []), (.iconst 1, 1, 0, 0, .int 1, []), (.isub, 1, 0, 0, .null, []), (.iaload, 1, 0, 0, .null, []), (.iadd, 1, 0, 0, .null, []), (.iastore, 1, 0, 0, .null, []), (.iinc 3 1, 3, 3, 0, .int 1, []), (.goto (-26), 3, 75, 0, .null, [])]
abbrev kb_Wk_countVotes_104 : List vx_I := [(.return_, 1, 0, 0, .null, [])]
def tb_Wk_countVotes : List (Nat × List vx_I) := [(0, kb_Wk_countVotes_0), (10, kb_Wk_countVotes_10), (67, kb_Wk_countVotes_67), (73, kb_Wk_countVotes_73), (75, kb_Wk_countVotes_75), (104, kb_Wk_countVotes_104)]
theorem bk_Wk_countVotes_0 : vx_bk tb_Wk_countVotes 0 = kb_Wk_countVotes_0 := rfl
theorem bk_Wk_countVotes_10 : vx_bk tb_Wk_countVotes 10 = kb_Wk_countVotes_10 := rfl
theorem bk_Wk_countVotes_67 : vx_bk tb_Wk_countVotes 67 = kb_Wk_countVotes_67 := rfl
theorem bk_Wk_countVotes_73 : vx_bk tb_Wk_countVotes 73 = kb_Wk_countVotes_73 := rfl
theorem bk_Wk_countVotes_75 : vx_bk tb_Wk_countVotes 75 = kb_Wk_countVotes_75 := rfl
theorem bk_Wk_countVotes_104 : vx_bk tb_Wk_countVotes 104 = kb_Wk_countVotes_104 := rfl
abbrev m_Wk_countVotes : Nat := 48
set_option maxRecDepth 100000 in
theorem ck_Wk_countVotes : vx_ckM prog_6_method_4_code 4 5 1 false none tb_Wk_countVotes = true := by decide +kernel
theorem ok_Wk_countVotes {As : List Value} {sz : Nat} {h : vx_H} {P : Option Value → vx_H → Prop} (L0 : vx_L) (hlen : (vx_ar As).length ≤ 5) (hL0 : vx_ar As ++ List.replicate (5 - (vx_ar As).length) none = L0)
    (body : ∀ (lim z : vx_Z) X, vx_cl0 none lim tb_Wk_countVotes (fun r z' h' => z' = z ∧ P r h') X → X 0 L0 [] z h) : vx_Ok m_Wk_countVotes As sz h P :=
  vx_ok0 (M := (⟨"VoteWalls$Weeks", "countVotes", "(LVoteWalls$Yard;I)V"⟩, prog_6_method_4_code, 5, none, 1, 0, 0, 2, 0)) rfl (ow := 4) rfl ck_Wk_countVotes rfl hlen hL0 body
abbrev kb_Wk_pushAll_0 : List vx_I := [(.iconst 0, 1, 0, 0, .int 0, []), (.istore_n 3, 1, 3, 0, .null, []), (.iconst 0, 1, 0, 0, .int 0, []), (.istore 4, 2, 4, 0, .null, [])]
abbrev kb_Wk_pushAll_5 : List vx_I := [(.iload 4, 2, 4, 0, .null, []), (.aload_n 0, 1, 0, 0, .null, []), (.getfield 21, 3, 4, 3, .null, []), (.if_icmp .ge 49, 3, 60, 0, .null, []), (.iload_n 1, 1, 1, 0, .null, []), (.ifCond .ne 8, 3, 23, 0, .null, []), (.iload 4, 2, 4, 0, .null, []), (.goto 12, 3, 32, 0, .null, [])]
abbrev kb_Wk_pushAll_23 : List vx_I := [(.aload_n 0, 1, 0, 0, .null, []), (.getfield 21, 3, 4, 3, .null, []), (.iconst 1, 1, 0, 0, .int 1, []), (.isub, 1, 0, 0, .null, []), (.iload 4, 2, 4, 0, .null, []), (.isub, 1, 0, 0, .null, [])]
abbrev kb_Wk_pushAll_32 : List vx_I := [(.istore 5, 2, 5, 0, .null, []), (.iload_n 2, 1, 2, 0, .null, []), (.iload 5, 2, 5, 0, .null, []), (.invokestatic 80, 3, 49, 2, .null, []), (.ifCond .ne 14, 3, 54, 0, .null, []), (.aload_n 0, 1, 0, 0, .null, []), (.iload 5, 2, 5, 0, .null, []), (.invokevirtual 90, 3, 51, 1, .null, [(0, 0), (0, 0), (0, 0), (0, 0)]), (.ifCond .eq 5, 3, 54, 0, .null, []), (.iconst 1, 1, 0, 0, .int 1, []), (.istore_n 3, 1, 3, 0, .null, [])]
abbrev kb_Wk_pushAll_54 : List vx_I := [(.iinc 4 1, 3, 4, 0, .int 1, []), (.goto (-52), 3, 5, 0, .null, [])]
abbrev kb_Wk_pushAll_60 : List vx_I := [(.iload_n 3, 1, 3, 0, .null, []), (.ireturn, 1, 1, 0, .null, [])]
def tb_Wk_pushAll : List (Nat × List vx_I) := [(0, kb_Wk_pushAll_0), (5, kb_Wk_pushAll_5), (23, kb_Wk_pushAll_23), (32, kb_Wk_pushAll_32), (54, kb_Wk_pushAll_54), (60, kb_Wk_pushAll_60)]
theorem bk_Wk_pushAll_0 : vx_bk tb_Wk_pushAll 0 = kb_Wk_pushAll_0 := rfl
theorem bk_Wk_pushAll_5 : vx_bk tb_Wk_pushAll 5 = kb_Wk_pushAll_5 := rfl
theorem bk_Wk_pushAll_23 : vx_bk tb_Wk_pushAll 23 = kb_Wk_pushAll_23 := rfl
theorem bk_Wk_pushAll_32 : vx_bk tb_Wk_pushAll 32 = kb_Wk_pushAll_32 := rfl
theorem bk_Wk_pushAll_54 : vx_bk tb_Wk_pushAll 54 = kb_Wk_pushAll_54 := rfl
theorem bk_Wk_pushAll_60 : vx_bk tb_Wk_pushAll 60 = kb_Wk_pushAll_60 := rfl
abbrev m_Wk_pushAll : Nat := 50
set_option maxRecDepth 100000 in
theorem ck_Wk_pushAll : vx_ckM prog_6_method_5_code 4 6 2 false (some .boolean) tb_Wk_pushAll = true := by decide +kernel
theorem ok_Wk_pushAll {As : List Value} {sz : Nat} {h : vx_H} {P : Option Value → vx_H → Prop} (L0 : vx_L) (hlen : (vx_ar As).length ≤ 6) (hL0 : vx_ar As ++ List.replicate (6 - (vx_ar As).length) none = L0)
    (body : ∀ (lim z : vx_Z) X, vx_cl0 none lim tb_Wk_pushAll (fun r z' h' => z' = z ∧ P r h') X → X 0 L0 [] z h) : vx_Ok m_Wk_pushAll As sz h P :=
  vx_ok0 (M := (⟨"VoteWalls$Weeks", "pushAll", "(II)Z"⟩, prog_6_method_5_code, 6, (some .boolean), 2, 0, 0, 2, 0)) rfl (ow := 4) rfl ck_Wk_pushAll rfl hlen hL0 body
abbrev kb_Wk_pushOne_0 : List vx_I := [(.iload_n 1, 1, 1, 0, .null, []), (.ifCond .ne 7, 3, 8, 0, .null, []), (.iconst 0, 1, 0, 0, .int 0, []), (.goto 11, 3, 16, 0, .null, [])]
abbrev kb_Wk_pushOne_8 : List vx_I := [(.aload_n 0, 1, 0, 0, .null, []), (.getfield 15, 3, 4, 1, .null, []), (.iload_n 1, 1, 1, 0, .null, []), (.iconst 1, 1, 0, 0, .int 1, []), (.isub, 1, 0, 0, .null, []), (.iaload, 1, 0, 0, .null, [])]
abbrev kb_Wk_pushOne_16 : List vx_I := [(.istore_n 2, 1, 2, 0, .null, []), (.iload_n 1, 1, 1, 0, .null, []), (.aload_n 0, 1, 0, 0, .null, []), (.getfield 21, 3, 4, 3, .null, []), (.iconst 1, 1, 0, 0, .int 1, []), (.isub, 1, 0, 0, .null, []), (.if_icmp .ne 10, 3, 34, 0, .null, []), (.aload_n 0, 1, 0, 0, .null, []), (.getfield 25, 3, 4, 4, .null, []), (.goto 11, 3, 42, 0, .null, [])]
abbrev kb_Wk_pushOne_34 : List vx_I := [(.aload_n 0, 1, 0, 0, .null, []), (.getfield 15, 3, 4, 1, .null, []), (.iload_n 1, 1, 1, 0, .null, []), (.iconst 1, 1, 0, 0, .int 1, []), (.iadd, 1, 0, 0, .null, []), (.iaload, 1, 0, 0, .null, [])]
abbrev kb_Wk_pushOne_42 : List vx_I := [(.istore_n 3, 1, 3, 0, .null, []), (.aload_n 0, 1, 0, 0, .null, []), (.getfield 15, 3, 4, 1, .null, []), (.iload_n 1, 1, 1, 0, .null, []), (.iaload, 1, 0, 0, .null, []), (.istore 4, 2, 4, 0, .null, []), (.aload_n 0, 1, 0, 0, .null, []), (.iload_n 2, 1, 2, 0, .null, []), (.iload 4, 2, 4, 0, .null, []), (.invokevirtual 94, 3, 52, 2, .null, [(0, 0), (0, 0), (0, 0), (0, 0)]), (.istore 5, 2, 5, 0, .null, []), (.aload_n 0, 1, 0, 0, .null, []), (.iload 4, 2, 4, 0, .null, []), (.iload_n 3, 1, 3, 0, .null, []), (.invokevirtual 94, 3, 52, 2, .null, [(0, 0), (0, 0), (0, 0), (0, 0)]), (.istore 6, 2, 6, 0, .null, []), (.iload 4, 2, 4, 0, .null, []), (.iload 5, 2, 5, 0, .null, []), (.iload 6, 2, 6, 0, .null, []), (.invokestatic 98, 3, 53, 2, .null, []), (.iadd, 1, 0, 0, .null, []), (.istore 7, 2, 7, 0, .null, []), (.iload 7, 2, 7, 0, .null, []), (.iload 4, 2, 4, 0, .null, []), (.if_icmp .eq 15, 3, 100, 0, .null, []), (.iload 7, 2, 7, 0, .null, []), (.iload_n 2, 1, 2, 0, .null, []), (.if_icmp .le 9, 3, 100, 0, .null, []), (.iload 7, 2, 7, 0, .null, []), (.iload_n 3, 1, 3, 0, .null, []), (.if_icmp .lt 5, 3, 102, 0, .null, [])]
abbrev kb_Wk_pushOne_100 : List vx_I := [(.iconst 0, 1, 0, 0, .int 0, []), (.ireturn, 1, 1, 0, .null, [])]
abbrev kb_Wk_pushOne_102 : List vx_I := [(.aload_n 0, 1, 0, 0, .null, []), (.getfield 15, 3, 4, 1, .null, []), (.iload_n 1, 1, 1, 0, .null, []), (.iload 7, 2, 7, 0, .null, []), (.iastore, 1, 0, 0, .null, []), (.iconst 1, 1, 0, 0, .int 1, []), (.ireturn, 1, 1, 0, .null, [])]
def tb_Wk_pushOne : List (Nat × List vx_I) := [(0, kb_Wk_pushOne_0), (8, kb_Wk_pushOne_8), (16, kb_Wk_pushOne_16), (34, kb_Wk_pushOne_34), (42, kb_Wk_pushOne_42), (100, kb_Wk_pushOne_100), (102, kb_Wk_pushOne_102)]
theorem bk_Wk_pushOne_0 : vx_bk tb_Wk_pushOne 0 = kb_Wk_pushOne_0 := rfl
theorem bk_Wk_pushOne_8 : vx_bk tb_Wk_pushOne 8 = kb_Wk_pushOne_8 := rfl
theorem bk_Wk_pushOne_16 : vx_bk tb_Wk_pushOne 16 = kb_Wk_pushOne_16 := rfl
theorem bk_Wk_pushOne_34 : vx_bk tb_Wk_pushOne 34 = kb_Wk_pushOne_34 := rfl
theorem bk_Wk_pushOne_42 : vx_bk tb_Wk_pushOne 42 = kb_Wk_pushOne_42 := rfl
theorem bk_Wk_pushOne_100 : vx_bk tb_Wk_pushOne 100 = kb_Wk_pushOne_100 := rfl
theorem bk_Wk_pushOne_102 : vx_bk tb_Wk_pushOne 102 = kb_Wk_pushOne_102 := rfl
abbrev m_Wk_pushOne : Nat := 51
set_option maxRecDepth 100000 in
theorem ck_Wk_pushOne : vx_ckM prog_6_method_6_code 4 8 1 false (some .boolean) tb_Wk_pushOne = true := by decide +kernel
theorem ok_Wk_pushOne {As : List Value} {sz : Nat} {h : vx_H} {P : Option Value → vx_H → Prop} (L0 : vx_L) (hlen : (vx_ar As).length ≤ 8) (hL0 : vx_ar As ++ List.replicate (8 - (vx_ar As).length) none = L0)
    (body : ∀ (lim z : vx_Z) X, vx_cl0 none lim tb_Wk_pushOne (fun r z' h' => z' = z ∧ P r h') X → X 0 L0 [] z h) : vx_Ok m_Wk_pushOne As sz h P :=
  vx_ok0 (M := (⟨"VoteWalls$Weeks", "pushOne", "(I)Z"⟩, prog_6_method_6_code, 8, (some .boolean), 1, 0, 0, 1, 0)) rfl (ow := 4) rfl ck_Wk_pushOne rfl hlen hL0 body
abbrev kb_Wk_votesFromTo_0 : List vx_I := [(.iload_n 1, 1, 1, 0, .null, []), (.ifCond .lt 19, 3, 20, 0, .null, []), (.iload_n 1, 1, 1, 0, .null, []), (.bipush 30, 2, 0, 0, .int 30, []), (.if_icmp .gt 13, 3, 20, 0, .null, []), (.iload_n 2, 1, 2, 0, .null, []), (.ifCond .lt 9, 3, 20, 0, .null, []), (.iload_n 2, 1, 2, 0, .null, []), (.bipush 30, 2, 0, 0, .int 30, []), (.if_icmp .le 5, 3, 22, 0, .null, [])]
abbrev kb_Wk_votesFromTo_20 : List vx_I := [(.iconst 0, 1, 0, 0, .int 0, []), (.ireturn, 1, 0, 0, .null, [])]
abbrev kb_Wk_votesFromTo_22 : List vx_I := [(.aload_n 0, 1, 0, 0, .null, []), (.getfield 18, 3, 4, 2, .null, []), (.iload_n 2, 1, 2, 0, .null, []), (.iaload, 1, 0, 0, .null, []), (.aload_n 0, 1, 0, 0, .null, []), (.getfield 18, 3, 4, 2, .null, []), (.iload_n 1, 1, 1, 0, .null, []), (.iaload, 1, 0, 0, .null, []), (.isub, 1, 0, 0, .null, []), (.ireturn, 1, 0, 0, .null, [])]
def tb_Wk_votesFromTo : List (Nat × List vx_I) := [(0, kb_Wk_votesFromTo_0), (20, kb_Wk_votesFromTo_20), (22, kb_Wk_votesFromTo_22)]
theorem bk_Wk_votesFromTo_0 : vx_bk tb_Wk_votesFromTo 0 = kb_Wk_votesFromTo_0 := rfl
theorem bk_Wk_votesFromTo_20 : vx_bk tb_Wk_votesFromTo 20 = kb_Wk_votesFromTo_20 := rfl
theorem bk_Wk_votesFromTo_22 : vx_bk tb_Wk_votesFromTo 22 = kb_Wk_votesFromTo_22 := rfl
abbrev m_Wk_votesFromTo : Nat := 52
set_option maxRecDepth 100000 in
theorem ck_Wk_votesFromTo : vx_ckM prog_6_method_7_code 4 3 0 false (some .int) tb_Wk_votesFromTo = true := by decide +kernel
theorem ok_Wk_votesFromTo {As : List Value} {sz : Nat} {h : vx_H} {P : Option Value → vx_H → Prop} (L0 : vx_L) (hlen : (vx_ar As).length ≤ 3) (hL0 : vx_ar As ++ List.replicate (3 - (vx_ar As).length) none = L0)
    (body : ∀ (lim z : vx_Z) X, vx_cl0 none lim tb_Wk_votesFromTo (fun r z' h' => z' = z ∧ P r h') X → X 0 L0 [] z h) : vx_Ok m_Wk_votesFromTo As sz h P :=
  vx_ok0 (M := (⟨"VoteWalls$Weeks", "votesFromTo", "(II)I"⟩, prog_6_method_7_code, 3, (some .int), 0, 0, 0, 2, 0)) rfl (ow := 4) rfl ck_Wk_votesFromTo rfl hlen hL0 body
abbrev kb_JI_compare_0 : List vx_I := [(.iload_n 0, 1, 0, 0, .null, []), (.iload_n 1, 1, 1, 0, .null, []), (.if_icmp .ge 7, 3, 9, 0, .null, []), (.iconst (-1), 1, 0, 0, .int (-1), []), (.goto 13, 3, 19, 0, .null, [])]
abbrev kb_JI_compare_9 : List vx_I := [(.iload_n 0, 1, 0, 0, .null, []), (.iload_n 1, 1, 1, 0, .null, []), (.if_icmp .ne 7, 3, 18, 0, .null, []), (.iconst 0, 1, 0, 0, .int 0, []), (.goto 4, 3, 19, 0, .null, [])]
abbrev kb_JI_compare_18 : List vx_I := [(.iconst 1, 1, 0, 0, .int 1, [])]
abbrev kb_JI_compare_19 : List vx_I := [(.ireturn, 1, 0, 0, .null, [])]
def tb_JI_compare : List (Nat × List vx_I) := [(0, kb_JI_compare_0), (9, kb_JI_compare_9), (18, kb_JI_compare_18), (19, kb_JI_compare_19)]
theorem bk_JI_compare_0 : vx_bk tb_JI_compare 0 = kb_JI_compare_0 := rfl
theorem bk_JI_compare_9 : vx_bk tb_JI_compare 9 = kb_JI_compare_9 := rfl
theorem bk_JI_compare_18 : vx_bk tb_JI_compare 18 = kb_JI_compare_18 := rfl
theorem bk_JI_compare_19 : vx_bk tb_JI_compare 19 = kb_JI_compare_19 := rfl
abbrev m_JI_compare : Nat := 53
set_option maxRecDepth 100000 in
theorem ck_JI_compare : vx_ckM prog_10_method_40_code 9 2 0 false (some .int) tb_JI_compare = true := by decide +kernel
theorem ok_JI_compare {As : List Value} {sz : Nat} {h : vx_H} {P : Option Value → vx_H → Prop} (L0 : vx_L) (hlen : (vx_ar As).length ≤ 2) (hL0 : vx_ar As ++ List.replicate (2 - (vx_ar As).length) none = L0)
    (body : ∀ (lim z : vx_Z) X, vx_cl0 none lim tb_JI_compare (fun r z' h' => z' = z ∧ P r h') X → X 0 L0 [] z h) : vx_Ok m_JI_compare As sz h P :=
  vx_ok0 (M := (⟨"java/lang/Integer", "compare", "(II)I"⟩, prog_10_method_40_code, 2, (some .int), 0, 0, 0, 2, 1)) rfl (ow := 9) rfl ck_JI_compare rfl hlen hL0 body
abbrev kb_Wk_gapAt_0 : List vx_I := [(.iload_n 2, 1, 2, 0, .null, []), (.aload_n 0, 1, 0, 0, .null, []), (.getfield 28, 3, 4, 5, .null, []), (.invokestatic 103, 3, 0, 0, .long 0, []), (.iconst 1, 1, 0, 0, .int 1, []), (.iadd, 1, 0, 0, .null, []), (.iconst 5, 1, 0, 0, .int 5, []), (.imul, 1, 0, 0, .null, []), (.iload_n 1, 1, 1, 0, .null, []), (.iadd, 1, 0, 0, .null, []), (.istore_n 3, 1, 3, 0, .null, []), (.iload_n 3, 1, 3, 0, .null, []), (.ifCond .lt 21, 3, 37, 0, .null, []), (.iload_n 3, 1, 3, 0, .null, []), (.aload_n 0, 1, 0, 0, .null, []), (.getfield 9, 3, 4, 0, .null, []), (.arraylength, 1, 0, 0, .null, []), (.if_icmp .ge 12, 3, 37, 0, .null, []), (.aload_n 0, 1, 0, 0, .null, []), (.getfield 9, 3, 4, 0, .null, []), (.iload_n 3, 1, 3, 0, .null, []), (.iaload, 1, 0, 0, .null, []), (.goto 4, 3, 38, 0, .null, [])]
abbrev kb_Wk_gapAt_37 : List vx_I := [(.iconst 0, 1, 0, 0, .int 0, [])]
abbrev kb_Wk_gapAt_38 : List vx_I := [(.ireturn, 1, 0, 0, .null, [])]
def tb_Wk_gapAt : List (Nat × List vx_I) := [(0, kb_Wk_gapAt_0), (37, kb_Wk_gapAt_37), (38, kb_Wk_gapAt_38)]
theorem bk_Wk_gapAt_0 : vx_bk tb_Wk_gapAt 0 = kb_Wk_gapAt_0 := rfl
theorem bk_Wk_gapAt_37 : vx_bk tb_Wk_gapAt 37 = kb_Wk_gapAt_37 := rfl
theorem bk_Wk_gapAt_38 : vx_bk tb_Wk_gapAt 38 = kb_Wk_gapAt_38 := rfl
abbrev m_Wk_gapAt : Nat := 54
set_option maxRecDepth 100000 in
theorem ck_Wk_gapAt : vx_ckM prog_6_method_8_code 4 4 1 false (some .int) tb_Wk_gapAt = true := by decide +kernel
theorem ok_Wk_gapAt {As : List Value} {sz : Nat} {h : vx_H} {P : Option Value → vx_H → Prop} (L0 : vx_L) (hlen : (vx_ar As).length ≤ 4) (hL0 : vx_ar As ++ List.replicate (4 - (vx_ar As).length) none = L0)
    (body : ∀ (lim z : vx_Z) X, vx_cl0 none lim tb_Wk_gapAt (fun r z' h' => z' = z ∧ P r h') X → X 0 L0 [] z h) : vx_Ok m_Wk_gapAt As sz h P :=
  vx_ok0 (M := (⟨"VoteWalls$Weeks", "gapAt", "(II)I"⟩, prog_6_method_8_code, 4, (some .int), 1, 0, 0, 2, 0)) rfl (ow := 4) rfl ck_Wk_gapAt rfl hlen hL0 body
abbrev kb_Wk_cellAt_0 : List vx_I := [(.iconst 0, 1, 0, 0, .int 0, []), (.istore_n 3, 1, 3, 0, .null, []), (.iconst 0, 1, 0, 0, .int 0, []), (.istore 4, 2, 4, 0, .null, [])]
abbrev kb_Wk_cellAt_5 : List vx_I := [(.iload 4, 2, 4, 0, .null, []), (.aload_n 0, 1, 0, 0, .null, []), (.getfield 21, 3, 4, 3, .null, []), (.if_icmp .ge 25, 3, 36, 0, .null, []), (.aload_n 0, 1, 0, 0, .null, []), (.iload 4, 2, 4, 0, .null, []), (.iload_n 2, 1, 2, 0, .null, []), (.invokevirtual 108, 3, 54, 2, .null, [(0, 0), (0, 0), (0, 0), (0, 0)]), (.iload_n 1, 1, 1, 0, .null, []), (.if_icmp .gt 8, 3, 30, 0, .null, []), (.iload 4, 2, 4, 0, .null, []), (.iconst 1, 1, 0, 0, .int 1, []), (.iadd, 1, 0, 0, .null, []), (.istore_n 3, 1, 3, 0, .null, [])]
abbrev kb_Wk_cellAt_30 : List vx_I := [(.iinc 4 1, 3, 4, 0, .int 1, []), (.goto (-28), 3, 5, 0, .null, [])]
abbrev kb_Wk_cellAt_36 : List vx_I := [(.iload_n 3, 1, 3, 0, .null, []), (.ireturn, 1, 0, 0, .null, [])]
def tb_Wk_cellAt : List (Nat × List vx_I) := [(0, kb_Wk_cellAt_0), (5, kb_Wk_cellAt_5), (30, kb_Wk_cellAt_30), (36, kb_Wk_cellAt_36)]
theorem bk_Wk_cellAt_0 : vx_bk tb_Wk_cellAt 0 = kb_Wk_cellAt_0 := rfl
theorem bk_Wk_cellAt_5 : vx_bk tb_Wk_cellAt 5 = kb_Wk_cellAt_5 := rfl
theorem bk_Wk_cellAt_30 : vx_bk tb_Wk_cellAt 30 = kb_Wk_cellAt_30 := rfl
theorem bk_Wk_cellAt_36 : vx_bk tb_Wk_cellAt 36 = kb_Wk_cellAt_36 := rfl
abbrev m_Wk_cellAt : Nat := 57
set_option maxRecDepth 100000 in
theorem ck_Wk_cellAt : vx_ckM prog_6_method_9_code 4 5 2 false (some .int) tb_Wk_cellAt = true := by decide +kernel
theorem ok_Wk_cellAt {As : List Value} {sz : Nat} {h : vx_H} {P : Option Value → vx_H → Prop} (L0 : vx_L) (hlen : (vx_ar As).length ≤ 5) (hL0 : vx_ar As ++ List.replicate (5 - (vx_ar As).length) none = L0)
    (body : ∀ (lim z : vx_Z) X, vx_cl0 none lim tb_Wk_cellAt (fun r z' h' => z' = z ∧ P r h') X → X 0 L0 [] z h) : vx_Ok m_Wk_cellAt As sz h P :=
  vx_ok0 (M := (⟨"VoteWalls$Weeks", "cellAt", "(II)I"⟩, prog_6_method_9_code, 5, (some .int), 2, 0, 0, 2, 0)) rfl (ow := 4) rfl ck_Wk_cellAt rfl hlen hL0 body
abbrev kb_Wk_widthAt_0 : List vx_I := [(.iload_n 1, 1, 1, 0, .null, []), (.ifCond .ne 7, 3, 8, 0, .null, []), (.iconst 0, 1, 0, 0, .int 0, []), (.goto 11, 3, 16, 0, .null, [])]
abbrev kb_Wk_widthAt_8 : List vx_I := [(.aload_n 0, 1, 0, 0, .null, []), (.iload_n 1, 1, 1, 0, .null, []), (.iconst 1, 1, 0, 0, .int 1, []), (.isub, 1, 0, 0, .null, []), (.iload_n 2, 1, 2, 0, .null, []), (.invokevirtual 108, 3, 54, 2, .null, [(0, 0), (0, 0), (0, 0), (0, 0)])]
abbrev kb_Wk_widthAt_16 : List vx_I := [(.istore_n 3, 1, 3, 0, .null, []), (.iload_n 1, 1, 1, 0, .null, []), (.aload_n 0, 1, 0, 0, .null, []), (.getfield 21, 3, 4, 3, .null, []), (.if_icmp .ne 10, 3, 32, 0, .null, []), (.aload_n 0, 1, 0, 0, .null, []), (.getfield 25, 3, 4, 4, .null, []), (.goto 9, 3, 38, 0, .null, [])]
abbrev kb_Wk_widthAt_32 : List vx_I := [(.aload_n 0, 1, 0, 0, .null, []), (.iload_n 1, 1, 1, 0, .null, []), (.iload_n 2, 1, 2, 0, .null, []), (.invokevirtual 108, 3, 54, 2, .null, [(0, 0), (0, 0), (0, 0), (0, 0)])]
abbrev kb_Wk_widthAt_38 : List vx_I := [(.istore 4, 2, 4, 0, .null, []), (.iload 4, 2, 4, 0, .null, []), (.iload_n 3, 1, 3, 0, .null, []), (.isub, 1, 0, 0, .null, []), (.ireturn, 1, 0, 0, .null, [])]
def tb_Wk_widthAt : List (Nat × List vx_I) := [(0, kb_Wk_widthAt_0), (8, kb_Wk_widthAt_8), (16, kb_Wk_widthAt_16), (32, kb_Wk_widthAt_32), (38, kb_Wk_widthAt_38)]
theorem bk_Wk_widthAt_0 : vx_bk tb_Wk_widthAt 0 = kb_Wk_widthAt_0 := rfl
theorem bk_Wk_widthAt_8 : vx_bk tb_Wk_widthAt 8 = kb_Wk_widthAt_8 := rfl
theorem bk_Wk_widthAt_16 : vx_bk tb_Wk_widthAt 16 = kb_Wk_widthAt_16 := rfl
theorem bk_Wk_widthAt_32 : vx_bk tb_Wk_widthAt 32 = kb_Wk_widthAt_32 := rfl
theorem bk_Wk_widthAt_38 : vx_bk tb_Wk_widthAt 38 = kb_Wk_widthAt_38 := rfl
abbrev m_Wk_widthAt : Nat := 60
set_option maxRecDepth 100000 in
theorem ck_Wk_widthAt : vx_ckM prog_6_method_10_code 4 5 2 false (some .int) tb_Wk_widthAt = true := by decide +kernel
theorem ok_Wk_widthAt {As : List Value} {sz : Nat} {h : vx_H} {P : Option Value → vx_H → Prop} (L0 : vx_L) (hlen : (vx_ar As).length ≤ 5) (hL0 : vx_ar As ++ List.replicate (5 - (vx_ar As).length) none = L0)
    (body : ∀ (lim z : vx_Z) X, vx_cl0 none lim tb_Wk_widthAt (fun r z' h' => z' = z ∧ P r h') X → X 0 L0 [] z h) : vx_Ok m_Wk_widthAt As sz h P :=
  vx_ok0 (M := (⟨"VoteWalls$Weeks", "widthAt", "(II)I"⟩, prog_6_method_10_code, 5, (some .int), 2, 0, 0, 2, 0)) rfl (ow := 4) rfl ck_Wk_widthAt rfl hlen hL0 body
abbrev kb_JI_bitCount_0 : List vx_I := [(.iload_n 0, 1, 0, 0, .null, []), (.iload_n 0, 1, 0, 0, .null, []), (.iconst 1, 1, 0, 0, .int 1, []), (.iushr, 1, 0, 0, .null, []), (.ldc_w 265, 3, 0, 0, .int (1431655765), []), (.iand, 1, 0, 0, .null, []), (.isub, 1, 0, 0, .null, []), (.istore_n 0, 1, 0, 0, .null, []), (.iload_n 0, 1, 0, 0, .null, []), (.ldc_w 266, 3, 0, 0, .int (858993459), []), (.iand, 1, 0, 0, .null, []), (.iload_n 0, 1, 0, 0, .null, []), (.iconst 2, 1, 0, 0, .int 2, []), (.iushr, 1, 0, 0, .null, []), (.ldc_w 266, 3, 0, 0, .int (858993459), []), (.iand, 1, 0, 0, .null, []), (.iadd, 1, 0, 0, .null, []), (.istore_n 0, 1, 0, 0, .null, []), (.iload_n 0, 1, 0, 0, .null, []), (.iload_n 0, 1, 0, 0, .null, []), (.iconst 4, 1, 0, 0, .int 4, []), (.iushr, 1, 0, 0, .null, []), (.iadd, 1, 0, 0, .null, []), (.ldc_w 267, 3, 0, 0, .int (252645135), []), (.iand, 1, 0, 0, .null, []), (.istore_n 0, 1, 0, 0, .null, []), (.iload_n 0, 1, 0, 0, .null, []), (.iload_n 0, 1, 0, 0, .null, []), (.bipush 8, 2, 0, 0, .int 8, []), (.iushr, 1, 0, 0, .null, []), (.iadd, 1, 0, 0, .null, []), (.istore_n 0, 1, 0, 0, .null, []), (.iload_n 0, 1, 0, 0, .null, []), (.iload_n 0, 1, 0, 0, .null, []), (.bipush 16, 2, 0, 0, .int 16, []), (.iushr, 1, 0, 0, .null, []), (.iadd, 1, 0, 0, .null, []), (.istore_n 0, 1, 0, 0, .null, []), (.iload_n 0, 1, 0, 0, .null, []), (.bipush 63, 2, 0, 0, .int 63, []), (.iand, 1, 0, 0, .null, []), (.ireturn, 1, 0, 0, .null, [])]
def tb_JI_bitCount : List (Nat × List vx_I) := [(0, kb_JI_bitCount_0)]
theorem bk_JI_bitCount_0 : vx_bk tb_JI_bitCount 0 = kb_JI_bitCount_0 := rfl
abbrev m_JI_bitCount : Nat := 68
set_option maxRecDepth 100000 in
theorem ck_JI_bitCount : vx_ckM prog_10_method_49_code 9 1 0 false (some .int) tb_JI_bitCount = true := by decide +kernel
theorem ok_JI_bitCount {As : List Value} {sz : Nat} {h : vx_H} {P : Option Value → vx_H → Prop} (L0 : vx_L) (hlen : (vx_ar As).length ≤ 1) (hL0 : vx_ar As ++ List.replicate (1 - (vx_ar As).length) none = L0)
    (body : ∀ (lim z : vx_Z) X, vx_cl0 none lim tb_JI_bitCount (fun r z' h' => z' = z ∧ P r h') X → X 0 L0 [] z h) : vx_Ok m_JI_bitCount As sz h P :=
  vx_ok0 (M := (⟨"java/lang/Integer", "bitCount", "(I)I"⟩, prog_10_method_49_code, 1, (some .int), 0, 0, 0, 1, 1)) rfl (ow := 9) rfl ck_JI_bitCount rfl hlen hL0 body
abbrev kb_Sh_renew_0 : List vx_I := [(.aload_n 0, 1, 0, 0, .null, []), (.getfield 9, 3, 1, 0, .null, []), (.iconst 0, 1, 0, 0, .int 0, []), (.invokestatic 22, 3, 27, 2, .null, []), (.aload_n 0, 1, 0, 0, .null, []), (.iload_n 1, 1, 1, 0, .null, []), (.putfield 15, 3, 1, 1, .int 0, []), (.aload_n 0, 1, 0, 0, .null, []), (.iload_n 2, 1, 2, 0, .null, []), (.putfield 19, 3, 1, 2, .int 0, []), (.return_, 1, 0, 0, .null, [])]
def tb_Sh_renew : List (Nat × List vx_I) := [(0, kb_Sh_renew_0)]
theorem bk_Sh_renew_0 : vx_bk tb_Sh_renew 0 = kb_Sh_renew_0 := rfl
abbrev m_Sh_renew : Nat := 85
set_option maxRecDepth 100000 in
theorem ck_Sh_renew : vx_ckM prog_3_method_2_code 1 3 1 false none tb_Sh_renew = true := by decide +kernel
theorem ok_Sh_renew {As : List Value} {sz : Nat} {h : vx_H} {P : Option Value → vx_H → Prop} (L0 : vx_L) (hlen : (vx_ar As).length ≤ 3) (hL0 : vx_ar As ++ List.replicate (3 - (vx_ar As).length) none = L0)
    (body : ∀ (lim z : vx_Z) X, vx_cl0 none lim tb_Sh_renew (fun r z' h' => z' = z ∧ P r h') X → X 0 L0 [] z h) : vx_Ok m_Sh_renew As sz h P :=
  vx_ok0 (M := (⟨"VoteWalls$Sheet", "renew", "(II)V"⟩, prog_3_method_2_code, 3, none, 1, 0, 0, 2, 0)) rfl (ow := 1) rfl ck_Sh_renew rfl hlen hL0 body
abbrev kb_Sh_setNumber_0 : List vx_I := [(.iload_n 1, 1, 1, 0, .null, []), (.ifCond .lt 22, 3, 23, 0, .null, []), (.iload_n 1, 1, 1, 0, .null, []), (.aload_n 0, 1, 0, 0, .null, []), (.getfield 19, 3, 1, 2, .null, []), (.if_icmp .ge 14, 3, 23, 0, .null, []), (.aload_n 0, 1, 0, 0, .null, []), (.getfield 9, 3, 1, 0, .null, []), (.iload_n 1, 1, 1, 0, .null, []), (.aload_n 0, 1, 0, 0, .null, []), (.iload_n 2, 1, 2, 0, .null, []), (.invokevirtual 32, 3, 89, 1, .null, [(0, 0)]), (.iastore, 1, 0, 0, .null, [])]
abbrev kb_Sh_setNumber_23 : List vx_I := [(.return_, 1, 0, 0, .null, [])]
def tb_Sh_setNumber : List (Nat × List vx_I) := [(0, kb_Sh_setNumber_0), (23, kb_Sh_setNumber_23)]
theorem bk_Sh_setNumber_0 : vx_bk tb_Sh_setNumber 0 = kb_Sh_setNumber_0 := rfl
theorem bk_Sh_setNumber_23 : vx_bk tb_Sh_setNumber 23 = kb_Sh_setNumber_23 := rfl
abbrev m_Sh_setNumber : Nat := 88
set_option maxRecDepth 100000 in
theorem ck_Sh_setNumber : vx_ckM prog_3_method_6_code 1 3 1 false none tb_Sh_setNumber = true := by decide +kernel
theorem ok_Sh_setNumber {As : List Value} {sz : Nat} {h : vx_H} {P : Option Value → vx_H → Prop} (L0 : vx_L) (hlen : (vx_ar As).length ≤ 3) (hL0 : vx_ar As ++ List.replicate (3 - (vx_ar As).length) none = L0)
    (body : ∀ (lim z : vx_Z) X, vx_cl0 none lim tb_Sh_setNumber (fun r z' h' => z' = z ∧ P r h') X → X 0 L0 [] z h) : vx_Ok m_Sh_setNumber As sz h P :=
  vx_ok0 (M := (⟨"VoteWalls$Sheet", "setNumber", "(II)V"⟩, prog_3_method_6_code, 3, none, 1, 0, 0, 2, 0)) rfl (ow := 1) rfl ck_Sh_setNumber rfl hlen hL0 body
abbrev kb_Sh_cut_0 : List vx_I := [(.aload_n 0, 1, 0, 0, .null, []), (.getfield 15, 3, 1, 1, .null, []), (.lookupswitch 34 #[(0, 28), (1, 31)], 28, 38, 0, .null, [(0, 32), (1, 35)])]
abbrev kb_Sh_cut_32 : List vx_I := [(.iload_n 1, 1, 1, 0, .null, []), (.i2b, 1, 0, 0, .null, []), (.ireturn, 1, 0, 0, .null, [])]
abbrev kb_Sh_cut_35 : List vx_I := [(.iload_n 1, 1, 1, 0, .null, []), (.i2s, 1, 0, 0, .null, []), (.ireturn, 1, 0, 0, .null, [])]
abbrev kb_Sh_cut_38 : List vx_I := [(.iload_n 1, 1, 1, 0, .null, []), (.ireturn, 1, 0, 0, .null, [])]
def tb_Sh_cut : List (Nat × List vx_I) := [(0, kb_Sh_cut_0), (32, kb_Sh_cut_32), (35, kb_Sh_cut_35), (38, kb_Sh_cut_38)]
theorem bk_Sh_cut_0 : vx_bk tb_Sh_cut 0 = kb_Sh_cut_0 := rfl
theorem bk_Sh_cut_32 : vx_bk tb_Sh_cut 32 = kb_Sh_cut_32 := rfl
theorem bk_Sh_cut_35 : vx_bk tb_Sh_cut 35 = kb_Sh_cut_35 := rfl
theorem bk_Sh_cut_38 : vx_bk tb_Sh_cut 38 = kb_Sh_cut_38 := rfl
abbrev m_Sh_cut : Nat := 89
set_option maxRecDepth 100000 in
theorem ck_Sh_cut : vx_ckM prog_3_method_7_code 1 2 0 false (some .int) tb_Sh_cut = true := by decide +kernel
theorem ok_Sh_cut {As : List Value} {sz : Nat} {h : vx_H} {P : Option Value → vx_H → Prop} (L0 : vx_L) (hlen : (vx_ar As).length ≤ 2) (hL0 : vx_ar As ++ List.replicate (2 - (vx_ar As).length) none = L0)
    (body : ∀ (lim z : vx_Z) X, vx_cl0 none lim tb_Sh_cut (fun r z' h' => z' = z ∧ P r h') X → X 0 L0 [] z h) : vx_Ok m_Sh_cut As sz h P :=
  vx_ok0 (M := (⟨"VoteWalls$Sheet", "cut", "(I)I"⟩, prog_3_method_7_code, 2, (some .int), 0, 0, 0, 1, 0)) rfl (ow := 1) rfl ck_Sh_cut rfl hlen hL0 body
