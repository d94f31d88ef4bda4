/-! blocks, printed by wip/gen.py: of each method its items from every place to which it jumps on -/
abbrev kb_R_init_0 : List vx_I := [(.aload_n 0, 1, 0, 0, .null, []), (.invokespecial 1, 3, 0, 0, .int 0, []), (.aload_n 0, 1, 0, 0, .null, []), (.iconst 4, 1, 0, 0, .int 4, []), (.newarray .int, 2, 0, 4, .null, []), (.dup, 1, 0, 0, .null, []), (.iconst 0, 1, 0, 0, .int 0, []), (.bipush (-9), 2, 0, 0, .int (-9), []), (.iastore, 1, 0, 0, .null, []), (.dup, 1, 0, 0, .null, []), (.iconst 1, 1, 0, 0, .int 1, []), (.bipush (-9), 2, 0, 0, .int (-9), []), (.iastore, 1, 0, 0, .null, []), (.dup, 1, 0, 0, .null, []), (.iconst 2, 1, 0, 0, .int 2, []), (.bipush (-9), 2, 0, 0, .int (-9), []), (.iastore, 1, 0, 0, .null, []), (.dup, 1, 0, 0, .null, []), (.iconst 3, 1, 0, 0, .int 3, []), (.bipush (-9), 2, 0, 0, .int (-9), []), (.iastore, 1, 0, 0, .null, []), (.putfield 9, 3, 7, 2, .null, []), (.aload_n 0, 1, 0, 0, .null, []), (.iconst 4, 1, 0, 0, .int 4, []), (.newarray .int, 2, 0, 4, .null, []), (.putfield 13, 3, 7, 3, .null, []), (.aload_n 0, 1, 0, 0, .null, []), (.sipush 240, 3, 0, 0, .int 240, []), (.newarray .int, 2, 0, 240, .null, []), (.putfield 16, 3, 7, 4, .null, []), (.aload_n 0, 1, 0, 0, .null, []), (.iconst 5, 1, 0, 0, .int 5, []), (.newarray .int, 2, 0, 5, .null, []), (.putfield 19, 3, 7, 8, .null, []), (.aload_n 0, 1, 0, 0, .null, []), (.bipush 8, 2, 0, 0, .int 8, []), (.newarray .int, 2, 0, 8, .null, []), (.putfield 22, 3, 7, 9, .null, []), (.aload_n 0, 1, 0, 0, .null, []), (.bipush 8, 2, 0, 0, .int 8, []), (.newarray .int, 2, 0, 8, .null, []), (.putfield 25, 3, 7, 10, .null, []), (.aload_n 0, 1, 0, 0, .null, []), (.iconst 5, 1, 0, 0, .int 5, []), (.newarray .int, 2, 0, 5, .null, []), (.putfield 28, 3, 7, 16, .null, []), (.aload_n 0, 1, 0, 0, .null, []), (.bipush 8, 2, 0, 0, .int 8, []), (.newarray .int, 2, 0, 8, .null, []), (.putfield 31, 3, 7, 17, .null, []), (.aload_n 0, 1, 0, 0, .null, []), (.bipush 8, 2, 0, 0, .int 8, []), (.newarray .int, 2, 0, 8, .null, []), (.putfield 34, 3, 7, 18, .null, []), (.aload_n 0, 1, 0, 0, .null, []), (.bipush 6, 2, 0, 0, .int 6, []), (.newarray .int, 2, 0, 6, .null, []), (.putfield 37, 3, 7, 20, .null, []), (.aload_n 0, 1, 0, 0, .null, []), (.bipush 6, 2, 0, 0, .int 6, []), (.newarray .int, 2, 0, 6, .null, []), (.putfield 40, 3, 7, 21, .null, []), (.aload_n 0, 1, 0, 0, .null, []), (.bipush 6, 2, 0, 0, .int 6, []), (.newarray .int, 2, 0, 6, .null, []), (.putfield 43, 3, 7, 22, .null, []), (.aload_n 0, 1, 0, 0, .null, []), (.bipush 6, 2, 0, 0, .int 6, []), (.newarray .int, 2, 0, 6, .null, []), (.putfield 46, 3, 7, 24, .null, []), (.aload_n 0, 1, 0, 0, .null, []), (.bipush 6, 2, 0, 0, .int 6, []), (.newarray .int, 2, 0, 6, .null, []), (.putfield 49, 3, 7, 25, .null, []), (.aload_n 0, 1, 0, 0, .null, []), (.bipush 6, 2, 0, 0, .int 6, []), (.newarray .int, 2, 0, 6, .null, []), (.putfield 52, 3, 7, 26, .null, []), (.aload_n 0, 1, 0, 0, .null, []), (.iconst 5, 1, 0, 0, .int 5, []), (.newarray .int, 2, 0, 5, .null, []), (.putfield 55, 3, 7, 29, .null, []), (.aload_n 0, 1, 0, 0, .null, []), (.bipush 8, 2, 0, 0, .int 8, []), (.newarray .int, 2, 0, 8, .null, []), (.putfield 58, 3, 7, 32, .null, []), (.aload_n 0, 1, 0, 0, .null, []), (.bipush 8, 2, 0, 0, .int 8, []), (.newarray .int, 2, 0, 8, .null, []), (.putfield 61, 3, 7, 33, .null, []), (.aload_n 0, 1, 0, 0, .null, []), (.bipush 8, 2, 0, 0, .int 8, []), (.newarray .int, 2, 0, 8, .null, []), (.putfield 64, 3, 7, 34, .null, []), (.return_, 1, 0, 0, .null, [])]
def tb_R_init : List (Nat × List vx_I) := [(0, kb_R_init_0)]
theorem bk_R_init_0 : vx_bk tb_R_init 0 = kb_R_init_0 := rfl
abbrev m_R_init : Nat := 102
set_option maxRecDepth 100000 in
theorem ck_R_init : vx_ckM prog_9_method_1_code 7 1 1 true none tb_R_init = true := by decide +kernel
theorem ok_R_init {As : List Value} {sz : Nat} {h : vx_H} {P : Option Value → vx_H → Prop} (L0 : vx_L) (hlen : (vx_ar As).length ≤ 1) (hL0 : vx_ar As ++ List.replicate (1 - (vx_ar As).length) none = L0)
    (body : ∀ X, vx_cl0 none (sz + 19, 355) tb_R_init (fun r z' h' => z'.1 = sz + 19 ∧ P r h') X → X 0 L0 [] (sz, 0) h) : vx_Ok m_R_init As sz h P :=
  vx_ok (M := (⟨"VoteWallsModel", "<init>", "()V"⟩, prog_9_method_1_code, 1, none, 1, 19, 355, 0, 2)) rfl (ow := 7) rfl ck_R_init hlen hL0 (fun _ _ _ h => h) body
abbrev kb_R_yard_0 : List vx_I := [(.aload_n 0, 1, 0, 0, .null, []), (.iconst 0, 1, 0, 0, .int 0, []), (.putfield 67, 3, 7, 0, .int 0, []), (.iload_n 1, 1, 1, 0, .null, []), (.invokestatic 90, 3, 104, 1, .null, []), (.ifCond .ne 5, 3, 14, 0, .null, []), (.iconst (-1), 1, 0, 0, .int (-1), []), (.ireturn, 1, 0, 0, .null, [])]
abbrev kb_R_yard_14 : List vx_I := [(.iload_n 2, 1, 2, 0, .null, []), (.invokestatic 94, 3, 106, 1, .null, []), (.ifCond .ne 6, 3, 24, 0, .null, []), (.bipush (-2), 2, 0, 0, .int (-2), []), (.ireturn, 1, 0, 0, .null, [])]
abbrev kb_R_yard_24 : List vx_I := [(.aload_n 0, 1, 0, 0, .null, []), (.iload_n 1, 1, 1, 0, .null, []), (.iload_n 2, 1, 2, 0, .null, []), (.iload_n 3, 1, 3, 0, .null, []), (.iload 4, 2, 4, 0, .null, []), (.invokevirtual 97, 3, 107, 4, .null, [(0, 0), (0, 0), (0, 0), (0, 0), (0, 0), (0, 0), (0, 0)]), (.istore 5, 2, 5, 0, .null, []), (.iload 5, 2, 5, 0, .null, []), (.ifCond .eq 10, 3, 47, 0, .null, []), (.aload_n 0, 1, 0, 0, .null, []), (.iload 5, 2, 5, 0, .null, []), (.invokevirtual 101, 3, 108, 1, .null, [(0, 0), (0, 0), (0, 0), (0, 0), (0, 0), (0, 0), (0, 0)]), (.ireturn, 1, 0, 0, .null, [])]
abbrev kb_R_yard_47 : List vx_I := [(.bipush 60, 2, 0, 0, .int 60, []), (.iload_n 1, 1, 1, 0, .null, []), (.imul, 1, 0, 0, .null, []), (.iload_n 3, 1, 3, 0, .null, []), (.iadd, 1, 0, 0, .null, []), (.istore 6, 2, 6, 0, .null, []), (.aload_n 0, 1, 0, 0, .null, []), (.iload 6, 2, 6, 0, .null, []), (.putfield 83, 3, 7, 12, .int 0, []), (.aload_n 0, 1, 0, 0, .null, []), (.iload 6, 2, 6, 0, .null, []), (.iload 4, 2, 4, 0, .null, []), (.iadd, 1, 0, 0, .null, []), (.invokevirtual 105, 3, 109, 1, .null, [(0, 0), (0, 0), (0, 0), (0, 0), (0, 0), (0, 0), (0, 0)]), (.ifCond .ne 14, 3, 84, 0, .null, []), (.bipush (-100), 2, 0, 0, .int (-100), []), (.aload_n 0, 1, 0, 0, .null, []), (.getfield 83, 3, 7, 12, .null, []), (.iload 6, 2, 6, 0, .null, []), (.isub, 1, 0, 0, .null, []), (.isub, 1, 0, 0, .null, []), (.ireturn, 1, 0, 0, .null, [])]
abbrev kb_R_yard_84 : List vx_I := [(.aload_n 0, 1, 0, 0, .null, []), (.aload_n 0, 1, 0, 0, .null, []), (.getfield 108, 3, 7, 13, .null, []), (.putfield 111, 3, 7, 5, .int 0, []), (.aload_n 0, 1, 0, 0, .null, []), (.aload_n 0, 1, 0, 0, .null, []), (.getfield 114, 3, 7, 14, .null, []), (.putfield 77, 3, 7, 6, .int 0, []), (.aload_n 0, 1, 0, 0, .null, []), (.aload_n 0, 1, 0, 0, .null, []), (.getfield 117, 3, 7, 15, .null, []), (.putfield 80, 3, 7, 7, .int 0, []), (.iconst 0, 1, 0, 0, .int 0, []), (.istore 7, 2, 7, 0, .null, [])]
abbrev kb_R_yard_111 : List vx_I := [(.iload 7, 2, 7, 0, .null, []), (.aload_n 0, 1, 0, 0, .null, []), (.getfield 77, 3, 7, 6, .null, []), (.if_icmp .ge 23, 3, 140, 0, .null, []), (.aload_n 0, 1, 0, 0, .null, []), (.getfield 19, 3, 7, 8, .null, []), (.iload 7, 2, 7, 0, .null, []), (.aload_n 0, 1, 0, 0, .null, []), (.getfield 28, 3, 7, 16, .null, []), (.iload 7, 2, 7, 0, .null, []), (.iaload, 1, 0, 0, .null, []), (.iastore, 1, 0, 0, .null, []), (.iinc 7 1, 3, 7, 0, .int 1, []), (.goto (-26), 3, 111, 0, .null, [])]
abbrev kb_R_yard_140 : List vx_I := [(.iconst 0, 1, 0, 0, .int 0, []), (.istore 7, 2, 7, 0, .null, [])]
abbrev kb_R_yard_143 : List vx_I := [(.iload 7, 2, 7, 0, .null, []), (.aload_n 0, 1, 0, 0, .null, []), (.getfield 80, 3, 7, 7, .null, []), (.if_icmp .ge 37, 3, 186, 0, .null, []), (.aload_n 0, 1, 0, 0, .null, []), (.getfield 22, 3, 7, 9, .null, []), (.iload 7, 2, 7, 0, .null, []), (.aload_n 0, 1, 0, 0, .null, []), (.getfield 31, 3, 7, 17, .null, []), (.iload 7, 2, 7, 0, .null, []), (.iaload, 1, 0, 0, .null, []), (.iastore, 1, 0, 0, .null, []), (.aload_n 0, 1, 0, 0, .null, []), (.getfield 25, 3, 7, 10, .null, []), (.iload 7, 2, 7, 0, .null, []), (.aload_n 0, 1, 0, 0, .null, []), (.getfield 34, 3, 7, 18, .null, []), (.iload 7, 2, 7, 0, .null, []), (.iaload, 1, 0, 0, .null, []), (.iastore, 1, 0, 0, .null, []), (.iinc 7 1, 3, 7, 0, .int 1, []), (.goto (-40), 3, 143, 0, .null, [])]
abbrev kb_R_yard_186 : List vx_I := [(.aload_n 0, 1, 0, 0, .null, []), (.iconst 0, 1, 0, 0, .int 0, []), (.putfield 120, 3, 7, 11, .int 0, []), (.aload_n 0, 1, 0, 0, .null, []), (.iconst 0, 1, 0, 0, .int 0, []), (.putfield 123, 3, 7, 19, .int 0, []), (.aload_n 0, 1, 0, 0, .null, []), (.iconst 0, 1, 0, 0, .int 0, []), (.putfield 126, 3, 7, 23, .int 0, []), (.aload_n 0, 1, 0, 0, .null, []), (.iconst 0, 1, 0, 0, .int 0, []), (.putfield 129, 3, 7, 31, .int 0, []), (.aload_n 0, 1, 0, 0, .null, []), (.getfield 80, 3, 7, 7, .null, []), (.ireturn, 1, 0, 0, .null, [])]
def tb_R_yard : List (Nat × List vx_I) := [(0, kb_R_yard_0), (14, kb_R_yard_14), (24, kb_R_yard_24), (47, kb_R_yard_47), (84, kb_R_yard_84), (111, kb_R_yard_111), (140, kb_R_yard_140), (143, kb_R_yard_143), (186, kb_R_yard_186)]
theorem bk_R_yard_0 : vx_bk tb_R_yard 0 = kb_R_yard_0 := rfl
theorem bk_R_yard_14 : vx_bk tb_R_yard 14 = kb_R_yard_14 := rfl
theorem bk_R_yard_24 : vx_bk tb_R_yard 24 = kb_R_yard_24 := rfl
theorem bk_R_yard_47 : vx_bk tb_R_yard 47 = kb_R_yard_47 := rfl
theorem bk_R_yard_84 : vx_bk tb_R_yard 84 = kb_R_yard_84 := rfl
theorem bk_R_yard_111 : vx_bk tb_R_yard 111 = kb_R_yard_111 := rfl
theorem bk_R_yard_140 : vx_bk tb_R_yard 140 = kb_R_yard_140 := rfl
theorem bk_R_yard_143 : vx_bk tb_R_yard 143 = kb_R_yard_143 := rfl
theorem bk_R_yard_186 : vx_bk tb_R_yard 186 = kb_R_yard_186 := rfl
abbrev m_R_yard : Nat := 103
set_option maxRecDepth 100000 in
theorem ck_R_yard : vx_ckM prog_9_method_16_code 7 8 5 false (some .int) tb_R_yard = true := by decide +kernel
theorem ok_R_yard {As : List Value} {sz : Nat} {h : vx_H} {P : Option Value → vx_H → Prop} (L0 : vx_L) (hlen : (vx_ar As).length ≤ 8) (hL0 : vx_ar As ++ List.replicate (8 - (vx_ar As).length) none = L0)
    (body : ∀ (lim z : vx_Z) X, vx_cl0 none lim tb_R_yard (fun r z' h' => z' = z ∧ P r h') X → X 0 L0 [] z h) : vx_Ok m_R_yard As sz h P :=
  vx_ok0 (M := (⟨"VoteWallsModel", "yard", "(IIII)I"⟩, prog_9_method_16_code, 8, (some .int), 5, 0, 0, 4, 0)) rfl (ow := 7) rfl ck_R_yard rfl hlen hL0 body
abbrev kb_R_isSheet_0 : List vx_I := [(.iload_n 0, 1, 0, 0, .null, []), (.iconst 0, 1, 0, 0, .int 0, []), (.iconst 3, 1, 0, 0, .int 3, []), (.invokestatic 73, 3, 105, 3, .null, []), (.ireturn, 1, 1, 0, .null, [])]
def tb_R_isSheet : List (Nat × List vx_I) := [(0, kb_R_isSheet_0)]
theorem bk_R_isSheet_0 : vx_bk tb_R_isSheet 0 = kb_R_isSheet_0 := rfl
abbrev m_R_isSheet : Nat := 104
set_option maxRecDepth 100000 in
theorem ck_R_isSheet : vx_ckM prog_9_method_6_code 7 1 1 false (some .boolean) tb_R_isSheet = true := by decide +kernel
theorem ok_R_isSheet {As : List Value} {sz : Nat} {h : vx_H} {P : Option Value → vx_H → Prop} (L0 : vx_L) (hlen : (vx_ar As).length ≤ 1) (hL0 : vx_ar As ++ List.replicate (1 - (vx_ar As).length) none = L0)
    (body : ∀ (lim z : vx_Z) X, vx_cl0 none lim tb_R_isSheet (fun r z' h' => z' = z ∧ P r h') X → X 0 L0 [] z h) : vx_Ok m_R_isSheet As sz h P :=
  vx_ok0 (M := (⟨"VoteWallsModel", "isSheet", "(I)Z"⟩, prog_9_method_6_code, 1, (some .boolean), 1, 0, 0, 1, 1)) rfl (ow := 7) rfl ck_R_isSheet rfl hlen hL0 body
abbrev kb_R_within_0 : List vx_I := [(.iload_n 0, 1, 0, 0, .null, []), (.iload_n 1, 1, 1, 0, .null, []), (.if_icmp .lt 12, 3, 14, 0, .null, []), (.iload_n 0, 1, 0, 0, .null, []), (.iload_n 2, 1, 2, 0, .null, []), (.if_icmp .gt 7, 3, 14, 0, .null, []), (.iconst 1, 1, 0, 0, .int 1, []), (.goto 4, 3, 15, 0, .null, [])]
abbrev kb_R_within_14 : List vx_I := [(.iconst 0, 1, 0, 0, .int 0, [])]
abbrev kb_R_within_15 : List vx_I := [(.ireturn, 1, 1, 0, .null, [])]
def tb_R_within : List (Nat × List vx_I) := [(0, kb_R_within_0), (14, kb_R_within_14), (15, kb_R_within_15)]
theorem bk_R_within_0 : vx_bk tb_R_within 0 = kb_R_within_0 := rfl
theorem bk_R_within_14 : vx_bk tb_R_within 14 = kb_R_within_14 := rfl
theorem bk_R_within_15 : vx_bk tb_R_within 15 = kb_R_within_15 := rfl
abbrev m_R_within : Nat := 105
set_option maxRecDepth 100000 in
theorem ck_R_within : vx_ckM prog_9_method_5_code 7 3 0 false (some .boolean) tb_R_within = true := by decide +kernel
theorem ok_R_within {As : List Value} {sz : Nat} {h : vx_H} {P : Option Value → vx_H → Prop} (L0 : vx_L) (hlen : (vx_ar As).length ≤ 3) (hL0 : vx_ar As ++ List.replicate (3 - (vx_ar As).length) none = L0)
    (body : ∀ (lim z : vx_Z) X, vx_cl0 none lim tb_R_within (fun r z' h' => z' = z ∧ P r h') X → X 0 L0 [] z h) : vx_Ok m_R_within As sz h P :=
  vx_ok0 (M := (⟨"VoteWallsModel", "within", "(III)Z"⟩, prog_9_method_5_code, 3, (some .boolean), 0, 0, 0, 3, 1)) rfl (ow := 7) rfl ck_R_within rfl hlen hL0 body
abbrev kb_R_isSort_0 : List vx_I := [(.iload_n 0, 1, 0, 0, .null, []), (.iconst 0, 1, 0, 0, .int 0, []), (.iconst 2, 1, 0, 0, .int 2, []), (.invokestatic 73, 3, 105, 3, .null, []), (.ireturn, 1, 1, 0, .null, [])]
def tb_R_isSort : List (Nat × List vx_I) := [(0, kb_R_isSort_0)]
theorem bk_R_isSort_0 : vx_bk tb_R_isSort 0 = kb_R_isSort_0 := rfl
abbrev m_R_isSort : Nat := 106
set_option maxRecDepth 100000 in
theorem ck_R_isSort : vx_ckM prog_9_method_7_code 7 1 1 false (some .boolean) tb_R_isSort = true := by decide +kernel
theorem ok_R_isSort {As : List Value} {sz : Nat} {h : vx_H} {P : Option Value → vx_H → Prop} (L0 : vx_L) (hlen : (vx_ar As).length ≤ 1) (hL0 : vx_ar As ++ List.replicate (1 - (vx_ar As).length) none = L0)
    (body : ∀ (lim z : vx_Z) X, vx_cl0 none lim tb_R_isSort (fun r z' h' => z' = z ∧ P r h') X → X 0 L0 [] z h) : vx_Ok m_R_isSort As sz h P :=
  vx_ok0 (M := (⟨"VoteWallsModel", "isSort", "(I)Z"⟩, prog_9_method_7_code, 1, (some .boolean), 1, 0, 0, 1, 1)) rfl (ow := 7) rfl ck_R_isSort rfl hlen hL0 body
abbrev kb_R_against_0 : List vx_I := [(.aload_n 0, 1, 0, 0, .null, []), (.getfield 9, 3, 7, 2, .null, []), (.iload_n 1, 1, 1, 0, .null, []), (.iaload, 1, 0, 0, .null, []), (.bipush (-9), 2, 0, 0, .int (-9), []), (.if_icmp .eq 15, 3, 23, 0, .null, []), (.aload_n 0, 1, 0, 0, .null, []), (.getfield 9, 3, 7, 2, .null, []), (.iload_n 1, 1, 1, 0, .null, []), (.iaload, 1, 0, 0, .null, []), (.iload_n 2, 1, 2, 0, .null, []), (.if_icmp .eq 5, 3, 23, 0, .null, []), (.iconst 2, 1, 0, 0, .int 2, []), (.ireturn, 1, 0, 0, .null, [])]
abbrev kb_R_against_23 : List vx_I := [(.aload_n 0, 1, 0, 0, .null, []), (.getfield 9, 3, 7, 2, .null, []), (.iload_n 1, 1, 1, 0, .null, []), (.iaload, 1, 0, 0, .null, []), (.bipush (-9), 2, 0, 0, .int (-9), []), (.if_icmp .ne 5, 3, 36, 0, .null, []), (.iconst 1, 1, 0, 0, .int 1, []), (.ireturn, 1, 0, 0, .null, [])]
abbrev kb_R_against_36 : List vx_I := [(.iload 4, 2, 4, 0, .null, []), (.ifCond .ge 5, 3, 43, 0, .null, []), (.iconst 4, 1, 0, 0, .int 4, []), (.ireturn, 1, 0, 0, .null, [])]
abbrev kb_R_against_43 : List vx_I := [(.iload_n 3, 1, 3, 0, .null, []), (.ifCond .lt 26, 3, 70, 0, .null, []), (.iload_n 3, 1, 3, 0, .null, []), (.aload_n 0, 1, 0, 0, .null, []), (.getfield 13, 3, 7, 3, .null, []), (.iload_n 1, 1, 1, 0, .null, []), (.iaload, 1, 0, 0, .null, []), (.if_icmp .gt 16, 3, 70, 0, .null, []), (.iload 4, 2, 4, 0, .null, []), (.aload_n 0, 1, 0, 0, .null, []), (.getfield 13, 3, 7, 3, .null, []), (.iload_n 1, 1, 1, 0, .null, []), (.iaload, 1, 0, 0, .null, []), (.iload_n 3, 1, 3, 0, .null, []), (.isub, 1, 0, 0, .null, []), (.if_icmp .le 7, 3, 74, 0, .null, [])]
abbrev kb_R_against_70 : List vx_I := [(.iconst 3, 1, 0, 0, .int 3, []), (.goto 4, 3, 75, 0, .null, [])]
abbrev kb_R_against_74 : List vx_I := [(.iconst 0, 1, 0, 0, .int 0, [])]
abbrev kb_R_against_75 : List vx_I := [(.ireturn, 1, 0, 0, .null, [])]
def tb_R_against : List (Nat × List vx_I) := [(0, kb_R_against_0), (23, kb_R_against_23), (36, kb_R_against_36), (43, kb_R_against_43), (70, kb_R_against_70), (74, kb_R_against_74), (75, kb_R_against_75)]
theorem bk_R_against_0 : vx_bk tb_R_against 0 = kb_R_against_0 := rfl
theorem bk_R_against_23 : vx_bk tb_R_against 23 = kb_R_against_23 := rfl
theorem bk_R_against_36 : vx_bk tb_R_against 36 = kb_R_against_36 := rfl
theorem bk_R_against_43 : vx_bk tb_R_against 43 = kb_R_against_43 := rfl
theorem bk_R_against_70 : vx_bk tb_R_against 70 = kb_R_against_70 := rfl
theorem bk_R_against_74 : vx_bk tb_R_against 74 = kb_R_against_74 := rfl
theorem bk_R_against_75 : vx_bk tb_R_against 75 = kb_R_against_75 := rfl
abbrev m_R_against : Nat := 107
set_option maxRecDepth 100000 in
theorem ck_R_against : vx_ckM prog_9_method_8_code 7 5 0 false (some .int) tb_R_against = true := by decide +kernel
theorem ok_R_against {As : List Value} {sz : Nat} {h : vx_H} {P : Option Value → vx_H → Prop} (L0 : vx_L) (hlen : (vx_ar As).length ≤ 5) (hL0 : vx_ar As ++ List.replicate (5 - (vx_ar As).length) none = L0)
    (body : ∀ (lim z : vx_Z) X, vx_cl0 none lim tb_R_against (fun r z' h' => z' = z ∧ P r h') X → X 0 L0 [] z h) : vx_Ok m_R_against As sz h P :=
  vx_ok0 (M := (⟨"VoteWallsModel", "against", "(IIII)I"⟩, prog_9_method_8_code, 5, (some .int), 0, 0, 0, 4, 0)) rfl (ow := 7) rfl ck_R_against rfl hlen hL0 body
abbrev kb_R_fails_0 : List vx_I := [(.aload_n 0, 1, 0, 0, .null, []), (.iload_n 1, 1, 1, 0, .null, []), (.putfield 67, 3, 7, 0, .int 0, []), (.bipush (-10), 2, 0, 0, .int (-10), []), (.iload_n 1, 1, 1, 0, .null, []), (.isub, 1, 0, 0, .null, []), (.ireturn, 1, 0, 0, .null, [])]
def tb_R_fails : List (Nat × List vx_I) := [(0, kb_R_fails_0)]
theorem bk_R_fails_0 : vx_bk tb_R_fails 0 = kb_R_fails_0 := rfl
abbrev m_R_fails : Nat := 108
set_option maxRecDepth 100000 in
theorem ck_R_fails : vx_ckM prog_9_method_3_code 7 2 0 false (some .int) tb_R_fails = true := by decide +kernel
theorem ok_R_fails {As : List Value} {sz : Nat} {h : vx_H} {P : Option Value → vx_H → Prop} (L0 : vx_L) (hlen : (vx_ar As).length ≤ 2) (hL0 : vx_ar As ++ List.replicate (2 - (vx_ar As).length) none = L0)
    (body : ∀ (lim z : vx_Z) X, vx_cl0 none lim tb_R_fails (fun r z' h' => z' = z ∧ P r h') X → X 0 L0 [] z h) : vx_Ok m_R_fails As sz h P :=
  vx_ok0 (M := (⟨"VoteWallsModel", "fails", "(I)I"⟩, prog_9_method_3_code, 2, (some .int), 0, 0, 0, 1, 0)) rfl (ow := 7) rfl ck_R_fails rfl hlen hL0 body
abbrev kb_R_readYard_0 : List vx_I := [(.aload_n 0, 1, 0, 0, .null, []), (.iconst 0, 1, 0, 0, .int 0, []), (.putfield 114, 3, 7, 14, .int 0, []), (.aload_n 0, 1, 0, 0, .null, []), (.iconst 0, 1, 0, 0, .int 0, []), (.putfield 117, 3, 7, 15, .int 0, []), (.aload_n 0, 1, 0, 0, .null, []), (.iload_n 1, 1, 1, 0, .null, []), (.bipush 118, 2, 0, 0, .int 118, []), (.invokevirtual 132, 3, 110, 2, .null, [(0, 0), (0, 0), (0, 0), (0, 0), (0, 0), (0, 0), (0, 0)]), (.ifCond .ne 5, 3, 22, 0, .null, []), (.iconst 0, 1, 0, 0, .int 0, []), (.ireturn, 1, 1, 0, .null, [])]
abbrev kb_R_readYard_22 : List vx_I := [(.aload_n 0, 1, 0, 0, .null, []), (.aload_n 0, 1, 0, 0, .null, []), (.iload_n 1, 1, 1, 0, .null, []), (.iconst 4, 1, 0, 0, .int 4, []), (.bipush 30, 2, 0, 0, .int 30, []), (.invokevirtual 136, 3, 111, 3, .null, [(0, 0), (0, 0), (0, 0), (0, 0), (0, 0), (0, 0), (0, 0)]), (.putfield 108, 3, 7, 13, .int 0, []), (.aload_n 0, 1, 0, 0, .null, []), (.getfield 108, 3, 7, 13, .null, []), (.bipush (-9), 2, 0, 0, .int (-9), []), (.if_icmp .eq 21, 3, 61, 0, .null, []), (.aload_n 0, 1, 0, 0, .null, []), (.iload_n 1, 1, 1, 0, .null, []), (.bipush 59, 2, 0, 0, .int 59, []), (.invokevirtual 132, 3, 110, 2, .null, [(0, 0), (0, 0), (0, 0), (0, 0), (0, 0), (0, 0), (0, 0)]), (.ifCond .eq 11, 3, 61, 0, .null, []), (.aload_n 0, 1, 0, 0, .null, []), (.iload_n 1, 1, 1, 0, .null, []), (.invokevirtual 139, 3, 113, 1, .null, [(0, 0), (0, 0), (0, 0), (0, 0), (0, 0), (0, 0), (0, 0)]), (.ifCond .ne 5, 3, 63, 0, .null, [])]
abbrev kb_R_readYard_61 : List vx_I := [(.iconst 0, 1, 0, 0, .int 0, []), (.ireturn, 1, 1, 0, .null, [])]
abbrev kb_R_readYard_63 : List vx_I := [(.aload_n 0, 1, 0, 0, .null, []), (.getfield 114, 3, 7, 14, .null, []), (.iconst 5, 1, 0, 0, .int 5, []), (.if_icmp .ge 23, 3, 91, 0, .null, []), (.aload_n 0, 1, 0, 0, .null, []), (.iload_n 1, 1, 1, 0, .null, []), (.bipush 59, 2, 0, 0, .int 59, []), (.invokevirtual 132, 3, 110, 2, .null, [(0, 0), (0, 0), (0, 0), (0, 0), (0, 0), (0, 0), (0, 0)]), (.ifCond .eq 13, 3, 91, 0, .null, []), (.aload_n 0, 1, 0, 0, .null, []), (.iload_n 1, 1, 1, 0, .null, []), (.invokevirtual 139, 3, 113, 1, .null, [(0, 0), (0, 0), (0, 0), (0, 0), (0, 0), (0, 0), (0, 0)]), (.ifCond .ne (-23), 3, 63, 0, .null, []), (.iconst 0, 1, 0, 0, .int 0, []), (.ireturn, 1, 1, 0, .null, [])]
abbrev kb_R_readYard_91 : List vx_I := [(.aload_n 0, 1, 0, 0, .null, []), (.iload_n 1, 1, 1, 0, .null, []), (.bipush 44, 2, 0, 0, .int 44, []), (.invokevirtual 132, 3, 110, 2, .null, [(0, 0), (0, 0), (0, 0), (0, 0), (0, 0), (0, 0), (0, 0)]), (.ifCond .eq 11, 3, 109, 0, .null, []), (.aload_n 0, 1, 0, 0, .null, []), (.iload_n 1, 1, 1, 0, .null, []), (.invokevirtual 142, 3, 114, 1, .null, [(0, 0), (0, 0), (0, 0), (0, 0), (0, 0), (0, 0), (0, 0)]), (.ifCond .ne 5, 3, 111, 0, .null, [])]
abbrev kb_R_readYard_109 : List vx_I := [(.iconst 0, 1, 0, 0, .int 0, []), (.ireturn, 1, 1, 0, .null, [])]
abbrev kb_R_readYard_111 : List vx_I := [(.aload_n 0, 1, 0, 0, .null, []), (.getfield 117, 3, 7, 15, .null, []), (.bipush 8, 2, 0, 0, .int 8, []), (.if_icmp .ge 23, 3, 140, 0, .null, []), (.aload_n 0, 1, 0, 0, .null, []), (.iload_n 1, 1, 1, 0, .null, []), (.bipush 44, 2, 0, 0, .int 44, []), (.invokevirtual 132, 3, 110, 2, .null, [(0, 0), (0, 0), (0, 0), (0, 0), (0, 0), (0, 0), (0, 0)]), (.ifCond .eq 13, 3, 140, 0, .null, []), (.aload_n 0, 1, 0, 0, .null, []), (.iload_n 1, 1, 1, 0, .null, []), (.invokevirtual 142, 3, 114, 1, .null, [(0, 0), (0, 0), (0, 0), (0, 0), (0, 0), (0, 0), (0, 0)]), (.ifCond .ne (-24), 3, 111, 0, .null, []), (.iconst 0, 1, 0, 0, .int 0, []), (.ireturn, 1, 1, 0, .null, [])]
abbrev kb_R_readYard_140 : List vx_I := [(.aload_n 0, 1, 0, 0, .null, []), (.getfield 83, 3, 7, 12, .null, []), (.iload_n 1, 1, 1, 0, .null, []), (.if_icmp .ne 7, 3, 152, 0, .null, []), (.iconst 1, 1, 0, 0, .int 1, []), (.goto 4, 3, 153, 0, .null, [])]
abbrev kb_R_readYard_152 : List vx_I := [(.iconst 0, 1, 0, 0, .int 0, [])]
abbrev kb_R_readYard_153 : List vx_I := [(.ireturn, 1, 1, 0, .null, [])]
def tb_R_readYard : List (Nat × List vx_I) := [(0, kb_R_readYard_0), (22, kb_R_readYard_22), (61, kb_R_readYard_61), (63, kb_R_readYard_63), (91, kb_R_readYard_91), (109, kb_R_readYard_109), (111, kb_R_readYard_111), (140, kb_R_readYard_140), (152, kb_R_readYard_152), (153, kb_R_readYard_153)]
theorem bk_R_readYard_0 : vx_bk tb_R_readYard 0 = kb_R_readYard_0 := rfl
theorem bk_R_readYard_22 : vx_bk tb_R_readYard 22 = kb_R_readYard_22 := rfl
theorem bk_R_readYard_61 : vx_bk tb_R_readYard 61 = kb_R_readYard_61 := rfl
theorem bk_R_readYard_63 : vx_bk tb_R_readYard 63 = kb_R_readYard_63 := rfl
theorem bk_R_readYard_91 : vx_bk tb_R_readYard 91 = kb_R_readYard_91 := rfl
theorem bk_R_readYard_109 : vx_bk tb_R_readYard 109 = kb_R_readYard_109 := rfl
theorem bk_R_readYard_111 : vx_bk tb_R_readYard 111 = kb_R_readYard_111 := rfl
theorem bk_R_readYard_140 : vx_bk tb_R_readYard 140 = kb_R_readYard_140 := rfl
theorem bk_R_readYard_152 : vx_bk tb_R_readYard 152 = kb_R_readYard_152 := rfl
theorem bk_R_readYard_153 : vx_bk tb_R_readYard 153 = kb_R_readYard_153 := rfl
abbrev m_R_readYard : Nat := 109
set_option maxRecDepth 100000 in
theorem ck_R_readYard : vx_ckM prog_9_method_17_code 7 2 4 false (some .boolean) tb_R_readYard = true := by decide +kernel
theorem ok_R_readYard {As : List Value} {sz : Nat} {h : vx_H} {P : Option Value → vx_H → Prop} (L0 : vx_L) (hlen : (vx_ar As).length ≤ 2) (hL0 : vx_ar As ++ List.replicate (2 - (vx_ar As).length) none = L0)
    (body : ∀ (lim z : vx_Z) X, vx_cl0 none lim tb_R_readYard (fun r z' h' => z' = z ∧ P r h') X → X 0 L0 [] z h) : vx_Ok m_R_readYard As sz h P :=
  vx_ok0 (M := (⟨"VoteWallsModel", "readYard", "(I)Z"⟩, prog_9_method_17_code, 2, (some .boolean), 4, 0, 0, 1, 0)) rfl (ow := 7) rfl ck_R_readYard rfl hlen hL0 body
abbrev kb_R_isSign_0 : List vx_I := [(.aload_n 0, 1, 0, 0, .null, []), (.getfield 83, 3, 7, 12, .null, []), (.iload_n 1, 1, 1, 0, .null, []), (.if_icmp .ge 16, 3, 21, 0, .null, []), (.aload_n 0, 1, 0, 0, .null, []), (.getfield 16, 3, 7, 4, .null, []), (.aload_n 0, 1, 0, 0, .null, []), (.getfield 83, 3, 7, 12, .null, []), (.iaload, 1, 0, 0, .null, []), (.iload_n 2, 1, 2, 0, .null, []), (.if_icmp .eq 5, 3, 23, 0, .null, [])]
abbrev kb_R_isSign_21 : List vx_I := [(.iconst 0, 1, 0, 0, .int 0, []), (.ireturn, 1, 1, 0, .null, [])]
abbrev kb_R_isSign_23 : List vx_I := [(.aload_n 0, 1, 0, 0, .null, []), (.dup, 1, 0, 0, .null, []), (.getfield 83, 3, 7, 12, .null, []), (.iconst 1, 1, 0, 0, .int 1, []), (.iadd, 1, 0, 0, .null, []), (.putfield 83, 3, 7, 12, .int 0, []), (.iconst 1, 1, 0, 0, .int 1, []), (.ireturn, 1, 1, 0, .null, [])]
def tb_R_isSign : List (Nat × List vx_I) := [(0, kb_R_isSign_0), (21, kb_R_isSign_21), (23, kb_R_isSign_23)]
theorem bk_R_isSign_0 : vx_bk tb_R_isSign 0 = kb_R_isSign_0 := rfl
theorem bk_R_isSign_21 : vx_bk tb_R_isSign 21 = kb_R_isSign_21 := rfl
theorem bk_R_isSign_23 : vx_bk tb_R_isSign 23 = kb_R_isSign_23 := rfl
abbrev m_R_isSign : Nat := 110
set_option maxRecDepth 100000 in
theorem ck_R_isSign : vx_ckM prog_9_method_13_code 7 3 0 false (some .boolean) tb_R_isSign = true := by decide +kernel
theorem ok_R_isSign {As : List Value} {sz : Nat} {h : vx_H} {P : Option Value → vx_H → Prop} (L0 : vx_L) (hlen : (vx_ar As).length ≤ 3) (hL0 : vx_ar As ++ List.replicate (3 - (vx_ar As).length) none = L0)
    (body : ∀ (lim z : vx_Z) X, vx_cl0 none lim tb_R_isSign (fun r z' h' => z' = z ∧ P r h') X → X 0 L0 [] z h) : vx_Ok m_R_isSign As sz h P :=
  vx_ok0 (M := (⟨"VoteWallsModel", "isSign", "(II)Z"⟩, prog_9_method_13_code, 3, (some .boolean), 0, 0, 0, 2, 0)) rfl (ow := 7) rfl ck_R_isSign rfl hlen hL0 body
abbrev kb_R_number_0 : List vx_I := [(.iload_n 2, 1, 2, 0, .null, []), (.iload_n 3, 1, 3, 0, .null, []), (.if_icmp .le 6, 3, 8, 0, .null, []), (.bipush (-9), 2, 0, 0, .int (-9), []), (.ireturn, 1, 0, 0, .null, [])]
abbrev kb_R_number_8 : List vx_I := [(.aload_n 0, 1, 0, 0, .null, []), (.iload_n 1, 1, 1, 0, .null, []), (.iload_n 2, 1, 2, 0, .null, []), (.bipush 10, 2, 0, 0, .int 10, []), (.idiv, 1, 0, 0, .null, []), (.iload_n 3, 1, 3, 0, .null, []), (.bipush 10, 2, 0, 0, .int 10, []), (.idiv, 1, 0, 0, .null, []), (.invokevirtual 86, 3, 112, 3, .null, [(0, 0), (0, 0), (0, 0), (0, 0), (0, 0), (0, 0), (0, 0)]), (.istore 4, 2, 4, 0, .null, []), (.iload 4, 2, 4, 0, .null, []), (.bipush (-9), 2, 0, 0, .int (-9), []), (.if_icmp .ne 6, 3, 33, 0, .null, []), (.bipush (-9), 2, 0, 0, .int (-9), []), (.ireturn, 1, 0, 0, .null, [])]
abbrev kb_R_number_33 : List vx_I := [(.iload 4, 2, 4, 0, .null, []), (.iload_n 2, 1, 2, 0, .null, []), (.bipush 10, 2, 0, 0, .int 10, []), (.idiv, 1, 0, 0, .null, []), (.if_icmp .ne 10, 3, 49, 0, .null, []), (.iload_n 2, 1, 2, 0, .null, []), (.bipush 10, 2, 0, 0, .int 10, []), (.irem, 1, 0, 0, .null, []), (.goto 4, 3, 50, 0, .null, [])]
abbrev kb_R_number_49 : List vx_I := [(.iconst 0, 1, 0, 0, .int 0, [])]
abbrev kb_R_number_50 : List vx_I := [(.istore 5, 2, 5, 0, .null, []), (.iload 4, 2, 4, 0, .null, []), (.iload_n 3, 1, 3, 0, .null, []), (.bipush 10, 2, 0, 0, .int 10, []), (.idiv, 1, 0, 0, .null, []), (.if_icmp .ne 10, 3, 68, 0, .null, []), (.iload_n 3, 1, 3, 0, .null, []), (.bipush 10, 2, 0, 0, .int 10, []), (.irem, 1, 0, 0, .null, []), (.goto 5, 3, 70, 0, .null, [])]
abbrev kb_R_number_68 : List vx_I := [(.bipush 9, 2, 0, 0, .int 9, [])]
abbrev kb_R_number_70 : List vx_I := [(.istore 6, 2, 6, 0, .null, []), (.aload_n 0, 1, 0, 0, .null, []), (.iload_n 1, 1, 1, 0, .null, []), (.iload 5, 2, 5, 0, .null, []), (.iload 6, 2, 6, 0, .null, []), (.invokevirtual 86, 3, 112, 3, .null, [(0, 0), (0, 0), (0, 0), (0, 0), (0, 0), (0, 0), (0, 0)]), (.istore 7, 2, 7, 0, .null, []), (.iload 7, 2, 7, 0, .null, []), (.bipush (-9), 2, 0, 0, .int (-9), []), (.if_icmp .ne 8, 3, 95, 0, .null, []), (.bipush (-9), 2, 0, 0, .int (-9), []), (.goto 11, 3, 103, 0, .null, [])]
abbrev kb_R_number_95 : List vx_I := [(.bipush 10, 2, 0, 0, .int 10, []), (.iload 4, 2, 4, 0, .null, []), (.imul, 1, 0, 0, .null, []), (.iload 7, 2, 7, 0, .null, []), (.iadd, 1, 0, 0, .null, [])]
abbrev kb_R_number_103 : List vx_I := [(.ireturn, 1, 0, 0, .null, [])]
def tb_R_number : List (Nat × List vx_I) := [(0, kb_R_number_0), (8, kb_R_number_8), (33, kb_R_number_33), (49, kb_R_number_49), (50, kb_R_number_50), (68, kb_R_number_68), (70, kb_R_number_70), (95, kb_R_number_95), (103, kb_R_number_103)]
theorem bk_R_number_0 : vx_bk tb_R_number 0 = kb_R_number_0 := rfl
theorem bk_R_number_8 : vx_bk tb_R_number 8 = kb_R_number_8 := rfl
theorem bk_R_number_33 : vx_bk tb_R_number 33 = kb_R_number_33 := rfl
theorem bk_R_number_49 : vx_bk tb_R_number 49 = kb_R_number_49 := rfl
theorem bk_R_number_50 : vx_bk tb_R_number 50 = kb_R_number_50 := rfl
theorem bk_R_number_68 : vx_bk tb_R_number 68 = kb_R_number_68 := rfl
theorem bk_R_number_70 : vx_bk tb_R_number 70 = kb_R_number_70 := rfl
theorem bk_R_number_95 : vx_bk tb_R_number 95 = kb_R_number_95 := rfl
theorem bk_R_number_103 : vx_bk tb_R_number 103 = kb_R_number_103 := rfl
abbrev m_R_number : Nat := 111
set_option maxRecDepth 100000 in
theorem ck_R_number : vx_ckM prog_9_method_15_code 7 8 2 false (some .int) tb_R_number = true := by decide +kernel
theorem ok_R_number {As : List Value} {sz : Nat} {h : vx_H} {P : Option Value → vx_H → Prop} (L0 : vx_L) (hlen : (vx_ar As).length ≤ 8) (hL0 : vx_ar As ++ List.replicate (8 - (vx_ar As).length) none = L0)
    (body : ∀ (lim z : vx_Z) X, vx_cl0 none lim tb_R_number (fun r z' h' => z' = z ∧ P r h') X → X 0 L0 [] z h) : vx_Ok m_R_number As sz h P :=
  vx_ok0 (M := (⟨"VoteWallsModel", "number", "(III)I"⟩, prog_9_method_15_code, 8, (some .int), 2, 0, 0, 3, 0)) rfl (ow := 7) rfl ck_R_number rfl hlen hL0 body
abbrev kb_R_digit_0 : List vx_I := [(.aload_n 0, 1, 0, 0, .null, []), (.getfield 83, 3, 7, 12, .null, []), (.iload_n 1, 1, 1, 0, .null, []), (.if_icmp .ge 26, 3, 31, 0, .null, []), (.aload_n 0, 1, 0, 0, .null, []), (.getfield 16, 3, 7, 4, .null, []), (.aload_n 0, 1, 0, 0, .null, []), (.getfield 83, 3, 7, 12, .null, []), (.iaload, 1, 0, 0, .null, []), (.bipush 48, 2, 0, 0, .int 48, []), (.iload_n 2, 1, 2, 0, .null, []), (.iadd, 1, 0, 0, .null, []), (.bipush 48, 2, 0, 0, .int 48, []), (.iload_n 3, 1, 3, 0, .null, []), (.iadd, 1, 0, 0, .null, []), (.invokestatic 73, 3, 105, 3, .null, []), (.ifCond .ne 6, 3, 34, 0, .null, [])]
abbrev kb_R_digit_31 : List vx_I := [(.bipush (-9), 2, 0, 0, .int (-9), []), (.ireturn, 1, 0, 0, .null, [])]
abbrev kb_R_digit_34 : List vx_I := [(.aload_n 0, 1, 0, 0, .null, []), (.dup, 1, 0, 0, .null, []), (.getfield 83, 3, 7, 12, .null, []), (.iconst 1, 1, 0, 0, .int 1, []), (.iadd, 1, 0, 0, .null, []), (.putfield 83, 3, 7, 12, .int 0, []), (.aload_n 0, 1, 0, 0, .null, []), (.getfield 16, 3, 7, 4, .null, []), (.aload_n 0, 1, 0, 0, .null, []), (.getfield 83, 3, 7, 12, .null, []), (.iconst 1, 1, 0, 0, .int 1, []), (.isub, 1, 0, 0, .null, []), (.iaload, 1, 0, 0, .null, []), (.bipush 48, 2, 0, 0, .int 48, []), (.isub, 1, 0, 0, .null, []), (.ireturn, 1, 0, 0, .null, [])]
def tb_R_digit : List (Nat × List vx_I) := [(0, kb_R_digit_0), (31, kb_R_digit_31), (34, kb_R_digit_34)]
theorem bk_R_digit_0 : vx_bk tb_R_digit 0 = kb_R_digit_0 := rfl
theorem bk_R_digit_31 : vx_bk tb_R_digit 31 = kb_R_digit_31 := rfl
theorem bk_R_digit_34 : vx_bk tb_R_digit 34 = kb_R_digit_34 := rfl
abbrev m_R_digit : Nat := 112
set_option maxRecDepth 100000 in
theorem ck_R_digit : vx_ckM prog_9_method_14_code 7 4 1 false (some .int) tb_R_digit = true := by decide +kernel
theorem ok_R_digit {As : List Value} {sz : Nat} {h : vx_H} {P : Option Value → vx_H → Prop} (L0 : vx_L) (hlen : (vx_ar As).length ≤ 4) (hL0 : vx_ar As ++ List.replicate (4 - (vx_ar As).length) none = L0)
    (body : ∀ (lim z : vx_Z) X, vx_cl0 none lim tb_R_digit (fun r z' h' => z' = z ∧ P r h') X → X 0 L0 [] z h) : vx_Ok m_R_digit As sz h P :=
  vx_ok0 (M := (⟨"VoteWallsModel", "digit", "(III)I"⟩, prog_9_method_14_code, 4, (some .int), 1, 0, 0, 3, 0)) rfl (ow := 7) rfl ck_R_digit rfl hlen hL0 body
abbrev kb_R_readBoard_0 : List vx_I := [(.aload_n 0, 1, 0, 0, .null, []), (.getfield 114, 3, 7, 14, .null, []), (.ifCond .ne 7, 3, 11, 0, .null, []), (.iconst 1, 1, 0, 0, .int 1, []), (.goto 16, 3, 24, 0, .null, [])]
abbrev kb_R_readBoard_11 : List vx_I := [(.aload_n 0, 1, 0, 0, .null, []), (.getfield 28, 3, 7, 16, .null, []), (.aload_n 0, 1, 0, 0, .null, []), (.getfield 114, 3, 7, 14, .null, []), (.iconst 1, 1, 0, 0, .int 1, []), (.isub, 1, 0, 0, .null, []), (.iaload, 1, 0, 0, .null, []), (.iconst 1, 1, 0, 0, .int 1, []), (.iadd, 1, 0, 0, .null, [])]
abbrev kb_R_readBoard_24 : List vx_I := [(.istore_n 2, 1, 2, 0, .null, []), (.aload_n 0, 1, 0, 0, .null, []), (.getfield 28, 3, 7, 16, .null, []), (.aload_n 0, 1, 0, 0, .null, []), (.getfield 114, 3, 7, 14, .null, []), (.aload_n 0, 1, 0, 0, .null, []), (.iload_n 1, 1, 1, 0, .null, []), (.iload_n 2, 1, 2, 0, .null, []), (.aload_n 0, 1, 0, 0, .null, []), (.getfield 108, 3, 7, 13, .null, []), (.iconst 1, 1, 0, 0, .int 1, []), (.isub, 1, 0, 0, .null, []), (.invokevirtual 136, 3, 111, 3, .null, [(0, 0), (0, 0), (0, 0), (0, 0), (0, 0), (0, 0), (0, 0)]), (.iastore, 1, 0, 0, .null, []), (.aload_n 0, 1, 0, 0, .null, []), (.dup, 1, 0, 0, .null, []), (.getfield 114, 3, 7, 14, .null, []), (.iconst 1, 1, 0, 0, .int 1, []), (.iadd, 1, 0, 0, .null, []), (.putfield 114, 3, 7, 14, .int 0, []), (.aload_n 0, 1, 0, 0, .null, []), (.getfield 28, 3, 7, 16, .null, []), (.aload_n 0, 1, 0, 0, .null, []), (.getfield 114, 3, 7, 14, .null, []), (.iconst 1, 1, 0, 0, .int 1, []), (.isub, 1, 0, 0, .null, []), (.iaload, 1, 0, 0, .null, []), (.bipush (-9), 2, 0, 0, .int (-9), []), (.if_icmp .eq 7, 3, 76, 0, .null, []), (.iconst 1, 1, 0, 0, .int 1, []), (.goto 4, 3, 77, 0, .null, [])]
abbrev kb_R_readBoard_76 : List vx_I := [(.iconst 0, 1, 0, 0, .int 0, [])]
abbrev kb_R_readBoard_77 : List vx_I := [(.ireturn, 1, 1, 0, .null, [])]
def tb_R_readBoard : List (Nat × List vx_I) := [(0, kb_R_readBoard_0), (11, kb_R_readBoard_11), (24, kb_R_readBoard_24), (76, kb_R_readBoard_76), (77, kb_R_readBoard_77)]
theorem bk_R_readBoard_0 : vx_bk tb_R_readBoard 0 = kb_R_readBoard_0 := rfl
theorem bk_R_readBoard_11 : vx_bk tb_R_readBoard 11 = kb_R_readBoard_11 := rfl
theorem bk_R_readBoard_24 : vx_bk tb_R_readBoard 24 = kb_R_readBoard_24 := rfl
theorem bk_R_readBoard_76 : vx_bk tb_R_readBoard 76 = kb_R_readBoard_76 := rfl
theorem bk_R_readBoard_77 : vx_bk tb_R_readBoard 77 = kb_R_readBoard_77 := rfl
abbrev m_R_readBoard : Nat := 113
set_option maxRecDepth 100000 in
theorem ck_R_readBoard : vx_ckM prog_9_method_18_code 7 3 3 false (some .boolean) tb_R_readBoard = true := by decide +kernel
theorem ok_R_readBoard {As : List Value} {sz : Nat} {h : vx_H} {P : Option Value → vx_H → Prop} (L0 : vx_L) (hlen : (vx_ar As).length ≤ 3) (hL0 : vx_ar As ++ List.replicate (3 - (vx_ar As).length) none = L0)
    (body : ∀ (lim z : vx_Z) X, vx_cl0 none lim tb_R_readBoard (fun r z' h' => z' = z ∧ P r h') X → X 0 L0 [] z h) : vx_Ok m_R_readBoard As sz h P :=
  vx_ok0 (M := (⟨"VoteWallsModel", "readBoard", "(I)Z"⟩, prog_9_method_18_code, 3, (some .boolean), 3, 0, 0, 1, 0)) rfl (ow := 7) rfl ck_R_readBoard rfl hlen hL0 body
abbrev kb_R_readPrisoner_0 : List vx_I := [(.aload_n 0, 1, 0, 0, .null, []), (.getfield 83, 3, 7, 12, .null, []), (.iload_n 1, 1, 1, 0, .null, []), (.if_icmp .ge 15, 3, 20, 0, .null, []), (.aload_n 0, 1, 0, 0, .null, []), (.getfield 16, 3, 7, 4, .null, []), (.aload_n 0, 1, 0, 0, .null, []), (.getfield 83, 3, 7, 12, .null, []), (.iaload, 1, 0, 0, .null, []), (.goto 4, 3, 21, 0, .null, [])]
abbrev kb_R_readPrisoner_20 : List vx_I := [(.iconst 0, 1, 0, 0, .int 0, [])]
abbrev kb_R_readPrisoner_21 : List vx_I := [(.istore_n 2, 1, 2, 0, .null, []), (.iload_n 2, 1, 2, 0, .null, []), (.bipush 112, 2, 0, 0, .int 112, []), (.if_icmp .ne 7, 3, 32, 0, .null, []), (.iconst 0, 1, 0, 0, .int 0, []), (.goto 25, 3, 54, 0, .null, [])]
abbrev kb_R_readPrisoner_32 : List vx_I := [(.iload_n 2, 1, 2, 0, .null, []), (.bipush 116, 2, 0, 0, .int 116, []), (.if_icmp .ne 7, 3, 42, 0, .null, []), (.iconst 1, 1, 0, 0, .int 1, []), (.goto 15, 3, 54, 0, .null, [])]
abbrev kb_R_readPrisoner_42 : List vx_I := [(.iload_n 2, 1, 2, 0, .null, []), (.bipush 98, 2, 0, 0, .int 98, []), (.if_icmp .ne 7, 3, 52, 0, .null, []), (.iconst 2, 1, 0, 0, .int 2, []), (.goto 5, 3, 54, 0, .null, [])]
abbrev kb_R_readPrisoner_52 : List vx_I := [(.bipush (-9), 2, 0, 0, .int (-9), [])]
abbrev kb_R_readPrisoner_54 : List vx_I := [(.istore_n 3, 1, 3, 0, .null, []), (.iload_n 3, 1, 3, 0, .null, []), (.bipush (-9), 2, 0, 0, .int (-9), []), (.if_icmp .ne 5, 3, 63, 0, .null, []), (.iconst 0, 1, 0, 0, .int 0, []), (.ireturn, 1, 1, 0, .null, [])]
abbrev kb_R_readPrisoner_63 : List vx_I := [(.aload_n 0, 1, 0, 0, .null, []), (.dup, 1, 0, 0, .null, []), (.getfield 83, 3, 7, 12, .null, []), (.iconst 1, 1, 0, 0, .int 1, []), (.iadd, 1, 0, 0, .null, []), (.putfield 83, 3, 7, 12, .int 0, []), (.aload_n 0, 1, 0, 0, .null, []), (.getfield 31, 3, 7, 17, .null, []), (.aload_n 0, 1, 0, 0, .null, []), (.getfield 117, 3, 7, 15, .null, []), (.iload_n 3, 1, 3, 0, .null, []), (.iastore, 1, 0, 0, .null, []), (.aload_n 0, 1, 0, 0, .null, []), (.getfield 34, 3, 7, 18, .null, []), (.aload_n 0, 1, 0, 0, .null, []), (.getfield 117, 3, 7, 15, .null, []), (.aload_n 0, 1, 0, 0, .null, []), (.iload_n 1, 1, 1, 0, .null, []), (.iconst 0, 1, 0, 0, .int 0, []), (.aload_n 0, 1, 0, 0, .null, []), (.getfield 108, 3, 7, 13, .null, []), (.iconst 1, 1, 0, 0, .int 1, []), (.isub, 1, 0, 0, .null, []), (.invokevirtual 136, 3, 111, 3, .null, [(0, 0), (0, 0), (0, 0), (0, 0), (0, 0), (0, 0), (0, 0)]), (.iastore, 1, 0, 0, .null, []), (.aload_n 0, 1, 0, 0, .null, []), (.dup, 1, 0, 0, .null, []), (.getfield 117, 3, 7, 15, .null, []), (.iconst 1, 1, 0, 0, .int 1, []), (.iadd, 1, 0, 0, .null, []), (.putfield 117, 3, 7, 15, .int 0, []), (.aload_n 0, 1, 0, 0, .null, []), (.getfield 34, 3, 7, 18, .null, []), (.aload_n 0, 1, 0, 0, .null, []), (.getfield 117, 3, 7, 15, .null, []), (.iconst 1, 1, 0, 0, .int 1, []), (.isub, 1, 0, 0, .null, []), (.iaload, 1, 0, 0, .null, []), (.bipush (-9), 2, 0, 0, .int (-9), []), (.if_icmp .eq 7, 3, 134, 0, .null, []), (.iconst 1, 1, 0, 0, .int 1, []), (.goto 4, 3, 135, 0, .null, [])]
abbrev kb_R_readPrisoner_134 : List vx_I := [(.iconst 0, 1, 0, 0, .int 0, [])]
abbrev kb_R_readPrisoner_135 : List vx_I := [(.ireturn, 1, 1, 0, .null, [])]
def tb_R_readPrisoner : List (Nat × List vx_I) := [(0, kb_R_readPrisoner_0), (20, kb_R_readPrisoner_20), (21, kb_R_readPrisoner_21), (32, kb_R_readPrisoner_32), (42, kb_R_readPrisoner_42), (52, kb_R_readPrisoner_52), (54, kb_R_readPrisoner_54), (63, kb_R_readPrisoner_63), (134, kb_R_readPrisoner_134), (135, kb_R_readPrisoner_135)]
theorem bk_R_readPrisoner_0 : vx_bk tb_R_readPrisoner 0 = kb_R_readPrisoner_0 := rfl
theorem bk_R_readPrisoner_20 : vx_bk tb_R_readPrisoner 20 = kb_R_readPrisoner_20 := rfl
theorem bk_R_readPrisoner_21 : vx_bk tb_R_readPrisoner 21 = kb_R_readPrisoner_21 := rfl
theorem bk_R_readPrisoner_32 : vx_bk tb_R_readPrisoner 32 = kb_R_readPrisoner_32 := rfl
theorem bk_R_readPrisoner_42 : vx_bk tb_R_readPrisoner 42 = kb_R_readPrisoner_42 := rfl
theorem bk_R_readPrisoner_52 : vx_bk tb_R_readPrisoner 52 = kb_R_readPrisoner_52 := rfl
theorem bk_R_readPrisoner_54 : vx_bk tb_R_readPrisoner 54 = kb_R_readPrisoner_54 := rfl
theorem bk_R_readPrisoner_63 : vx_bk tb_R_readPrisoner 63 = kb_R_readPrisoner_63 := rfl
theorem bk_R_readPrisoner_134 : vx_bk tb_R_readPrisoner 134 = kb_R_readPrisoner_134 := rfl
theorem bk_R_readPrisoner_135 : vx_bk tb_R_readPrisoner 135 = kb_R_readPrisoner_135 := rfl
abbrev m_R_readPrisoner : Nat := 114
set_option maxRecDepth 100000 in
theorem ck_R_readPrisoner : vx_ckM prog_9_method_19_code 7 4 3 false (some .boolean) tb_R_readPrisoner = true := by decide +kernel
theorem ok_R_readPrisoner {As : List Value} {sz : Nat} {h : vx_H} {P : Option Value → vx_H → Prop} (L0 : vx_L) (hlen : (vx_ar As).length ≤ 4) (hL0 : vx_ar As ++ List.replicate (4 - (vx_ar As).length) none = L0)
    (body : ∀ (lim z : vx_Z) X, vx_cl0 none lim tb_R_readPrisoner (fun r z' h' => z' = z ∧ P r h') X → X 0 L0 [] z h) : vx_Ok m_R_readPrisoner As sz h P :=
  vx_ok0 (M := (⟨"VoteWallsModel", "readPrisoner", "(I)Z"⟩, prog_9_method_19_code, 4, (some .boolean), 3, 0, 0, 1, 0)) rfl (ow := 7) rfl ck_R_readPrisoner rfl hlen hL0 body
abbrev kb_R_ofPrisoner_0 : List vx_I := [(.aload_n 0, 1, 0, 0, .null, []), (.iload_n 1, 1, 1, 0, .null, []), (.invokevirtual 145, 3, 116, 1, .null, [(0, 0), (0, 0), (0, 0), (0, 0), (0, 0), (0, 0), (0, 0)]), (.ifCond .ne 5, 3, 10, 0, .null, []), (.iconst (-1), 1, 0, 0, .int (-1), []), (.ireturn, 1, 0, 0, .null, [])]
abbrev kb_R_ofPrisoner_10 : List vx_I := [(.iload_n 2, 1, 2, 0, .null, []), (.ifCond .ne 12, 3, 23, 0, .null, []), (.aload_n 0, 1, 0, 0, .null, []), (.getfield 22, 3, 7, 9, .null, []), (.iload_n 1, 1, 1, 0, .null, []), (.iaload, 1, 0, 0, .null, []), (.goto 32, 3, 52, 0, .null, [])]
abbrev kb_R_ofPrisoner_23 : List vx_I := [(.iload_n 2, 1, 2, 0, .null, []), (.iconst 1, 1, 0, 0, .int 1, []), (.if_icmp .ne 12, 3, 37, 0, .null, []), (.aload_n 0, 1, 0, 0, .null, []), (.getfield 25, 3, 7, 10, .null, []), (.iload_n 1, 1, 1, 0, .null, []), (.iaload, 1, 0, 0, .null, []), (.goto 18, 3, 52, 0, .null, [])]
abbrev kb_R_ofPrisoner_37 : List vx_I := [(.iload_n 2, 1, 2, 0, .null, []), (.iconst 2, 1, 0, 0, .int 2, []), (.if_icmp .ne 11, 3, 50, 0, .null, []), (.aload_n 0, 1, 0, 0, .null, []), (.iload_n 1, 1, 1, 0, .null, []), (.invokevirtual 148, 3, 117, 1, .null, [(0, 0), (0, 0), (0, 0), (0, 0), (0, 0), (0, 0), (0, 0)]), (.goto 5, 3, 52, 0, .null, [])]
abbrev kb_R_ofPrisoner_50 : List vx_I := [(.bipush (-2), 2, 0, 0, .int (-2), [])]
abbrev kb_R_ofPrisoner_52 : List vx_I := [(.ireturn, 1, 0, 0, .null, [])]
def tb_R_ofPrisoner : List (Nat × List vx_I) := [(0, kb_R_ofPrisoner_0), (10, kb_R_ofPrisoner_10), (23, kb_R_ofPrisoner_23), (37, kb_R_ofPrisoner_37), (50, kb_R_ofPrisoner_50), (52, kb_R_ofPrisoner_52)]
theorem bk_R_ofPrisoner_0 : vx_bk tb_R_ofPrisoner 0 = kb_R_ofPrisoner_0 := rfl
theorem bk_R_ofPrisoner_10 : vx_bk tb_R_ofPrisoner 10 = kb_R_ofPrisoner_10 := rfl
theorem bk_R_ofPrisoner_23 : vx_bk tb_R_ofPrisoner 23 = kb_R_ofPrisoner_23 := rfl
theorem bk_R_ofPrisoner_37 : vx_bk tb_R_ofPrisoner 37 = kb_R_ofPrisoner_37 := rfl
theorem bk_R_ofPrisoner_50 : vx_bk tb_R_ofPrisoner 50 = kb_R_ofPrisoner_50 := rfl
theorem bk_R_ofPrisoner_52 : vx_bk tb_R_ofPrisoner 52 = kb_R_ofPrisoner_52 := rfl
abbrev m_R_ofPrisoner : Nat := 115
set_option maxRecDepth 100000 in
theorem ck_R_ofPrisoner : vx_ckM prog_9_method_21_code 7 3 1 false (some .int) tb_R_ofPrisoner = true := by decide +kernel
theorem ok_R_ofPrisoner {As : List Value} {sz : Nat} {h : vx_H} {P : Option Value → vx_H → Prop} (L0 : vx_L) (hlen : (vx_ar As).length ≤ 3) (hL0 : vx_ar As ++ List.replicate (3 - (vx_ar As).length) none = L0)
    (body : ∀ (lim z : vx_Z) X, vx_cl0 none lim tb_R_ofPrisoner (fun r z' h' => z' = z ∧ P r h') X → X 0 L0 [] z h) : vx_Ok m_R_ofPrisoner As sz h P :=
  vx_ok0 (M := (⟨"VoteWallsModel", "ofPrisoner", "(II)I"⟩, prog_9_method_21_code, 3, (some .int), 1, 0, 0, 2, 0)) rfl (ow := 7) rfl ck_R_ofPrisoner rfl hlen hL0 body
abbrev kb_R_isPrisoner_0 : List vx_I := [(.iload_n 1, 1, 1, 0, .null, []), (.ifCond .lt 15, 3, 16, 0, .null, []), (.iload_n 1, 1, 1, 0, .null, []), (.aload_n 0, 1, 0, 0, .null, []), (.getfield 80, 3, 7, 7, .null, []), (.if_icmp .ge 7, 3, 16, 0, .null, []), (.iconst 1, 1, 0, 0, .int 1, []), (.goto 4, 3, 17, 0, .null, [])]
abbrev kb_R_isPrisoner_16 : List vx_I := [(.iconst 0, 1, 0, 0, .int 0, [])]
abbrev kb_R_isPrisoner_17 : List vx_I := [(.ireturn, 1, 1, 0, .null, [])]
def tb_R_isPrisoner : List (Nat × List vx_I) := [(0, kb_R_isPrisoner_0), (16, kb_R_isPrisoner_16), (17, kb_R_isPrisoner_17)]
theorem bk_R_isPrisoner_0 : vx_bk tb_R_isPrisoner 0 = kb_R_isPrisoner_0 := rfl
theorem bk_R_isPrisoner_16 : vx_bk tb_R_isPrisoner 16 = kb_R_isPrisoner_16 := rfl
theorem bk_R_isPrisoner_17 : vx_bk tb_R_isPrisoner 17 = kb_R_isPrisoner_17 := rfl
abbrev m_R_isPrisoner : Nat := 116
set_option maxRecDepth 100000 in
theorem ck_R_isPrisoner : vx_ckM prog_9_method_10_code 7 2 0 false (some .boolean) tb_R_isPrisoner = true := by decide +kernel
theorem ok_R_isPrisoner {As : List Value} {sz : Nat} {h : vx_H} {P : Option Value → vx_H → Prop} (L0 : vx_L) (hlen : (vx_ar As).length ≤ 2) (hL0 : vx_ar As ++ List.replicate (2 - (vx_ar As).length) none = L0)
    (body : ∀ (lim z : vx_Z) X, vx_cl0 none lim tb_R_isPrisoner (fun r z' h' => z' = z ∧ P r h') X → X 0 L0 [] z h) : vx_Ok m_R_isPrisoner As sz h P :=
  vx_ok0 (M := (⟨"VoteWallsModel", "isPrisoner", "(I)Z"⟩, prog_9_method_10_code, 2, (some .boolean), 0, 0, 0, 1, 0)) rfl (ow := 7) rfl ck_R_isPrisoner rfl hlen hL0 body
abbrev kb_R_votes_0 : List vx_I := [(.aload_n 0, 1, 0, 0, .null, []), (.getfield 22, 3, 7, 9, .null, []), (.iload_n 1, 1, 1, 0, .null, []), (.iaload, 1, 0, 0, .null, []), (.ifCond .ne 7, 3, 13, 0, .null, []), (.iconst 1, 1, 0, 0, .int 1, []), (.goto 18, 3, 28, 0, .null, [])]
abbrev kb_R_votes_13 : List vx_I := [(.aload_n 0, 1, 0, 0, .null, []), (.getfield 22, 3, 7, 9, .null, []), (.iload_n 1, 1, 1, 0, .null, []), (.iaload, 1, 0, 0, .null, []), (.iconst 1, 1, 0, 0, .int 1, []), (.if_icmp .ne 7, 3, 27, 0, .null, []), (.iconst 2, 1, 0, 0, .int 2, []), (.goto 4, 3, 28, 0, .null, [])]
abbrev kb_R_votes_27 : List vx_I := [(.iconst 4, 1, 0, 0, .int 4, [])]
abbrev kb_R_votes_28 : List vx_I := [(.ireturn, 1, 0, 0, .null, [])]
def tb_R_votes : List (Nat × List vx_I) := [(0, kb_R_votes_0), (13, kb_R_votes_13), (27, kb_R_votes_27), (28, kb_R_votes_28)]
theorem bk_R_votes_0 : vx_bk tb_R_votes 0 = kb_R_votes_0 := rfl
theorem bk_R_votes_13 : vx_bk tb_R_votes 13 = kb_R_votes_13 := rfl
theorem bk_R_votes_27 : vx_bk tb_R_votes 27 = kb_R_votes_27 := rfl
theorem bk_R_votes_28 : vx_bk tb_R_votes 28 = kb_R_votes_28 := rfl
abbrev m_R_votes : Nat := 117
set_option maxRecDepth 100000 in
theorem ck_R_votes : vx_ckM prog_9_method_20_code 7 2 0 false (some .int) tb_R_votes = true := by decide +kernel
theorem ok_R_votes {As : List Value} {sz : Nat} {h : vx_H} {P : Option Value → vx_H → Prop} (L0 : vx_L) (hlen : (vx_ar As).length ≤ 2) (hL0 : vx_ar As ++ List.replicate (2 - (vx_ar As).length) none = L0)
    (body : ∀ (lim z : vx_Z) X, vx_cl0 none lim tb_R_votes (fun r z' h' => z' = z ∧ P r h') X → X 0 L0 [] z h) : vx_Ok m_R_votes As sz h P :=
  vx_ok0 (M := (⟨"VoteWallsModel", "votes", "(I)I"⟩, prog_9_method_20_code, 2, (some .int), 0, 0, 0, 1, 0)) rfl (ow := 7) rfl ck_R_votes rfl hlen hL0 body
abbrev kb_R_law_0 : List vx_I := [(.iload_n 1, 1, 1, 0, .null, []), (.iconst 0, 1, 0, 0, .int 0, []), (.iconst 1, 1, 0, 0, .int 1, []), (.invokestatic 73, 3, 105, 3, .null, []), (.ifCond .ne 6, 3, 12, 0, .null, []), (.bipush (-2), 2, 0, 0, .int (-2), []), (.ireturn, 1, 0, 0, .null, [])]
abbrev kb_R_law_12 : List vx_I := [(.aload_n 0, 1, 0, 0, .null, []), (.invokevirtual 151, 3, 119, 0, .null, [(0, 0), (0, 0), (0, 0), (0, 0), (0, 0), (0, 0), (0, 0)]), (.ifCond .ne 6, 3, 22, 0, .null, []), (.bipush (-3), 2, 0, 0, .int (-3), []), (.ireturn, 1, 0, 0, .null, [])]
abbrev kb_R_law_22 : List vx_I := [(.aload_n 0, 1, 0, 0, .null, []), (.getfield 120, 3, 7, 11, .null, []), (.istore_n 2, 1, 2, 0, .null, []), (.aload_n 0, 1, 0, 0, .null, []), (.iload_n 1, 1, 1, 0, .null, []), (.putfield 120, 3, 7, 11, .int 0, []), (.iload_n 2, 1, 2, 0, .null, []), (.ireturn, 1, 0, 0, .null, [])]
def tb_R_law : List (Nat × List vx_I) := [(0, kb_R_law_0), (12, kb_R_law_12), (22, kb_R_law_22)]
theorem bk_R_law_0 : vx_bk tb_R_law 0 = kb_R_law_0 := rfl
theorem bk_R_law_12 : vx_bk tb_R_law 12 = kb_R_law_12 := rfl
theorem bk_R_law_22 : vx_bk tb_R_law 22 = kb_R_law_22 := rfl
abbrev m_R_law : Nat := 118
set_option maxRecDepth 100000 in
theorem ck_R_law : vx_ckM prog_9_method_22_code 7 3 1 false (some .int) tb_R_law = true := by decide +kernel
theorem ok_R_law {As : List Value} {sz : Nat} {h : vx_H} {P : Option Value → vx_H → Prop} (L0 : vx_L) (hlen : (vx_ar As).length ≤ 3) (hL0 : vx_ar As ++ List.replicate (3 - (vx_ar As).length) none = L0)
    (body : ∀ (lim z : vx_Z) X, vx_cl0 none lim tb_R_law (fun r z' h' => z' = z ∧ P r h') X → X 0 L0 [] z h) : vx_Ok m_R_law As sz h P :=
  vx_ok0 (M := (⟨"VoteWallsModel", "law", "(I)I"⟩, prog_9_method_22_code, 3, (some .int), 1, 0, 0, 1, 0)) rfl (ow := 7) rfl ck_R_law rfl hlen hL0 body
abbrev kb_R_isYard_0 : List vx_I := [(.aload_n 0, 1, 0, 0, .null, []), (.getfield 77, 3, 7, 6, .null, []), (.ifCond .le 7, 3, 11, 0, .null, []), (.iconst 1, 1, 0, 0, .int 1, []), (.goto 4, 3, 12, 0, .null, [])]
abbrev kb_R_isYard_11 : List vx_I := [(.iconst 0, 1, 0, 0, .int 0, [])]
abbrev kb_R_isYard_12 : List vx_I := [(.ireturn, 1, 1, 0, .null, [])]
def tb_R_isYard : List (Nat × List vx_I) := [(0, kb_R_isYard_0), (11, kb_R_isYard_11), (12, kb_R_isYard_12)]
theorem bk_R_isYard_0 : vx_bk tb_R_isYard 0 = kb_R_isYard_0 := rfl
theorem bk_R_isYard_11 : vx_bk tb_R_isYard 11 = kb_R_isYard_11 := rfl
theorem bk_R_isYard_12 : vx_bk tb_R_isYard 12 = kb_R_isYard_12 := rfl
abbrev m_R_isYard : Nat := 119
set_option maxRecDepth 100000 in
theorem ck_R_isYard : vx_ckM prog_9_method_11_code 7 1 0 false (some .boolean) tb_R_isYard = true := by decide +kernel
theorem ok_R_isYard {As : List Value} {sz : Nat} {h : vx_H} {P : Option Value → vx_H → Prop} (L0 : vx_L) (hlen : (vx_ar As).length ≤ 1) (hL0 : vx_ar As ++ List.replicate (1 - (vx_ar As).length) none = L0)
    (body : ∀ (lim z : vx_Z) X, vx_cl0 none lim tb_R_isYard (fun r z' h' => z' = z ∧ P r h') X → X 0 L0 [] z h) : vx_Ok m_R_isYard As sz h P :=
  vx_ok0 (M := (⟨"VoteWallsModel", "isYard", "()Z"⟩, prog_9_method_11_code, 1, (some .boolean), 0, 0, 0, 0, 0)) rfl (ow := 7) rfl ck_R_isYard rfl hlen hL0 body
abbrev kb_R_lock_0 : List vx_I := [(.aload_n 0, 1, 0, 0, .null, []), (.iload_n 1, 1, 1, 0, .null, []), (.invokevirtual 158, 3, 121, 1, .null, [(0, 0), (0, 0), (0, 0), (0, 0), (0, 0), (0, 0), (0, 0)]), (.ifCond .ne 5, 3, 10, 0, .null, []), (.iconst (-1), 1, 0, 0, .int (-1), []), (.ireturn, 1, 0, 0, .null, [])]
abbrev kb_R_lock_10 : List vx_I := [(.iload_n 2, 1, 2, 0, .null, []), (.iload_n 3, 1, 3, 0, .null, []), (.invokestatic 161, 3, 122, 2, .null, []), (.ifCond .ne 6, 3, 21, 0, .null, []), (.bipush (-2), 2, 0, 0, .int (-2), []), (.ireturn, 1, 0, 0, .null, [])]
abbrev kb_R_lock_21 : List vx_I := [(.aload_n 0, 1, 0, 0, .null, []), (.getfield 123, 3, 7, 19, .null, []), (.bipush 6, 2, 0, 0, .int 6, []), (.if_icmp .ne 6, 3, 33, 0, .null, []), (.bipush (-4), 2, 0, 0, .int (-4), []), (.ireturn, 1, 0, 0, .null, [])]
abbrev kb_R_lock_33 : List vx_I := [(.aload_n 0, 1, 0, 0, .null, []), (.getfield 37, 3, 7, 20, .null, []), (.aload_n 0, 1, 0, 0, .null, []), (.getfield 123, 3, 7, 19, .null, []), (.iload_n 1, 1, 1, 0, .null, []), (.iastore, 1, 0, 0, .null, []), (.aload_n 0, 1, 0, 0, .null, []), (.getfield 40, 3, 7, 21, .null, []), (.aload_n 0, 1, 0, 0, .null, []), (.getfield 123, 3, 7, 19, .null, []), (.iload_n 2, 1, 2, 0, .null, []), (.iastore, 1, 0, 0, .null, []), (.aload_n 0, 1, 0, 0, .null, []), (.getfield 43, 3, 7, 22, .null, []), (.aload_n 0, 1, 0, 0, .null, []), (.getfield 123, 3, 7, 19, .null, []), (.iload_n 3, 1, 3, 0, .null, []), (.iastore, 1, 0, 0, .null, []), (.aload_n 0, 1, 0, 0, .null, []), (.dup, 1, 0, 0, .null, []), (.getfield 123, 3, 7, 19, .null, []), (.iconst 1, 1, 0, 0, .int 1, []), (.iadd, 1, 0, 0, .null, []), (.putfield 123, 3, 7, 19, .int 0, []), (.aload_n 0, 1, 0, 0, .null, []), (.getfield 123, 3, 7, 19, .null, []), (.iconst 1, 1, 0, 0, .int 1, []), (.isub, 1, 0, 0, .null, []), (.ireturn, 1, 0, 0, .null, [])]
def tb_R_lock : List (Nat × List vx_I) := [(0, kb_R_lock_0), (10, kb_R_lock_10), (21, kb_R_lock_21), (33, kb_R_lock_33)]
theorem bk_R_lock_0 : vx_bk tb_R_lock 0 = kb_R_lock_0 := rfl
theorem bk_R_lock_10 : vx_bk tb_R_lock 10 = kb_R_lock_10 := rfl
theorem bk_R_lock_21 : vx_bk tb_R_lock 21 = kb_R_lock_21 := rfl
theorem bk_R_lock_33 : vx_bk tb_R_lock 33 = kb_R_lock_33 := rfl
abbrev m_R_lock : Nat := 120
set_option maxRecDepth 100000 in
theorem ck_R_lock : vx_ckM prog_9_method_24_code 7 4 3 false (some .int) tb_R_lock = true := by decide +kernel
theorem ok_R_lock {As : List Value} {sz : Nat} {h : vx_H} {P : Option Value → vx_H → Prop} (L0 : vx_L) (hlen : (vx_ar As).length ≤ 4) (hL0 : vx_ar As ++ List.replicate (4 - (vx_ar As).length) none = L0)
    (body : ∀ (lim z : vx_Z) X, vx_cl0 none lim tb_R_lock (fun r z' h' => z' = z ∧ P r h') X → X 0 L0 [] z h) : vx_Ok m_R_lock As sz h P :=
  vx_ok0 (M := (⟨"VoteWallsModel", "lock", "(III)I"⟩, prog_9_method_24_code, 4, (some .int), 3, 0, 0, 3, 0)) rfl (ow := 7) rfl ck_R_lock rfl hlen hL0 body
abbrev kb_R_isBoard_0 : List vx_I := [(.iload_n 1, 1, 1, 0, .null, []), (.ifCond .lt 15, 3, 16, 0, .null, []), (.iload_n 1, 1, 1, 0, .null, []), (.aload_n 0, 1, 0, 0, .null, []), (.getfield 77, 3, 7, 6, .null, []), (.if_icmp .ge 7, 3, 16, 0, .null, []), (.iconst 1, 1, 0, 0, .int 1, []), (.goto 4, 3, 17, 0, .null, [])]
abbrev kb_R_isBoard_16 : List vx_I := [(.iconst 0, 1, 0, 0, .int 0, [])]
abbrev kb_R_isBoard_17 : List vx_I := [(.ireturn, 1, 1, 0, .null, [])]
def tb_R_isBoard : List (Nat × List vx_I) := [(0, kb_R_isBoard_0), (16, kb_R_isBoard_16), (17, kb_R_isBoard_17)]
theorem bk_R_isBoard_0 : vx_bk tb_R_isBoard 0 = kb_R_isBoard_0 := rfl
theorem bk_R_isBoard_16 : vx_bk tb_R_isBoard 16 = kb_R_isBoard_16 := rfl
theorem bk_R_isBoard_17 : vx_bk tb_R_isBoard 17 = kb_R_isBoard_17 := rfl
abbrev m_R_isBoard : Nat := 121
set_option maxRecDepth 100000 in
theorem ck_R_isBoard : vx_ckM prog_9_method_9_code 7 2 0 false (some .boolean) tb_R_isBoard = true := by decide +kernel
theorem ok_R_isBoard {As : List Value} {sz : Nat} {h : vx_H} {P : Option Value → vx_H → Prop} (L0 : vx_L) (hlen : (vx_ar As).length ≤ 2) (hL0 : vx_ar As ++ List.replicate (2 - (vx_ar As).length) none = L0)
    (body : ∀ (lim z : vx_Z) X, vx_cl0 none lim tb_R_isBoard (fun r z' h' => z' = z ∧ P r h') X → X 0 L0 [] z h) : vx_Ok m_R_isBoard As sz h P :=
  vx_ok0 (M := (⟨"VoteWallsModel", "isBoard", "(I)Z"⟩, prog_9_method_9_code, 2, (some .boolean), 0, 0, 0, 1, 0)) rfl (ow := 7) rfl ck_R_isBoard rfl hlen hL0 body
abbrev kb_R_isSpan_0 : List vx_I := [(.iload_n 0, 1, 0, 0, .null, []), (.invokestatic 155, 3, 123, 1, .null, []), (.ifCond .eq 19, 3, 23, 0, .null, []), (.iload_n 1, 1, 1, 0, .null, []), (.invokestatic 155, 3, 123, 1, .null, []), (.ifCond .eq 12, 3, 23, 0, .null, []), (.iload_n 1, 1, 1, 0, .null, []), (.iload_n 0, 1, 0, 0, .null, []), (.if_icmp .lt 7, 3, 23, 0, .null, []), (.iconst 1, 1, 0, 0, .int 1, []), (.goto 4, 3, 24, 0, .null, [])]
abbrev kb_R_isSpan_23 : List vx_I := [(.iconst 0, 1, 0, 0, .int 0, [])]
abbrev kb_R_isSpan_24 : List vx_I := [(.ireturn, 1, 1, 0, .null, [])]
def tb_R_isSpan : List (Nat × List vx_I) := [(0, kb_R_isSpan_0), (23, kb_R_isSpan_23), (24, kb_R_isSpan_24)]
theorem bk_R_isSpan_0 : vx_bk tb_R_isSpan 0 = kb_R_isSpan_0 := rfl
theorem bk_R_isSpan_23 : vx_bk tb_R_isSpan 23 = kb_R_isSpan_23 := rfl
theorem bk_R_isSpan_24 : vx_bk tb_R_isSpan 24 = kb_R_isSpan_24 := rfl
abbrev m_R_isSpan : Nat := 122
set_option maxRecDepth 100000 in
theorem ck_R_isSpan : vx_ckM prog_9_method_23_code 7 2 2 false (some .boolean) tb_R_isSpan = true := by decide +kernel
theorem ok_R_isSpan {As : List Value} {sz : Nat} {h : vx_H} {P : Option Value → vx_H → Prop} (L0 : vx_L) (hlen : (vx_ar As).length ≤ 2) (hL0 : vx_ar As ++ List.replicate (2 - (vx_ar As).length) none = L0)
    (body : ∀ (lim z : vx_Z) X, vx_cl0 none lim tb_R_isSpan (fun r z' h' => z' = z ∧ P r h') X → X 0 L0 [] z h) : vx_Ok m_R_isSpan As sz h P :=
  vx_ok0 (M := (⟨"VoteWallsModel", "isSpan", "(II)Z"⟩, prog_9_method_23_code, 2, (some .boolean), 2, 0, 0, 2, 1)) rfl (ow := 7) rfl ck_R_isSpan rfl hlen hL0 body
abbrev kb_R_isSunday_0 : List vx_I := [(.iload_n 0, 1, 0, 0, .null, []), (.iconst 0, 1, 0, 0, .int 0, []), (.bipush 49, 2, 0, 0, .int 49, []), (.invokestatic 73, 3, 105, 3, .null, []), (.ireturn, 1, 1, 0, .null, [])]
def tb_R_isSunday : List (Nat × List vx_I) := [(0, kb_R_isSunday_0)]
theorem bk_R_isSunday_0 : vx_bk tb_R_isSunday 0 = kb_R_isSunday_0 := rfl
abbrev m_R_isSunday : Nat := 123
set_option maxRecDepth 100000 in
theorem ck_R_isSunday : vx_ckM prog_9_method_12_code 7 1 1 false (some .boolean) tb_R_isSunday = true := by decide +kernel
theorem ok_R_isSunday {As : List Value} {sz : Nat} {h : vx_H} {P : Option Value → vx_H → Prop} (L0 : vx_L) (hlen : (vx_ar As).length ≤ 1) (hL0 : vx_ar As ++ List.replicate (1 - (vx_ar As).length) none = L0)
    (body : ∀ (lim z : vx_Z) X, vx_cl0 none lim tb_R_isSunday (fun r z' h' => z' = z ∧ P r h') X → X 0 L0 [] z h) : vx_Ok m_R_isSunday As sz h P :=
  vx_ok0 (M := (⟨"VoteWallsModel", "isSunday", "(I)Z"⟩, prog_9_method_12_code, 1, (some .boolean), 1, 0, 0, 1, 1)) rfl (ow := 7) rfl ck_R_isSunday rfl hlen hL0 body
abbrev kb_R_unlock_0 : List vx_I := [(.iload_n 1, 1, 1, 0, .null, []), (.iconst 0, 1, 0, 0, .int 0, []), (.aload_n 0, 1, 0, 0, .null, []), (.getfield 123, 3, 7, 19, .null, []), (.invokestatic 73, 3, 105, 3, .null, []), (.ifCond .ne 6, 3, 15, 0, .null, []), (.bipush (-2), 2, 0, 0, .int (-2), []), (.ireturn, 1, 0, 0, .null, [])]
abbrev kb_R_unlock_15 : List vx_I := [(.aload_n 0, 1, 0, 0, .null, []), (.dup, 1, 0, 0, .null, []), (.getfield 123, 3, 7, 19, .null, []), (.iload_n 1, 1, 1, 0, .null, []), (.isub, 1, 0, 0, .null, []), (.putfield 123, 3, 7, 19, .int 0, []), (.aload_n 0, 1, 0, 0, .null, []), (.getfield 123, 3, 7, 19, .null, []), (.ireturn, 1, 0, 0, .null, [])]
def tb_R_unlock : List (Nat × List vx_I) := [(0, kb_R_unlock_0), (15, kb_R_unlock_15)]
theorem bk_R_unlock_0 : vx_bk tb_R_unlock 0 = kb_R_unlock_0 := rfl
theorem bk_R_unlock_15 : vx_bk tb_R_unlock 15 = kb_R_unlock_15 := rfl
abbrev m_R_unlock : Nat := 124
set_option maxRecDepth 100000 in
theorem ck_R_unlock : vx_ckM prog_9_method_25_code 7 2 1 false (some .int) tb_R_unlock = true := by decide +kernel
theorem ok_R_unlock {As : List Value} {sz : Nat} {h : vx_H} {P : Option Value → vx_H → Prop} (L0 : vx_L) (hlen : (vx_ar As).length ≤ 2) (hL0 : vx_ar As ++ List.replicate (2 - (vx_ar As).length) none = L0)
    (body : ∀ (lim z : vx_Z) X, vx_cl0 none lim tb_R_unlock (fun r z' h' => z' = z ∧ P r h') X → X 0 L0 [] z h) : vx_Ok m_R_unlock As sz h P :=
  vx_ok0 (M := (⟨"VoteWallsModel", "unlock", "(I)I"⟩, prog_9_method_25_code, 2, (some .int), 1, 0, 0, 1, 0)) rfl (ow := 7) rfl ck_R_unlock rfl hlen hL0 body
abbrev kb_R_strike_0 : List vx_I := [(.aload_n 0, 1, 0, 0, .null, []), (.iload_n 1, 1, 1, 0, .null, []), (.invokevirtual 145, 3, 116, 1, .null, [(0, 0), (0, 0), (0, 0), (0, 0), (0, 0), (0, 0), (0, 0)]), (.ifCond .ne 5, 3, 10, 0, .null, []), (.iconst (-1), 1, 0, 0, .int (-1), []), (.ireturn, 1, 0, 0, .null, [])]
abbrev kb_R_strike_10 : List vx_I := [(.iload_n 2, 1, 2, 0, .null, []), (.iload_n 3, 1, 3, 0, .null, []), (.invokestatic 161, 3, 122, 2, .null, []), (.ifCond .ne 6, 3, 21, 0, .null, []), (.bipush (-2), 2, 0, 0, .int (-2), []), (.ireturn, 1, 0, 0, .null, [])]
abbrev kb_R_strike_21 : List vx_I := [(.aload_n 0, 1, 0, 0, .null, []), (.getfield 126, 3, 7, 23, .null, []), (.bipush 6, 2, 0, 0, .int 6, []), (.if_icmp .ne 6, 3, 33, 0, .null, []), (.bipush (-4), 2, 0, 0, .int (-4), []), (.ireturn, 1, 0, 0, .null, [])]
abbrev kb_R_strike_33 : List vx_I := [(.aload_n 0, 1, 0, 0, .null, []), (.getfield 46, 3, 7, 24, .null, []), (.aload_n 0, 1, 0, 0, .null, []), (.getfield 126, 3, 7, 23, .null, []), (.iload_n 1, 1, 1, 0, .null, []), (.iastore, 1, 0, 0, .null, []), (.aload_n 0, 1, 0, 0, .null, []), (.getfield 49, 3, 7, 25, .null, []), (.aload_n 0, 1, 0, 0, .null, []), (.getfield 126, 3, 7, 23, .null, []), (.iload_n 2, 1, 2, 0, .null, []), (.iastore, 1, 0, 0, .null, []), (.aload_n 0, 1, 0, 0, .null, []), (.getfield 52, 3, 7, 26, .null, []), (.aload_n 0, 1, 0, 0, .null, []), (.getfield 126, 3, 7, 23, .null, []), (.iload_n 3, 1, 3, 0, .null, []), (.iastore, 1, 0, 0, .null, []), (.aload_n 0, 1, 0, 0, .null, []), (.dup, 1, 0, 0, .null, []), (.getfield 126, 3, 7, 23, .null, []), (.iconst 1, 1, 0, 0, .int 1, []), (.iadd, 1, 0, 0, .null, []), (.putfield 126, 3, 7, 23, .int 0, []), (.aload_n 0, 1, 0, 0, .null, []), (.getfield 126, 3, 7, 23, .null, []), (.iconst 1, 1, 0, 0, .int 1, []), (.isub, 1, 0, 0, .null, []), (.ireturn, 1, 0, 0, .null, [])]
def tb_R_strike : List (Nat × List vx_I) := [(0, kb_R_strike_0), (10, kb_R_strike_10), (21, kb_R_strike_21), (33, kb_R_strike_33)]
theorem bk_R_strike_0 : vx_bk tb_R_strike 0 = kb_R_strike_0 := rfl
theorem bk_R_strike_10 : vx_bk tb_R_strike 10 = kb_R_strike_10 := rfl
theorem bk_R_strike_21 : vx_bk tb_R_strike 21 = kb_R_strike_21 := rfl
theorem bk_R_strike_33 : vx_bk tb_R_strike 33 = kb_R_strike_33 := rfl
abbrev m_R_strike : Nat := 125
set_option maxRecDepth 100000 in
theorem ck_R_strike : vx_ckM prog_9_method_26_code 7 4 3 false (some .int) tb_R_strike = true := by decide +kernel
theorem ok_R_strike {As : List Value} {sz : Nat} {h : vx_H} {P : Option Value → vx_H → Prop} (L0 : vx_L) (hlen : (vx_ar As).length ≤ 4) (hL0 : vx_ar As ++ List.replicate (4 - (vx_ar As).length) none = L0)
    (body : ∀ (lim z : vx_Z) X, vx_cl0 none lim tb_R_strike (fun r z' h' => z' = z ∧ P r h') X → X 0 L0 [] z h) : vx_Ok m_R_strike As sz h P :=
  vx_ok0 (M := (⟨"VoteWallsModel", "strike", "(III)I"⟩, prog_9_method_26_code, 4, (some .int), 3, 0, 0, 3, 0)) rfl (ow := 7) rfl ck_R_strike rfl hlen hL0 body
abbrev kb_R_eat_0 : List vx_I := [(.iload_n 1, 1, 1, 0, .null, []), (.iconst 0, 1, 0, 0, .int 0, []), (.aload_n 0, 1, 0, 0, .null, []), (.getfield 126, 3, 7, 23, .null, []), (.invokestatic 73, 3, 105, 3, .null, []), (.ifCond .ne 6, 3, 15, 0, .null, []), (.bipush (-2), 2, 0, 0, .int (-2), []), (.ireturn, 1, 0, 0, .null, [])]
abbrev kb_R_eat_15 : List vx_I := [(.aload_n 0, 1, 0, 0, .null, []), (.dup, 1, 0, 0, .null, []), (.getfield 126, 3, 7, 23, .null, []), (.iload_n 1, 1, 1, 0, .null, []), (.isub, 1, 0, 0, .null, []), (.putfield 126, 3, 7, 23, .int 0, []), (.aload_n 0, 1, 0, 0, .null, []), (.getfield 126, 3, 7, 23, .null, []), (.ireturn, 1, 0, 0, .null, [])]
def tb_R_eat : List (Nat × List vx_I) := [(0, kb_R_eat_0), (15, kb_R_eat_15)]
theorem bk_R_eat_0 : vx_bk tb_R_eat 0 = kb_R_eat_0 := rfl
theorem bk_R_eat_15 : vx_bk tb_R_eat 15 = kb_R_eat_15 := rfl
abbrev m_R_eat : Nat := 126
set_option maxRecDepth 100000 in
theorem ck_R_eat : vx_ckM prog_9_method_27_code 7 2 1 false (some .int) tb_R_eat = true := by decide +kernel
theorem ok_R_eat {As : List Value} {sz : Nat} {h : vx_H} {P : Option Value → vx_H → Prop} (L0 : vx_L) (hlen : (vx_ar As).length ≤ 2) (hL0 : vx_ar As ++ List.replicate (2 - (vx_ar As).length) none = L0)
    (body : ∀ (lim z : vx_Z) X, vx_cl0 none lim tb_R_eat (fun r z' h' => z' = z ∧ P r h') X → X 0 L0 [] z h) : vx_Ok m_R_eat As sz h P :=
  vx_ok0 (M := (⟨"VoteWallsModel", "eat", "(I)I"⟩, prog_9_method_27_code, 2, (some .int), 1, 0, 0, 1, 0)) rfl (ow := 7) rfl ck_R_eat rfl hlen hL0 body
abbrev kb_R_gap_0 : List vx_I := [(.aload_n 0, 1, 0, 0, .null, []), (.iload_n 1, 1, 1, 0, .null, []), (.invokevirtual 158, 3, 121, 1, .null, [(0, 0), (0, 0), (0, 0), (0, 0), (0, 0), (0, 0), (0, 0)]), (.ifCond .ne 5, 3, 10, 0, .null, []), (.iconst (-1), 1, 0, 0, .int (-1), []), (.ireturn, 1, 0, 0, .null, [])]
abbrev kb_R_gap_10 : List vx_I := [(.iload_n 2, 1, 2, 0, .null, []), (.invokestatic 201, 3, 128, 1, .null, []), (.ifCond .ne 6, 3, 20, 0, .null, []), (.bipush (-2), 2, 0, 0, .int (-2), []), (.ireturn, 1, 0, 0, .null, [])]
abbrev kb_R_gap_20 : List vx_I := [(.aload_n 0, 1, 0, 0, .null, []), (.iload_n 2, 1, 2, 0, .null, []), (.invokevirtual 204, 3, 129, 1, .null, [(0, 0), (0, 0), (0, 0), (0, 0), (0, 0), (0, 0), (0, 0)]), (.aload_n 0, 1, 0, 0, .null, []), (.getfield 55, 3, 7, 29, .null, []), (.iload_n 1, 1, 1, 0, .null, []), (.iaload, 1, 0, 0, .null, []), (.ireturn, 1, 0, 0, .null, [])]
def tb_R_gap : List (Nat × List vx_I) := [(0, kb_R_gap_0), (10, kb_R_gap_10), (20, kb_R_gap_20)]
theorem bk_R_gap_0 : vx_bk tb_R_gap 0 = kb_R_gap_0 := rfl
theorem bk_R_gap_10 : vx_bk tb_R_gap 10 = kb_R_gap_10 := rfl
theorem bk_R_gap_20 : vx_bk tb_R_gap 20 = kb_R_gap_20 := rfl
abbrev m_R_gap : Nat := 127
set_option maxRecDepth 100000 in
theorem ck_R_gap : vx_ckM prog_9_method_38_code 7 3 5 false (some .int) tb_R_gap = true := by decide +kernel
theorem ok_R_gap {As : List Value} {sz : Nat} {h : vx_H} {P : Option Value → vx_H → Prop} (L0 : vx_L) (hlen : (vx_ar As).length ≤ 3) (hL0 : vx_ar As ++ List.replicate (3 - (vx_ar As).length) none = L0)
    (body : ∀ (lim z : vx_Z) X, vx_cl0 none lim tb_R_gap (fun r z' h' => z' = z ∧ P r h') X → X 0 L0 [] z h) : vx_Ok m_R_gap As sz h P :=
  vx_ok0 (M := (⟨"VoteWallsModel", "gap", "(II)I"⟩, prog_9_method_38_code, 3, (some .int), 5, 0, 0, 2, 0)) rfl (ow := 7) rfl ck_R_gap rfl hlen hL0 body
abbrev kb_R_isEnd_0 : List vx_I := [(.iload_n 0, 1, 0, 0, .null, []), (.iconst (-1), 1, 0, 0, .int (-1), []), (.bipush 49, 2, 0, 0, .int 49, []), (.invokestatic 73, 3, 105, 3, .null, []), (.ireturn, 1, 1, 0, .null, [])]
def tb_R_isEnd : List (Nat × List vx_I) := [(0, kb_R_isEnd_0)]
theorem bk_R_isEnd_0 : vx_bk tb_R_isEnd 0 = kb_R_isEnd_0 := rfl
abbrev m_R_isEnd : Nat := 128
set_option maxRecDepth 100000 in
theorem ck_R_isEnd : vx_ckM prog_9_method_37_code 7 1 1 false (some .boolean) tb_R_isEnd = true := by decide +kernel
theorem ok_R_isEnd {As : List Value} {sz : Nat} {h : vx_H} {P : Option Value → vx_H → Prop} (L0 : vx_L) (hlen : (vx_ar As).length ≤ 1) (hL0 : vx_ar As ++ List.replicate (1 - (vx_ar As).length) none = L0)
    (body : ∀ (lim z : vx_Z) X, vx_cl0 none lim tb_R_isEnd (fun r z' h' => z' = z ∧ P r h') X → X 0 L0 [] z h) : vx_Ok m_R_isEnd As sz h P :=
  vx_ok0 (M := (⟨"VoteWallsModel", "isEnd", "(I)Z"⟩, prog_9_method_37_code, 1, (some .boolean), 1, 0, 0, 1, 1)) rfl (ow := 7) rfl ck_R_isEnd rfl hlen hL0 body
abbrev kb_R_goTo_0 : List vx_I := [(.aload_n 0, 1, 0, 0, .null, []), (.invokevirtual 194, 3, 130, 0, .null, [(0, 0), (0, 0), (0, 0), (0, 0), (0, 0), (0, 0), (0, 0)]), (.iconst 0, 1, 0, 0, .int 0, []), (.istore_n 2, 1, 2, 0, .null, [])]
abbrev kb_R_goTo_6 : List vx_I := [(.iload_n 2, 1, 2, 0, .null, []), (.iload_n 1, 1, 1, 0, .null, []), (.if_icmp .gt 14, 3, 22, 0, .null, []), (.aload_n 0, 1, 0, 0, .null, []), (.iload_n 2, 1, 2, 0, .null, []), (.invokevirtual 197, 3, 131, 1, .null, [(0, 0), (0, 0), (0, 0), (0, 0), (0, 0), (0, 0), (0, 0)]), (.iinc 2 1, 3, 2, 0, .int 1, []), (.goto (-13), 3, 6, 0, .null, [])]
abbrev kb_R_goTo_22 : List vx_I := [(.return_, 1, 0, 0, .null, [])]
def tb_R_goTo : List (Nat × List vx_I) := [(0, kb_R_goTo_0), (6, kb_R_goTo_6), (22, kb_R_goTo_22)]
theorem bk_R_goTo_0 : vx_bk tb_R_goTo 0 = kb_R_goTo_0 := rfl
theorem bk_R_goTo_6 : vx_bk tb_R_goTo 6 = kb_R_goTo_6 := rfl
theorem bk_R_goTo_22 : vx_bk tb_R_goTo 22 = kb_R_goTo_22 := rfl
abbrev m_R_goTo : Nat := 129
set_option maxRecDepth 100000 in
theorem ck_R_goTo : vx_ckM prog_9_method_36_code 7 3 4 false none tb_R_goTo = true := by decide +kernel
theorem ok_R_goTo {As : List Value} {sz : Nat} {h : vx_H} {P : Option Value → vx_H → Prop} (L0 : vx_L) (hlen : (vx_ar As).length ≤ 3) (hL0 : vx_ar As ++ List.replicate (3 - (vx_ar As).length) none = L0)
    (body : ∀ (lim z : vx_Z) X, vx_cl0 none lim tb_R_goTo (fun r z' h' => z' = z ∧ P r h') X → X 0 L0 [] z h) : vx_Ok m_R_goTo As sz h P :=
  vx_ok0 (M := (⟨"VoteWallsModel", "goTo", "(I)V"⟩, prog_9_method_36_code, 3, none, 4, 0, 0, 1, 0)) rfl (ow := 7) rfl ck_R_goTo rfl hlen hL0 body
abbrev kb_R_begin_0 : List vx_I := [(.iconst 0, 1, 0, 0, .int 0, []), (.istore_n 1, 1, 1, 0, .null, [])]
abbrev kb_R_begin_2 : List vx_I := [(.iload_n 1, 1, 1, 0, .null, []), (.aload_n 0, 1, 0, 0, .null, []), (.getfield 77, 3, 7, 6, .null, []), (.if_icmp .ge 21, 3, 28, 0, .null, []), (.aload_n 0, 1, 0, 0, .null, []), (.getfield 55, 3, 7, 29, .null, []), (.iload_n 1, 1, 1, 0, .null, []), (.aload_n 0, 1, 0, 0, .null, []), (.getfield 19, 3, 7, 8, .null, []), (.iload_n 1, 1, 1, 0, .null, []), (.iaload, 1, 0, 0, .null, []), (.iastore, 1, 0, 0, .null, []), (.iinc 1 1, 3, 1, 0, .int 1, []), (.goto (-23), 3, 2, 0, .null, [])]
abbrev kb_R_begin_28 : List vx_I := [(.return_, 1, 0, 0, .null, [])]
def tb_R_begin : List (Nat × List vx_I) := [(0, kb_R_begin_0), (2, kb_R_begin_2), (28, kb_R_begin_28)]
theorem bk_R_begin_0 : vx_bk tb_R_begin 0 = kb_R_begin_0 := rfl
theorem bk_R_begin_2 : vx_bk tb_R_begin 2 = kb_R_begin_2 := rfl
theorem bk_R_begin_28 : vx_bk tb_R_begin 28 = kb_R_begin_28 := rfl
abbrev m_R_begin : Nat := 130
set_option maxRecDepth 100000 in
theorem ck_R_begin : vx_ckM prog_9_method_35_code 7 2 0 false none tb_R_begin = true := by decide +kernel
theorem ok_R_begin {As : List Value} {sz : Nat} {h : vx_H} {P : Option Value → vx_H → Prop} (L0 : vx_L) (hlen : (vx_ar As).length ≤ 2) (hL0 : vx_ar As ++ List.replicate (2 - (vx_ar As).length) none = L0)
    (body : ∀ (lim z : vx_Z) X, vx_cl0 none lim tb_R_begin (fun r z' h' => z' = z ∧ P r h') X → X 0 L0 [] z h) : vx_Ok m_R_begin As sz h P :=
  vx_ok0 (M := (⟨"VoteWallsModel", "begin", "()V"⟩, prog_9_method_35_code, 2, none, 0, 0, 0, 0, 0)) rfl (ow := 7) rfl ck_R_begin rfl hlen hL0 body
abbrev kb_R_goSunday_0 : List vx_I := [(.aload_n 0, 1, 0, 0, .null, []), (.iload_n 1, 1, 1, 0, .null, []), (.invokevirtual 184, 3, 132, 1, .null, [(0, 0), (0, 0), (0, 0), (0, 0), (0, 0), (0, 0), (0, 0)]), (.istore_n 2, 1, 2, 0, .null, []), (.aload_n 0, 1, 0, 0, .null, []), (.iload_n 1, 1, 1, 0, .null, []), (.invokevirtual 187, 3, 133, 1, .null, [(0, 0), (0, 0), (0, 0), (0, 0), (0, 0), (0, 0), (0, 0)]), (.istore_n 3, 1, 3, 0, .null, []), (.aload_n 0, 1, 0, 0, .null, []), (.iconst 0, 1, 0, 0, .int 0, []), (.putfield 180, 3, 7, 30, .long 0, []), (.iconst 0, 1, 0, 0, .int 0, []), (.istore 4, 2, 4, 0, .null, [])]
abbrev kb_R_goSunday_20 : List vx_I := [(.iload 4, 2, 4, 0, .null, []), (.aload_n 0, 1, 0, 0, .null, []), (.getfield 77, 3, 7, 6, .null, []), (.if_icmp .ge 48, 3, 74, 0, .null, []), (.aload_n 0, 1, 0, 0, .null, []), (.getfield 120, 3, 7, 11, .null, []), (.ifCond .ne 8, 3, 41, 0, .null, []), (.iload 4, 2, 4, 0, .null, []), (.goto 12, 3, 50, 0, .null, [])]
abbrev kb_R_goSunday_41 : List vx_I := [(.aload_n 0, 1, 0, 0, .null, []), (.getfield 77, 3, 7, 6, .null, []), (.iconst 1, 1, 0, 0, .int 1, []), (.isub, 1, 0, 0, .null, []), (.iload 4, 2, 4, 0, .null, []), (.isub, 1, 0, 0, .null, [])]
abbrev kb_R_goSunday_50 : List vx_I := [(.istore 5, 2, 5, 0, .null, []), (.iload_n 2, 1, 2, 0, .null, []), (.iload 5, 2, 5, 0, .null, []), (.ishr, 1, 0, 0, .null, []), (.iconst 1, 1, 0, 0, .int 1, []), (.iand, 1, 0, 0, .null, []), (.ifCond .ne 10, 3, 68, 0, .null, []), (.aload_n 0, 1, 0, 0, .null, []), (.iload 5, 2, 5, 0, .null, []), (.iload_n 3, 1, 3, 0, .null, []), (.invokevirtual 190, 3, 134, 2, .null, [(0, 0), (0, 0), (0, 0), (0, 0), (0, 0), (0, 0), (0, 0)])]
abbrev kb_R_goSunday_68 : List vx_I := [(.iinc 4 1, 3, 4, 0, .int 1, []), (.goto (-51), 3, 20, 0, .null, [])]
abbrev kb_R_goSunday_74 : List vx_I := [(.return_, 1, 0, 0, .null, [])]
def tb_R_goSunday : List (Nat × List vx_I) := [(0, kb_R_goSunday_0), (20, kb_R_goSunday_20), (41, kb_R_goSunday_41), (50, kb_R_goSunday_50), (68, kb_R_goSunday_68), (74, kb_R_goSunday_74)]
theorem bk_R_goSunday_0 : vx_bk tb_R_goSunday 0 = kb_R_goSunday_0 := rfl
theorem bk_R_goSunday_20 : vx_bk tb_R_goSunday 20 = kb_R_goSunday_20 := rfl
theorem bk_R_goSunday_41 : vx_bk tb_R_goSunday 41 = kb_R_goSunday_41 := rfl
theorem bk_R_goSunday_50 : vx_bk tb_R_goSunday 50 = kb_R_goSunday_50 := rfl
theorem bk_R_goSunday_68 : vx_bk tb_R_goSunday 68 = kb_R_goSunday_68 := rfl
theorem bk_R_goSunday_74 : vx_bk tb_R_goSunday 74 = kb_R_goSunday_74 := rfl
abbrev m_R_goSunday : Nat := 131
set_option maxRecDepth 100000 in
theorem ck_R_goSunday : vx_ckM prog_9_method_34_code 7 6 3 false none tb_R_goSunday = true := by decide +kernel
theorem ok_R_goSunday {As : List Value} {sz : Nat} {h : vx_H} {P : Option Value → vx_H → Prop} (L0 : vx_L) (hlen : (vx_ar As).length ≤ 6) (hL0 : vx_ar As ++ List.replicate (6 - (vx_ar As).length) none = L0)
    (body : ∀ (lim z : vx_Z) X, vx_cl0 none lim tb_R_goSunday (fun r z' h' => z' = z ∧ P r h') X → X 0 L0 [] z h) : vx_Ok m_R_goSunday As sz h P :=
  vx_ok0 (M := (⟨"VoteWallsModel", "goSunday", "(I)V"⟩, prog_9_method_34_code, 6, none, 3, 0, 0, 1, 0)) rfl (ow := 7) rfl ck_R_goSunday rfl hlen hL0 body
abbrev kb_R_lockedOn_0 : List vx_I := [(.aload_n 0, 1, 0, 0, .null, []), (.getfield 164, 3, 7, 27, .null, []), (.istore_n 2, 1, 2, 0, .null, []), (.iconst 0, 1, 0, 0, .int 0, []), (.istore_n 3, 1, 3, 0, .null, [])]
abbrev kb_R_lockedOn_7 : List vx_I := [(.iload_n 3, 1, 3, 0, .null, []), (.aload_n 0, 1, 0, 0, .null, []), (.getfield 123, 3, 7, 19, .null, []), (.if_icmp .ge 43, 3, 55, 0, .null, []), (.iload_n 2, 1, 2, 0, .null, []), (.iload_n 1, 1, 1, 0, .null, []), (.aload_n 0, 1, 0, 0, .null, []), (.getfield 40, 3, 7, 21, .null, []), (.iload_n 3, 1, 3, 0, .null, []), (.iaload, 1, 0, 0, .null, []), (.aload_n 0, 1, 0, 0, .null, []), (.getfield 43, 3, 7, 22, .null, []), (.iload_n 3, 1, 3, 0, .null, []), (.iaload, 1, 0, 0, .null, []), (.invokestatic 73, 3, 105, 3, .null, []), (.ifCond .eq 14, 3, 46, 0, .null, []), (.iconst 1, 1, 0, 0, .int 1, []), (.aload_n 0, 1, 0, 0, .null, []), (.getfield 37, 3, 7, 20, .null, []), (.iload_n 3, 1, 3, 0, .null, []), (.iaload, 1, 0, 0, .null, []), (.ishl, 1, 0, 0, .null, []), (.goto 4, 3, 47, 0, .null, [])]
abbrev kb_R_lockedOn_46 : List vx_I := [(.iconst 0, 1, 0, 0, .int 0, [])]
abbrev kb_R_lockedOn_47 : List vx_I := [(.ior, 1, 0, 0, .null, []), (.istore_n 2, 1, 2, 0, .null, []), (.iinc 3 1, 3, 3, 0, .int 1, []), (.goto (-45), 3, 7, 0, .null, [])]
abbrev kb_R_lockedOn_55 : List vx_I := [(.iload_n 2, 1, 2, 0, .null, []), (.ireturn, 1, 0, 0, .null, [])]
def tb_R_lockedOn : List (Nat × List vx_I) := [(0, kb_R_lockedOn_0), (7, kb_R_lockedOn_7), (46, kb_R_lockedOn_46), (47, kb_R_lockedOn_47), (55, kb_R_lockedOn_55)]
theorem bk_R_lockedOn_0 : vx_bk tb_R_lockedOn 0 = kb_R_lockedOn_0 := rfl
theorem bk_R_lockedOn_7 : vx_bk tb_R_lockedOn 7 = kb_R_lockedOn_7 := rfl
theorem bk_R_lockedOn_46 : vx_bk tb_R_lockedOn 46 = kb_R_lockedOn_46 := rfl
theorem bk_R_lockedOn_47 : vx_bk tb_R_lockedOn 47 = kb_R_lockedOn_47 := rfl
theorem bk_R_lockedOn_55 : vx_bk tb_R_lockedOn 55 = kb_R_lockedOn_55 := rfl
abbrev m_R_lockedOn : Nat := 132
set_option maxRecDepth 100000 in
theorem ck_R_lockedOn : vx_ckM prog_9_method_28_code 7 4 1 false (some .int) tb_R_lockedOn = true := by decide +kernel
theorem ok_R_lockedOn {As : List Value} {sz : Nat} {h : vx_H} {P : Option Value → vx_H → Prop} (L0 : vx_L) (hlen : (vx_ar As).length ≤ 4) (hL0 : vx_ar As ++ List.replicate (4 - (vx_ar As).length) none = L0)
    (body : ∀ (lim z : vx_Z) X, vx_cl0 none lim tb_R_lockedOn (fun r z' h' => z' = z ∧ P r h') X → X 0 L0 [] z h) : vx_Ok m_R_lockedOn As sz h P :=
  vx_ok0 (M := (⟨"VoteWallsModel", "lockedOn", "(I)I"⟩, prog_9_method_28_code, 4, (some .int), 1, 0, 0, 1, 0)) rfl (ow := 7) rfl ck_R_lockedOn rfl hlen hL0 body
abbrev kb_R_strikingOn_0 : List vx_I := [(.aload_n 0, 1, 0, 0, .null, []), (.getfield 167, 3, 7, 28, .null, []), (.istore_n 2, 1, 2, 0, .null, []), (.iconst 0, 1, 0, 0, .int 0, []), (.istore_n 3, 1, 3, 0, .null, [])]
abbrev kb_R_strikingOn_7 : List vx_I := [(.iload_n 3, 1, 3, 0, .null, []), (.aload_n 0, 1, 0, 0, .null, []), (.getfield 126, 3, 7, 23, .null, []), (.if_icmp .ge 43, 3, 55, 0, .null, []), (.iload_n 2, 1, 2, 0, .null, []), (.iload_n 1, 1, 1, 0, .null, []), (.aload_n 0, 1, 0, 0, .null, []), (.getfield 49, 3, 7, 25, .null, []), (.iload_n 3, 1, 3, 0, .null, []), (.iaload, 1, 0, 0, .null, []), (.aload_n 0, 1, 0, 0, .null, []), (.getfield 52, 3, 7, 26, .null, []), (.iload_n 3, 1, 3, 0, .null, []), (.iaload, 1, 0, 0, .null, []), (.invokestatic 73, 3, 105, 3, .null, []), (.ifCond .eq 14, 3, 46, 0, .null, []), (.iconst 1, 1, 0, 0, .int 1, []), (.aload_n 0, 1, 0, 0, .null, []), (.getfield 46, 3, 7, 24, .null, []), (.iload_n 3, 1, 3, 0, .null, []), (.iaload, 1, 0, 0, .null, []), (.ishl, 1, 0, 0, .null, []), (.goto 4, 3, 47, 0, .null, [])]
abbrev kb_R_strikingOn_46 : List vx_I := [(.iconst 0, 1, 0, 0, .int 0, [])]
abbrev kb_R_strikingOn_47 : List vx_I := [(.ior, 1, 0, 0, .null, []), (.istore_n 2, 1, 2, 0, .null, []), (.iinc 3 1, 3, 3, 0, .int 1, []), (.goto (-45), 3, 7, 0, .null, [])]
abbrev kb_R_strikingOn_55 : List vx_I := [(.iload_n 2, 1, 2, 0, .null, []), (.ireturn, 1, 0, 0, .null, [])]
def tb_R_strikingOn : List (Nat × List vx_I) := [(0, kb_R_strikingOn_0), (7, kb_R_strikingOn_7), (46, kb_R_strikingOn_46), (47, kb_R_strikingOn_47), (55, kb_R_strikingOn_55)]
theorem bk_R_strikingOn_0 : vx_bk tb_R_strikingOn 0 = kb_R_strikingOn_0 := rfl
theorem bk_R_strikingOn_7 : vx_bk tb_R_strikingOn 7 = kb_R_strikingOn_7 := rfl
theorem bk_R_strikingOn_46 : vx_bk tb_R_strikingOn 46 = kb_R_strikingOn_46 := rfl
theorem bk_R_strikingOn_47 : vx_bk tb_R_strikingOn 47 = kb_R_strikingOn_47 := rfl
theorem bk_R_strikingOn_55 : vx_bk tb_R_strikingOn 55 = kb_R_strikingOn_55 := rfl
abbrev m_R_strikingOn : Nat := 133
set_option maxRecDepth 100000 in
theorem ck_R_strikingOn : vx_ckM prog_9_method_29_code 7 4 1 false (some .int) tb_R_strikingOn = true := by decide +kernel
theorem ok_R_strikingOn {As : List Value} {sz : Nat} {h : vx_H} {P : Option Value → vx_H → Prop} (L0 : vx_L) (hlen : (vx_ar As).length ≤ 4) (hL0 : vx_ar As ++ List.replicate (4 - (vx_ar As).length) none = L0)
    (body : ∀ (lim z : vx_Z) X, vx_cl0 none lim tb_R_strikingOn (fun r z' h' => z' = z ∧ P r h') X → X 0 L0 [] z h) : vx_Ok m_R_strikingOn As sz h P :=
  vx_ok0 (M := (⟨"VoteWallsModel", "strikingOn", "(I)I"⟩, prog_9_method_29_code, 4, (some .int), 1, 0, 0, 1, 0)) rfl (ow := 7) rfl ck_R_strikingOn rfl hlen hL0 body
abbrev kb_R_push_0 : List vx_I := [(.aload_n 0, 1, 0, 0, .null, []), (.iload_n 1, 1, 1, 0, .null, []), (.iload_n 2, 1, 2, 0, .null, []), (.invokevirtual 173, 3, 135, 2, .null, [(0, 0), (0, 0), (0, 0), (0, 0), (0, 0), (0, 0), (0, 0)]), (.istore_n 3, 1, 3, 0, .null, []), (.aload_n 0, 1, 0, 0, .null, []), (.iload_n 1, 1, 1, 0, .null, []), (.iconst 1, 1, 0, 0, .int 1, []), (.iadd, 1, 0, 0, .null, []), (.iload_n 2, 1, 2, 0, .null, []), (.invokevirtual 173, 3, 135, 2, .null, [(0, 0), (0, 0), (0, 0), (0, 0), (0, 0), (0, 0), (0, 0)]), (.istore 4, 2, 4, 0, .null, []), (.iload_n 3, 1, 3, 0, .null, []), (.iload 4, 2, 4, 0, .null, []), (.if_icmp .le 36, 3, 56, 0, .null, []), (.aload_n 0, 1, 0, 0, .null, []), (.getfield 55, 3, 7, 29, .null, []), (.iload_n 1, 1, 1, 0, .null, []), (.iaload, 1, 0, 0, .null, []), (.iconst 1, 1, 0, 0, .int 1, []), (.iadd, 1, 0, 0, .null, []), (.aload_n 0, 1, 0, 0, .null, []), (.iload_n 1, 1, 1, 0, .null, []), (.iconst 2, 1, 0, 0, .int 2, []), (.iadd, 1, 0, 0, .null, []), (.invokevirtual 177, 3, 137, 1, .null, [(0, 0), (0, 0), (0, 0), (0, 0), (0, 0), (0, 0), (0, 0)]), (.if_icmp .ge 18, 3, 56, 0, .null, []), (.aload_n 0, 1, 0, 0, .null, []), (.getfield 55, 3, 7, 29, .null, []), (.iload_n 1, 1, 1, 0, .null, []), (.dup2, 1, 0, 0, .null, []), (.iaload, 1, 0, 0, .null, []), (.iconst 1, 1, 0, 0, .int 1, []), (.iadd, 1, 0, 0, .null, []), (.iastore, 1, 0, 0, .null, []), (.aload_n 0, 1, 0, 0, .null, []), (.iconst 1, 1, 0, 0, .int 1, []), (.putfield 180, 3, 7, 30, .long 0, [])]
abbrev kb_R_push_56 : List vx_I := [(.iload 4, 2, 4, 0, .null, []), (.iload_n 3, 1, 3, 0, .null, []), (.if_icmp .le 34, 3, 93, 0, .null, []), (.aload_n 0, 1, 0, 0, .null, []), (.getfield 55, 3, 7, 29, .null, []), (.iload_n 1, 1, 1, 0, .null, []), (.iaload, 1, 0, 0, .null, []), (.iconst 1, 1, 0, 0, .int 1, []), (.isub, 1, 0, 0, .null, []), (.aload_n 0, 1, 0, 0, .null, []), (.iload_n 1, 1, 1, 0, .null, []), (.invokevirtual 177, 3, 137, 1, .null, [(0, 0), (0, 0), (0, 0), (0, 0), (0, 0), (0, 0), (0, 0)]), (.if_icmp .le 18, 3, 93, 0, .null, []), (.aload_n 0, 1, 0, 0, .null, []), (.getfield 55, 3, 7, 29, .null, []), (.iload_n 1, 1, 1, 0, .null, []), (.dup2, 1, 0, 0, .null, []), (.iaload, 1, 0, 0, .null, []), (.iconst 1, 1, 0, 0, .int 1, []), (.isub, 1, 0, 0, .null, []), (.iastore, 1, 0, 0, .null, []), (.aload_n 0, 1, 0, 0, .null, []), (.iconst 1, 1, 0, 0, .int 1, []), (.putfield 180, 3, 7, 30, .long 0, [])]
abbrev kb_R_push_93 : List vx_I := [(.return_, 1, 0, 0, .null, [])]
def tb_R_push : List (Nat × List vx_I) := [(0, kb_R_push_0), (56, kb_R_push_56), (93, kb_R_push_93)]
theorem bk_R_push_0 : vx_bk tb_R_push 0 = kb_R_push_0 := rfl
theorem bk_R_push_56 : vx_bk tb_R_push 56 = kb_R_push_56 := rfl
theorem bk_R_push_93 : vx_bk tb_R_push 93 = kb_R_push_93 := rfl
abbrev m_R_push : Nat := 134
set_option maxRecDepth 100000 in
theorem ck_R_push : vx_ckM prog_9_method_33_code 7 5 2 false none tb_R_push = true := by decide +kernel
theorem ok_R_push {As : List Value} {sz : Nat} {h : vx_H} {P : Option Value → vx_H → Prop} (L0 : vx_L) (hlen : (vx_ar As).length ≤ 5) (hL0 : vx_ar As ++ List.replicate (5 - (vx_ar As).length) none = L0)
    (body : ∀ (lim z : vx_Z) X, vx_cl0 none lim tb_R_push (fun r z' h' => z' = z ∧ P r h') X → X 0 L0 [] z h) : vx_Ok m_R_push As sz h P :=
  vx_ok0 (M := (⟨"VoteWallsModel", "push", "(II)V"⟩, prog_9_method_33_code, 5, none, 2, 0, 0, 2, 0)) rfl (ow := 7) rfl ck_R_push rfl hlen hL0 body
abbrev kb_R_votesIn_0 : List vx_I := [(.iconst 0, 1, 0, 0, .int 0, []), (.istore_n 3, 1, 3, 0, .null, []), (.iconst 0, 1, 0, 0, .int 0, []), (.istore 4, 2, 4, 0, .null, [])]
abbrev kb_R_votesIn_5 : List vx_I := [(.iload 4, 2, 4, 0, .null, []), (.aload_n 0, 1, 0, 0, .null, []), (.getfield 80, 3, 7, 7, .null, []), (.if_icmp .ge 41, 3, 52, 0, .null, []), (.iload_n 3, 1, 3, 0, .null, []), (.iload_n 2, 1, 2, 0, .null, []), (.iload 4, 2, 4, 0, .null, []), (.ishr, 1, 0, 0, .null, []), (.iconst 1, 1, 0, 0, .int 1, []), (.iand, 1, 0, 0, .null, []), (.ifCond .ne 22, 3, 43, 0, .null, []), (.aload_n 0, 1, 0, 0, .null, []), (.iload 4, 2, 4, 0, .null, []), (.invokevirtual 170, 3, 136, 1, .null, [(0, 0), (0, 0), (0, 0), (0, 0), (0, 0), (0, 0), (0, 0)]), (.iload_n 1, 1, 1, 0, .null, []), (.if_icmp .ne 12, 3, 43, 0, .null, []), (.aload_n 0, 1, 0, 0, .null, []), (.iload 4, 2, 4, 0, .null, []), (.invokevirtual 148, 3, 117, 1, .null, [(0, 0), (0, 0), (0, 0), (0, 0), (0, 0), (0, 0), (0, 0)]), (.goto 4, 3, 44, 0, .null, [])]
abbrev kb_R_votesIn_43 : List vx_I := [(.iconst 0, 1, 0, 0, .int 0, [])]
abbrev kb_R_votesIn_44 : List vx_I := [(.iadd, 1, 0, 0, .null, []), (.istore_n 3, 1, 3, 0, .null, []), (.iinc 4 1, 3, 4, 0, .int 1, []), (.goto (-44), 3, 5, 0, .null, [])]
abbrev kb_R_votesIn_52 : List vx_I := [(.iload_n 3, 1, 3, 0, .null, []), (.ireturn, 1, 0, 0, .null, [])]
def tb_R_votesIn : List (Nat × List vx_I) := [(0, kb_R_votesIn_0), (5, kb_R_votesIn_5), (43, kb_R_votesIn_43), (44, kb_R_votesIn_44), (52, kb_R_votesIn_52)]
theorem bk_R_votesIn_0 : vx_bk tb_R_votesIn 0 = kb_R_votesIn_0 := rfl
theorem bk_R_votesIn_5 : vx_bk tb_R_votesIn 5 = kb_R_votesIn_5 := rfl
theorem bk_R_votesIn_43 : vx_bk tb_R_votesIn 43 = kb_R_votesIn_43 := rfl
theorem bk_R_votesIn_44 : vx_bk tb_R_votesIn 44 = kb_R_votesIn_44 := rfl
theorem bk_R_votesIn_52 : vx_bk tb_R_votesIn 52 = kb_R_votesIn_52 := rfl
abbrev m_R_votesIn : Nat := 135
set_option maxRecDepth 100000 in
theorem ck_R_votesIn : vx_ckM prog_9_method_32_code 7 5 1 false (some .int) tb_R_votesIn = true := by decide +kernel
theorem ok_R_votesIn {As : List Value} {sz : Nat} {h : vx_H} {P : Option Value → vx_H → Prop} (L0 : vx_L) (hlen : (vx_ar As).length ≤ 5) (hL0 : vx_ar As ++ List.replicate (5 - (vx_ar As).length) none = L0)
    (body : ∀ (lim z : vx_Z) X, vx_cl0 none lim tb_R_votesIn (fun r z' h' => z' = z ∧ P r h') X → X 0 L0 [] z h) : vx_Ok m_R_votesIn As sz h P :=
  vx_ok0 (M := (⟨"VoteWallsModel", "votesIn", "(II)I"⟩, prog_9_method_32_code, 5, (some .int), 1, 0, 0, 2, 0)) rfl (ow := 7) rfl ck_R_votesIn rfl hlen hL0 body
abbrev kb_R_cellNow_0 : List vx_I := [(.iconst 0, 1, 0, 0, .int 0, []), (.istore_n 2, 1, 2, 0, .null, [])]
abbrev kb_R_cellNow_2 : List vx_I := [(.iload_n 2, 1, 2, 0, .null, []), (.aload_n 0, 1, 0, 0, .null, []), (.getfield 77, 3, 7, 6, .null, []), (.if_icmp .ge 24, 3, 31, 0, .null, []), (.aload_n 0, 1, 0, 0, .null, []), (.getfield 55, 3, 7, 29, .null, []), (.iload_n 2, 1, 2, 0, .null, []), (.iaload, 1, 0, 0, .null, []), (.aload_n 0, 1, 0, 0, .null, []), (.getfield 25, 3, 7, 10, .null, []), (.iload_n 1, 1, 1, 0, .null, []), (.iaload, 1, 0, 0, .null, []), (.if_icmp .gt 9, 3, 31, 0, .null, []), (.iinc 2 1, 3, 2, 0, .int 1, []), (.goto (-26), 3, 2, 0, .null, [])]
abbrev kb_R_cellNow_31 : List vx_I := [(.iload_n 2, 1, 2, 0, .null, []), (.ireturn, 1, 0, 0, .null, [])]
def tb_R_cellNow : List (Nat × List vx_I) := [(0, kb_R_cellNow_0), (2, kb_R_cellNow_2), (31, kb_R_cellNow_31)]
theorem bk_R_cellNow_0 : vx_bk tb_R_cellNow 0 = kb_R_cellNow_0 := rfl
theorem bk_R_cellNow_2 : vx_bk tb_R_cellNow 2 = kb_R_cellNow_2 := rfl
theorem bk_R_cellNow_31 : vx_bk tb_R_cellNow 31 = kb_R_cellNow_31 := rfl
abbrev m_R_cellNow : Nat := 136
set_option maxRecDepth 100000 in
theorem ck_R_cellNow : vx_ckM prog_9_method_31_code 7 3 0 false (some .int) tb_R_cellNow = true := by decide +kernel
theorem ok_R_cellNow {As : List Value} {sz : Nat} {h : vx_H} {P : Option Value → vx_H → Prop} (L0 : vx_L) (hlen : (vx_ar As).length ≤ 3) (hL0 : vx_ar As ++ List.replicate (3 - (vx_ar As).length) none = L0)
    (body : ∀ (lim z : vx_Z) X, vx_cl0 none lim tb_R_cellNow (fun r z' h' => z' = z ∧ P r h') X → X 0 L0 [] z h) : vx_Ok m_R_cellNow As sz h P :=
  vx_ok0 (M := (⟨"VoteWallsModel", "cellNow", "(I)I"⟩, prog_9_method_31_code, 3, (some .int), 0, 0, 0, 1, 0)) rfl (ow := 7) rfl ck_R_cellNow rfl hlen hL0 body
abbrev kb_R_edge_0 : List vx_I := [(.iload_n 1, 1, 1, 0, .null, []), (.ifCond .ne 7, 3, 8, 0, .null, []), (.iconst 0, 1, 0, 0, .int 0, []), (.goto 26, 3, 31, 0, .null, [])]
abbrev kb_R_edge_8 : List vx_I := [(.iload_n 1, 1, 1, 0, .null, []), (.aload_n 0, 1, 0, 0, .null, []), (.getfield 77, 3, 7, 6, .null, []), (.if_icmp .le 10, 3, 23, 0, .null, []), (.aload_n 0, 1, 0, 0, .null, []), (.getfield 111, 3, 7, 5, .null, []), (.goto 11, 3, 31, 0, .null, [])]
abbrev kb_R_edge_23 : List vx_I := [(.aload_n 0, 1, 0, 0, .null, []), (.getfield 55, 3, 7, 29, .null, []), (.iload_n 1, 1, 1, 0, .null, []), (.iconst 1, 1, 0, 0, .int 1, []), (.isub, 1, 0, 0, .null, []), (.iaload, 1, 0, 0, .null, [])]
abbrev kb_R_edge_31 : List vx_I := [(.ireturn, 1, 0, 0, .null, [])]
def tb_R_edge : List (Nat × List vx_I) := [(0, kb_R_edge_0), (8, kb_R_edge_8), (23, kb_R_edge_23), (31, kb_R_edge_31)]
theorem bk_R_edge_0 : vx_bk tb_R_edge 0 = kb_R_edge_0 := rfl
theorem bk_R_edge_8 : vx_bk tb_R_edge 8 = kb_R_edge_8 := rfl
theorem bk_R_edge_23 : vx_bk tb_R_edge 23 = kb_R_edge_23 := rfl
theorem bk_R_edge_31 : vx_bk tb_R_edge 31 = kb_R_edge_31 := rfl
abbrev m_R_edge : Nat := 137
set_option maxRecDepth 100000 in
theorem ck_R_edge : vx_ckM prog_9_method_30_code 7 2 0 false (some .int) tb_R_edge = true := by decide +kernel
theorem ok_R_edge {As : List Value} {sz : Nat} {h : vx_H} {P : Option Value → vx_H → Prop} (L0 : vx_L) (hlen : (vx_ar As).length ≤ 2) (hL0 : vx_ar As ++ List.replicate (2 - (vx_ar As).length) none = L0)
    (body : ∀ (lim z : vx_Z) X, vx_cl0 none lim tb_R_edge (fun r z' h' => z' = z ∧ P r h') X → X 0 L0 [] z h) : vx_Ok m_R_edge As sz h P :=
  vx_ok0 (M := (⟨"VoteWallsModel", "edge", "(I)I"⟩, prog_9_method_30_code, 2, (some .int), 0, 0, 0, 1, 0)) rfl (ow := 7) rfl ck_R_edge rfl hlen hL0 body
abbrev kb_R_cellOf_0 : List vx_I := [(.aload_n 0, 1, 0, 0, .null, []), (.iload_n 1, 1, 1, 0, .null, []), (.invokevirtual 145, 3, 116, 1, .null, [(0, 0), (0, 0), (0, 0), (0, 0), (0, 0), (0, 0), (0, 0)]), (.ifCond .ne 5, 3, 10, 0, .null, []), (.iconst (-1), 1, 0, 0, .int (-1), []), (.ireturn, 1, 0, 0, .null, [])]
abbrev kb_R_cellOf_10 : List vx_I := [(.iload_n 2, 1, 2, 0, .null, []), (.invokestatic 201, 3, 128, 1, .null, []), (.ifCond .ne 6, 3, 20, 0, .null, []), (.bipush (-2), 2, 0, 0, .int (-2), []), (.ireturn, 1, 0, 0, .null, [])]
abbrev kb_R_cellOf_20 : List vx_I := [(.aload_n 0, 1, 0, 0, .null, []), (.iload_n 2, 1, 2, 0, .null, []), (.invokevirtual 204, 3, 129, 1, .null, [(0, 0), (0, 0), (0, 0), (0, 0), (0, 0), (0, 0), (0, 0)]), (.aload_n 0, 1, 0, 0, .null, []), (.iload_n 1, 1, 1, 0, .null, []), (.invokevirtual 170, 3, 136, 1, .null, [(0, 0), (0, 0), (0, 0), (0, 0), (0, 0), (0, 0), (0, 0)]), (.ireturn, 1, 0, 0, .null, [])]
def tb_R_cellOf : List (Nat × List vx_I) := [(0, kb_R_cellOf_0), (10, kb_R_cellOf_10), (20, kb_R_cellOf_20)]
theorem bk_R_cellOf_0 : vx_bk tb_R_cellOf 0 = kb_R_cellOf_0 := rfl
theorem bk_R_cellOf_10 : vx_bk tb_R_cellOf 10 = kb_R_cellOf_10 := rfl
theorem bk_R_cellOf_20 : vx_bk tb_R_cellOf 20 = kb_R_cellOf_20 := rfl
abbrev m_R_cellOf : Nat := 138
set_option maxRecDepth 100000 in
theorem ck_R_cellOf : vx_ckM prog_9_method_39_code 7 3 5 false (some .int) tb_R_cellOf = true := by decide +kernel
theorem ok_R_cellOf {As : List Value} {sz : Nat} {h : vx_H} {P : Option Value → vx_H → Prop} (L0 : vx_L) (hlen : (vx_ar As).length ≤ 3) (hL0 : vx_ar As ++ List.replicate (3 - (vx_ar As).length) none = L0)
    (body : ∀ (lim z : vx_Z) X, vx_cl0 none lim tb_R_cellOf (fun r z' h' => z' = z ∧ P r h') X → X 0 L0 [] z h) : vx_Ok m_R_cellOf As sz h P :=
  vx_ok0 (M := (⟨"VoteWallsModel", "cellOf", "(II)I"⟩, prog_9_method_39_code, 3, (some .int), 5, 0, 0, 2, 0)) rfl (ow := 7) rfl ck_R_cellOf rfl hlen hL0 body
abbrev kb_R_wide_0 : List vx_I := [(.aload_n 0, 1, 0, 0, .null, []), (.iload_n 1, 1, 1, 0, .null, []), (.invokevirtual 207, 3, 140, 1, .null, [(0, 0), (0, 0), (0, 0), (0, 0), (0, 0), (0, 0), (0, 0)]), (.ifCond .ne 5, 3, 10, 0, .null, []), (.iconst (-1), 1, 0, 0, .int (-1), []), (.ireturn, 1, 0, 0, .null, [])]
abbrev kb_R_wide_10 : List vx_I := [(.iload_n 2, 1, 2, 0, .null, []), (.invokestatic 201, 3, 128, 1, .null, []), (.ifCond .ne 6, 3, 20, 0, .null, []), (.bipush (-2), 2, 0, 0, .int (-2), []), (.ireturn, 1, 0, 0, .null, [])]
abbrev kb_R_wide_20 : List vx_I := [(.aload_n 0, 1, 0, 0, .null, []), (.iload_n 2, 1, 2, 0, .null, []), (.invokevirtual 204, 3, 129, 1, .null, [(0, 0), (0, 0), (0, 0), (0, 0), (0, 0), (0, 0), (0, 0)]), (.aload_n 0, 1, 0, 0, .null, []), (.iload_n 1, 1, 1, 0, .null, []), (.invokevirtual 210, 3, 141, 1, .null, [(0, 0), (0, 0), (0, 0), (0, 0), (0, 0), (0, 0), (0, 0)]), (.ireturn, 1, 0, 0, .null, [])]
def tb_R_wide : List (Nat × List vx_I) := [(0, kb_R_wide_0), (10, kb_R_wide_10), (20, kb_R_wide_20)]
theorem bk_R_wide_0 : vx_bk tb_R_wide 0 = kb_R_wide_0 := rfl
theorem bk_R_wide_10 : vx_bk tb_R_wide 10 = kb_R_wide_10 := rfl
theorem bk_R_wide_20 : vx_bk tb_R_wide 20 = kb_R_wide_20 := rfl
abbrev m_R_wide : Nat := 139
set_option maxRecDepth 100000 in
theorem ck_R_wide : vx_ckM prog_9_method_42_code 7 3 5 false (some .int) tb_R_wide = true := by decide +kernel
theorem ok_R_wide {As : List Value} {sz : Nat} {h : vx_H} {P : Option Value → vx_H → Prop} (L0 : vx_L) (hlen : (vx_ar As).length ≤ 3) (hL0 : vx_ar As ++ List.replicate (3 - (vx_ar As).length) none = L0)
    (body : ∀ (lim z : vx_Z) X, vx_cl0 none lim tb_R_wide (fun r z' h' => z' = z ∧ P r h') X → X 0 L0 [] z h) : vx_Ok m_R_wide As sz h P :=
  vx_ok0 (M := (⟨"VoteWallsModel", "wide", "(II)I"⟩, prog_9_method_42_code, 3, (some .int), 5, 0, 0, 2, 0)) rfl (ow := 7) rfl ck_R_wide rfl hlen hL0 body
abbrev kb_R_isCell_0 : List vx_I := [(.aload_n 0, 1, 0, 0, .null, []), (.invokevirtual 151, 3, 119, 0, .null, [(0, 0), (0, 0), (0, 0), (0, 0), (0, 0), (0, 0), (0, 0)]), (.ifCond .eq 19, 3, 23, 0, .null, []), (.iload_n 1, 1, 1, 0, .null, []), (.iconst 0, 1, 0, 0, .int 0, []), (.aload_n 0, 1, 0, 0, .null, []), (.getfield 77, 3, 7, 6, .null, []), (.invokestatic 73, 3, 105, 3, .null, []), (.ifCond .eq 7, 3, 23, 0, .null, []), (.iconst 1, 1, 0, 0, .int 1, []), (.goto 4, 3, 24, 0, .null, [])]
abbrev kb_R_isCell_23 : List vx_I := [(.iconst 0, 1, 0, 0, .int 0, [])]
abbrev kb_R_isCell_24 : List vx_I := [(.ireturn, 1, 1, 0, .null, [])]
def tb_R_isCell : List (Nat × List vx_I) := [(0, kb_R_isCell_0), (23, kb_R_isCell_23), (24, kb_R_isCell_24)]
theorem bk_R_isCell_0 : vx_bk tb_R_isCell 0 = kb_R_isCell_0 := rfl
theorem bk_R_isCell_23 : vx_bk tb_R_isCell 23 = kb_R_isCell_23 := rfl
theorem bk_R_isCell_24 : vx_bk tb_R_isCell 24 = kb_R_isCell_24 := rfl
abbrev m_R_isCell : Nat := 140
set_option maxRecDepth 100000 in
theorem ck_R_isCell : vx_ckM prog_9_method_40_code 7 2 1 false (some .boolean) tb_R_isCell = true := by decide +kernel
theorem ok_R_isCell {As : List Value} {sz : Nat} {h : vx_H} {P : Option Value → vx_H → Prop} (L0 : vx_L) (hlen : (vx_ar As).length ≤ 2) (hL0 : vx_ar As ++ List.replicate (2 - (vx_ar As).length) none = L0)
    (body : ∀ (lim z : vx_Z) X, vx_cl0 none lim tb_R_isCell (fun r z' h' => z' = z ∧ P r h') X → X 0 L0 [] z h) : vx_Ok m_R_isCell As sz h P :=
  vx_ok0 (M := (⟨"VoteWallsModel", "isCell", "(I)Z"⟩, prog_9_method_40_code, 2, (some .boolean), 1, 0, 0, 1, 0)) rfl (ow := 7) rfl ck_R_isCell rfl hlen hL0 body
abbrev kb_R_wideNow_0 : List vx_I := [(.aload_n 0, 1, 0, 0, .null, []), (.iload_n 1, 1, 1, 0, .null, []), (.iconst 1, 1, 0, 0, .int 1, []), (.iadd, 1, 0, 0, .null, []), (.invokevirtual 177, 3, 137, 1, .null, [(0, 0), (0, 0), (0, 0), (0, 0), (0, 0), (0, 0), (0, 0)]), (.aload_n 0, 1, 0, 0, .null, []), (.iload_n 1, 1, 1, 0, .null, []), (.invokevirtual 177, 3, 137, 1, .null, [(0, 0), (0, 0), (0, 0), (0, 0), (0, 0), (0, 0), (0, 0)]), (.isub, 1, 0, 0, .null, []), (.ireturn, 1, 0, 0, .null, [])]
def tb_R_wideNow : List (Nat × List vx_I) := [(0, kb_R_wideNow_0)]
theorem bk_R_wideNow_0 : vx_bk tb_R_wideNow 0 = kb_R_wideNow_0 := rfl
abbrev m_R_wideNow : Nat := 141
set_option maxRecDepth 100000 in
theorem ck_R_wideNow : vx_ckM prog_9_method_41_code 7 2 1 false (some .int) tb_R_wideNow = true := by decide +kernel
theorem ok_R_wideNow {As : List Value} {sz : Nat} {h : vx_H} {P : Option Value → vx_H → Prop} (L0 : vx_L) (hlen : (vx_ar As).length ≤ 2) (hL0 : vx_ar As ++ List.replicate (2 - (vx_ar As).length) none = L0)
    (body : ∀ (lim z : vx_Z) X, vx_cl0 none lim tb_R_wideNow (fun r z' h' => z' = z ∧ P r h') X → X 0 L0 [] z h) : vx_Ok m_R_wideNow As sz h P :=
  vx_ok0 (M := (⟨"VoteWallsModel", "wideNow", "(I)I"⟩, prog_9_method_41_code, 2, (some .int), 1, 0, 0, 1, 0)) rfl (ow := 7) rfl ck_R_wideNow rfl hlen hL0 body
abbrev kb_R_with_0 : List vx_I := [(.aload_n 0, 1, 0, 0, .null, []), (.iload_n 1, 1, 1, 0, .null, []), (.invokevirtual 145, 3, 116, 1, .null, [(0, 0), (0, 0), (0, 0), (0, 0), (0, 0), (0, 0), (0, 0)]), (.ifCond .ne 5, 3, 10, 0, .null, []), (.iconst (-1), 1, 0, 0, .int (-1), []), (.ireturn, 1, 0, 0, .null, [])]
abbrev kb_R_with_10 : List vx_I := [(.iload_n 2, 1, 2, 0, .null, []), (.invokestatic 201, 3, 128, 1, .null, []), (.ifCond .ne 6, 3, 20, 0, .null, []), (.bipush (-2), 2, 0, 0, .int (-2), []), (.ireturn, 1, 0, 0, .null, [])]
abbrev kb_R_with_20 : List vx_I := [(.aload_n 0, 1, 0, 0, .null, []), (.iload_n 2, 1, 2, 0, .null, []), (.invokevirtual 204, 3, 129, 1, .null, [(0, 0), (0, 0), (0, 0), (0, 0), (0, 0), (0, 0), (0, 0)]), (.iconst 0, 1, 0, 0, .int 0, []), (.istore_n 3, 1, 3, 0, .null, []), (.iconst 0, 1, 0, 0, .int 0, []), (.istore 4, 2, 4, 0, .null, [])]
abbrev kb_R_with_30 : List vx_I := [(.iload 4, 2, 4, 0, .null, []), (.aload_n 0, 1, 0, 0, .null, []), (.getfield 80, 3, 7, 7, .null, []), (.if_icmp .ge 34, 3, 70, 0, .null, []), (.iload_n 3, 1, 3, 0, .null, []), (.aload_n 0, 1, 0, 0, .null, []), (.iload 4, 2, 4, 0, .null, []), (.invokevirtual 170, 3, 136, 1, .null, [(0, 0), (0, 0), (0, 0), (0, 0), (0, 0), (0, 0), (0, 0)]), (.aload_n 0, 1, 0, 0, .null, []), (.iload_n 1, 1, 1, 0, .null, []), (.invokevirtual 170, 3, 136, 1, .null, [(0, 0), (0, 0), (0, 0), (0, 0), (0, 0), (0, 0), (0, 0)]), (.if_icmp .ne 10, 3, 61, 0, .null, []), (.iconst 1, 1, 0, 0, .int 1, []), (.iload 4, 2, 4, 0, .null, []), (.ishl, 1, 0, 0, .null, []), (.goto 4, 3, 62, 0, .null, [])]
abbrev kb_R_with_61 : List vx_I := [(.iconst 0, 1, 0, 0, .int 0, [])]
abbrev kb_R_with_62 : List vx_I := [(.ior, 1, 0, 0, .null, []), (.istore_n 3, 1, 3, 0, .null, []), (.iinc 4 1, 3, 4, 0, .int 1, []), (.goto (-37), 3, 30, 0, .null, [])]
abbrev kb_R_with_70 : List vx_I := [(.iload_n 3, 1, 3, 0, .null, []), (.ireturn, 1, 0, 0, .null, [])]
def tb_R_with : List (Nat × List vx_I) := [(0, kb_R_with_0), (10, kb_R_with_10), (20, kb_R_with_20), (30, kb_R_with_30), (61, kb_R_with_61), (62, kb_R_with_62), (70, kb_R_with_70)]
theorem bk_R_with_0 : vx_bk tb_R_with 0 = kb_R_with_0 := rfl
theorem bk_R_with_10 : vx_bk tb_R_with 10 = kb_R_with_10 := rfl
theorem bk_R_with_20 : vx_bk tb_R_with 20 = kb_R_with_20 := rfl
theorem bk_R_with_30 : vx_bk tb_R_with 30 = kb_R_with_30 := rfl
theorem bk_R_with_61 : vx_bk tb_R_with 61 = kb_R_with_61 := rfl
theorem bk_R_with_62 : vx_bk tb_R_with 62 = kb_R_with_62 := rfl
theorem bk_R_with_70 : vx_bk tb_R_with 70 = kb_R_with_70 := rfl
abbrev m_R_with : Nat := 142
set_option maxRecDepth 100000 in
theorem ck_R_with : vx_ckM prog_9_method_43_code 7 5 5 false (some .int) tb_R_with = true := by decide +kernel
theorem ok_R_with {As : List Value} {sz : Nat} {h : vx_H} {P : Option Value → vx_H → Prop} (L0 : vx_L) (hlen : (vx_ar As).length ≤ 5) (hL0 : vx_ar As ++ List.replicate (5 - (vx_ar As).length) none = L0)
    (body : ∀ (lim z : vx_Z) X, vx_cl0 none lim tb_R_with (fun r z' h' => z' = z ∧ P r h') X → X 0 L0 [] z h) : vx_Ok m_R_with As sz h P :=
  vx_ok0 (M := (⟨"VoteWallsModel", "with", "(II)I"⟩, prog_9_method_43_code, 5, (some .int), 5, 0, 0, 2, 0)) rfl (ow := 7) rfl ck_R_with rfl hlen hL0 body
abbrev kb_R_meet_0 : List vx_I := [(.aload_n 0, 1, 0, 0, .null, []), (.iload_n 1, 1, 1, 0, .null, []), (.invokevirtual 145, 3, 116, 1, .null, [(0, 0), (0, 0), (0, 0), (0, 0), (0, 0), (0, 0), (0, 0)]), (.ifCond .eq 20, 3, 25, 0, .null, []), (.aload_n 0, 1, 0, 0, .null, []), (.iload_n 2, 1, 2, 0, .null, []), (.invokevirtual 145, 3, 116, 1, .null, [(0, 0), (0, 0), (0, 0), (0, 0), (0, 0), (0, 0), (0, 0)]), (.ifCond .eq 12, 3, 25, 0, .null, []), (.aload_n 0, 1, 0, 0, .null, []), (.iload_n 1, 1, 1, 0, .null, []), (.iload_n 2, 1, 2, 0, .null, []), (.invokevirtual 213, 3, 144, 2, .null, [(0, 0), (0, 0), (0, 0), (0, 0), (0, 0), (0, 0), (0, 0)]), (.goto 4, 3, 26, 0, .null, [])]
abbrev kb_R_meet_25 : List vx_I := [(.iconst (-1), 1, 0, 0, .int (-1), [])]
abbrev kb_R_meet_26 : List vx_I := [(.ireturn, 1, 0, 0, .null, [])]
def tb_R_meet : List (Nat × List vx_I) := [(0, kb_R_meet_0), (25, kb_R_meet_25), (26, kb_R_meet_26)]
theorem bk_R_meet_0 : vx_bk tb_R_meet 0 = kb_R_meet_0 := rfl
theorem bk_R_meet_25 : vx_bk tb_R_meet 25 = kb_R_meet_25 := rfl
theorem bk_R_meet_26 : vx_bk tb_R_meet 26 = kb_R_meet_26 := rfl
abbrev m_R_meet : Nat := 143
set_option maxRecDepth 100000 in
theorem ck_R_meet : vx_ckM prog_9_method_45_code 7 3 5 false (some .int) tb_R_meet = true := by decide +kernel
theorem ok_R_meet {As : List Value} {sz : Nat} {h : vx_H} {P : Option Value → vx_H → Prop} (L0 : vx_L) (hlen : (vx_ar As).length ≤ 3) (hL0 : vx_ar As ++ List.replicate (3 - (vx_ar As).length) none = L0)
    (body : ∀ (lim z : vx_Z) X, vx_cl0 none lim tb_R_meet (fun r z' h' => z' = z ∧ P r h') X → X 0 L0 [] z h) : vx_Ok m_R_meet As sz h P :=
  vx_ok0 (M := (⟨"VoteWallsModel", "meet", "(II)I"⟩, prog_9_method_45_code, 3, (some .int), 5, 0, 0, 2, 0)) rfl (ow := 7) rfl ck_R_meet rfl hlen hL0 body
abbrev kb_R_meetIn_0 : List vx_I := [(.aload_n 0, 1, 0, 0, .null, []), (.invokevirtual 194, 3, 130, 0, .null, [(0, 0), (0, 0), (0, 0), (0, 0), (0, 0), (0, 0), (0, 0)]), (.iconst 0, 1, 0, 0, .int 0, []), (.istore_n 3, 1, 3, 0, .null, [])]
abbrev kb_R_meetIn_6 : List vx_I := [(.iload_n 3, 1, 3, 0, .null, []), (.bipush 50, 2, 0, 0, .int 50, []), (.if_icmp .ge 29, 3, 38, 0, .null, []), (.aload_n 0, 1, 0, 0, .null, []), (.iload_n 3, 1, 3, 0, .null, []), (.invokevirtual 197, 3, 131, 1, .null, [(0, 0), (0, 0), (0, 0), (0, 0), (0, 0), (0, 0), (0, 0)]), (.aload_n 0, 1, 0, 0, .null, []), (.iload_n 1, 1, 1, 0, .null, []), (.invokevirtual 170, 3, 136, 1, .null, [(0, 0), (0, 0), (0, 0), (0, 0), (0, 0), (0, 0), (0, 0)]), (.aload_n 0, 1, 0, 0, .null, []), (.iload_n 2, 1, 2, 0, .null, []), (.invokevirtual 170, 3, 136, 1, .null, [(0, 0), (0, 0), (0, 0), (0, 0), (0, 0), (0, 0), (0, 0)]), (.if_icmp .ne 5, 3, 32, 0, .null, []), (.iload_n 3, 1, 3, 0, .null, []), (.ireturn, 1, 0, 0, .null, [])]
abbrev kb_R_meetIn_32 : List vx_I := [(.iinc 3 1, 3, 3, 0, .int 1, []), (.goto (-29), 3, 6, 0, .null, [])]
abbrev kb_R_meetIn_38 : List vx_I := [(.bipush (-9), 2, 0, 0, .int (-9), []), (.ireturn, 1, 0, 0, .null, [])]
def tb_R_meetIn : List (Nat × List vx_I) := [(0, kb_R_meetIn_0), (6, kb_R_meetIn_6), (32, kb_R_meetIn_32), (38, kb_R_meetIn_38)]
theorem bk_R_meetIn_0 : vx_bk tb_R_meetIn 0 = kb_R_meetIn_0 := rfl
theorem bk_R_meetIn_6 : vx_bk tb_R_meetIn 6 = kb_R_meetIn_6 := rfl
theorem bk_R_meetIn_32 : vx_bk tb_R_meetIn 32 = kb_R_meetIn_32 := rfl
theorem bk_R_meetIn_38 : vx_bk tb_R_meetIn 38 = kb_R_meetIn_38 := rfl
abbrev m_R_meetIn : Nat := 144
set_option maxRecDepth 100000 in
theorem ck_R_meetIn : vx_ckM prog_9_method_44_code 7 4 4 false (some .int) tb_R_meetIn = true := by decide +kernel
theorem ok_R_meetIn {As : List Value} {sz : Nat} {h : vx_H} {P : Option Value → vx_H → Prop} (L0 : vx_L) (hlen : (vx_ar As).length ≤ 4) (hL0 : vx_ar As ++ List.replicate (4 - (vx_ar As).length) none = L0)
    (body : ∀ (lim z : vx_Z) X, vx_cl0 none lim tb_R_meetIn (fun r z' h' => z' = z ∧ P r h') X → X 0 L0 [] z h) : vx_Ok m_R_meetIn As sz h P :=
  vx_ok0 (M := (⟨"VoteWallsModel", "meetIn", "(II)I"⟩, prog_9_method_44_code, 4, (some .int), 4, 0, 0, 2, 0)) rfl (ow := 7) rfl ck_R_meetIn rfl hlen hL0 body
abbrev kb_R_rests_0 : List vx_I := [(.aload_n 0, 1, 0, 0, .null, []), (.invokevirtual 151, 3, 119, 0, .null, [(0, 0), (0, 0), (0, 0), (0, 0), (0, 0), (0, 0), (0, 0)]), (.ifCond .ne 6, 3, 10, 0, .null, []), (.bipush (-3), 2, 0, 0, .int (-3), []), (.ireturn, 1, 0, 0, .null, [])]
abbrev kb_R_rests_10 : List vx_I := [(.aload_n 0, 1, 0, 0, .null, []), (.invokevirtual 194, 3, 130, 0, .null, [(0, 0), (0, 0), (0, 0), (0, 0), (0, 0), (0, 0), (0, 0)]), (.iconst 0, 1, 0, 0, .int 0, []), (.istore_n 1, 1, 1, 0, .null, []), (.iconst 0, 1, 0, 0, .int 0, []), (.istore_n 2, 1, 2, 0, .null, [])]
abbrev kb_R_rests_18 : List vx_I := [(.iload_n 2, 1, 2, 0, .null, []), (.bipush 50, 2, 0, 0, .int 50, []), (.if_icmp .ge 29, 3, 50, 0, .null, []), (.aload_n 0, 1, 0, 0, .null, []), (.iload_n 2, 1, 2, 0, .null, []), (.invokevirtual 197, 3, 131, 1, .null, [(0, 0), (0, 0), (0, 0), (0, 0), (0, 0), (0, 0), (0, 0)]), (.aload_n 0, 1, 0, 0, .null, []), (.getfield 180, 3, 7, 30, .null, []), (.ifCond .eq 9, 3, 42, 0, .null, []), (.iload_n 2, 1, 2, 0, .null, []), (.iconst 1, 1, 0, 0, .int 1, []), (.iadd, 1, 0, 0, .null, []), (.goto 4, 3, 43, 0, .null, [])]
abbrev kb_R_rests_42 : List vx_I := [(.iload_n 1, 1, 1, 0, .null, [])]
abbrev kb_R_rests_43 : List vx_I := [(.istore_n 1, 1, 1, 0, .null, []), (.iinc 2 1, 3, 2, 0, .int 1, []), (.goto (-29), 3, 18, 0, .null, [])]
abbrev kb_R_rests_50 : List vx_I := [(.iload_n 1, 1, 1, 0, .null, []), (.bipush 50, 2, 0, 0, .int 50, []), (.if_icmp .ne 8, 3, 61, 0, .null, []), (.bipush (-9), 2, 0, 0, .int (-9), []), (.goto 4, 3, 62, 0, .null, [])]
abbrev kb_R_rests_61 : List vx_I := [(.iload_n 1, 1, 1, 0, .null, [])]
abbrev kb_R_rests_62 : List vx_I := [(.ireturn, 1, 0, 0, .null, [])]
def tb_R_rests : List (Nat × List vx_I) := [(0, kb_R_rests_0), (10, kb_R_rests_10), (18, kb_R_rests_18), (42, kb_R_rests_42), (43, kb_R_rests_43), (50, kb_R_rests_50), (61, kb_R_rests_61), (62, kb_R_rests_62)]
theorem bk_R_rests_0 : vx_bk tb_R_rests 0 = kb_R_rests_0 := rfl
theorem bk_R_rests_10 : vx_bk tb_R_rests 10 = kb_R_rests_10 := rfl
theorem bk_R_rests_18 : vx_bk tb_R_rests 18 = kb_R_rests_18 := rfl
theorem bk_R_rests_42 : vx_bk tb_R_rests 42 = kb_R_rests_42 := rfl
theorem bk_R_rests_43 : vx_bk tb_R_rests 43 = kb_R_rests_43 := rfl
theorem bk_R_rests_50 : vx_bk tb_R_rests 50 = kb_R_rests_50 := rfl
theorem bk_R_rests_61 : vx_bk tb_R_rests 61 = kb_R_rests_61 := rfl
theorem bk_R_rests_62 : vx_bk tb_R_rests 62 = kb_R_rests_62 := rfl
abbrev m_R_rests : Nat := 145
set_option maxRecDepth 100000 in
theorem ck_R_rests : vx_ckM prog_9_method_46_code 7 3 4 false (some .int) tb_R_rests = true := by decide +kernel
theorem ok_R_rests {As : List Value} {sz : Nat} {h : vx_H} {P : Option Value → vx_H → Prop} (L0 : vx_L) (hlen : (vx_ar As).length ≤ 3) (hL0 : vx_ar As ++ List.replicate (3 - (vx_ar As).length) none = L0)
    (body : ∀ (lim z : vx_Z) X, vx_cl0 none lim tb_R_rests (fun r z' h' => z' = z ∧ P r h') X → X 0 L0 [] z h) : vx_Ok m_R_rests As sz h P :=
  vx_ok0 (M := (⟨"VoteWallsModel", "rests", "()I"⟩, prog_9_method_46_code, 3, (some .int), 4, 0, 0, 0, 0)) rfl (ow := 7) rfl ck_R_rests rfl hlen hL0 body
abbrev kb_R_apart_0 : List vx_I := [(.aload_n 0, 1, 0, 0, .null, []), (.iload_n 1, 1, 1, 0, .null, []), (.iload_n 2, 1, 2, 0, .null, []), (.invokevirtual 216, 3, 147, 2, .null, [(0, 0), (0, 0), (0, 0), (0, 0), (0, 0), (0, 0), (0, 0)]), (.ifCond .ne 5, 3, 11, 0, .null, []), (.iconst (-1), 1, 0, 0, .int (-1), []), (.ireturn, 1, 0, 0, .null, [])]
abbrev kb_R_apart_11 : List vx_I := [(.bipush (-9), 2, 0, 0, .int (-9), []), (.istore_n 3, 1, 3, 0, .null, []), (.iconst 0, 1, 0, 0, .int 0, []), (.istore 4, 2, 4, 0, .null, [])]
abbrev kb_R_apart_17 : List vx_I := [(.iload 4, 2, 4, 0, .null, []), (.iconst 1, 1, 0, 0, .int 1, []), (.aload_n 0, 1, 0, 0, .null, []), (.getfield 77, 3, 7, 6, .null, []), (.ishl, 1, 0, 0, .null, []), (.if_icmp .ge 51, 3, 76, 0, .null, []), (.iload_n 3, 1, 3, 0, .null, []), (.bipush (-9), 2, 0, 0, .int (-9), []), (.if_icmp .eq 15, 3, 46, 0, .null, []), (.iload 4, 2, 4, 0, .null, []), (.invokestatic 219, 3, 148, 1, .null, []), (.iload_n 3, 1, 3, 0, .null, []), (.invokestatic 219, 3, 148, 1, .null, []), (.if_icmp .ge 27, 3, 70, 0, .null, [])]
abbrev kb_R_apart_46 : List vx_I := [(.aload_n 0, 1, 0, 0, .null, []), (.iload 4, 2, 4, 0, .null, []), (.putfield 164, 3, 7, 27, .int 0, []), (.aload_n 0, 1, 0, 0, .null, []), (.iload_n 1, 1, 1, 0, .null, []), (.iload_n 2, 1, 2, 0, .null, []), (.invokevirtual 213, 3, 144, 2, .null, [(0, 0), (0, 0), (0, 0), (0, 0), (0, 0), (0, 0), (0, 0)]), (.bipush (-9), 2, 0, 0, .int (-9), []), (.if_icmp .ne 8, 3, 68, 0, .null, []), (.iload 4, 2, 4, 0, .null, []), (.goto 4, 3, 69, 0, .null, [])]
abbrev kb_R_apart_68 : List vx_I := [(.iload_n 3, 1, 3, 0, .null, [])]
abbrev kb_R_apart_69 : List vx_I := [(.istore_n 3, 1, 3, 0, .null, [])]
abbrev kb_R_apart_70 : List vx_I := [(.iinc 4 1, 3, 4, 0, .int 1, []), (.goto (-56), 3, 17, 0, .null, [])]
abbrev kb_R_apart_76 : List vx_I := [(.aload_n 0, 1, 0, 0, .null, []), (.iconst 0, 1, 0, 0, .int 0, []), (.putfield 164, 3, 7, 27, .int 0, []), (.iload_n 3, 1, 3, 0, .null, []), (.ireturn, 1, 0, 0, .null, [])]
def tb_R_apart : List (Nat × List vx_I) := [(0, kb_R_apart_0), (11, kb_R_apart_11), (17, kb_R_apart_17), (46, kb_R_apart_46), (68, kb_R_apart_68), (69, kb_R_apart_69), (70, kb_R_apart_70), (76, kb_R_apart_76)]
theorem bk_R_apart_0 : vx_bk tb_R_apart 0 = kb_R_apart_0 := rfl
theorem bk_R_apart_11 : vx_bk tb_R_apart 11 = kb_R_apart_11 := rfl
theorem bk_R_apart_17 : vx_bk tb_R_apart 17 = kb_R_apart_17 := rfl
theorem bk_R_apart_46 : vx_bk tb_R_apart 46 = kb_R_apart_46 := rfl
theorem bk_R_apart_68 : vx_bk tb_R_apart 68 = kb_R_apart_68 := rfl
theorem bk_R_apart_69 : vx_bk tb_R_apart 69 = kb_R_apart_69 := rfl
theorem bk_R_apart_70 : vx_bk tb_R_apart 70 = kb_R_apart_70 := rfl
theorem bk_R_apart_76 : vx_bk tb_R_apart 76 = kb_R_apart_76 := rfl
abbrev m_R_apart : Nat := 146
set_option maxRecDepth 100000 in
theorem ck_R_apart : vx_ckM prog_9_method_49_code 7 5 5 false (some .int) tb_R_apart = true := by decide +kernel
theorem ok_R_apart {As : List Value} {sz : Nat} {h : vx_H} {P : Option Value → vx_H → Prop} (L0 : vx_L) (hlen : (vx_ar As).length ≤ 5) (hL0 : vx_ar As ++ List.replicate (5 - (vx_ar As).length) none = L0)
    (body : ∀ (lim z : vx_Z) X, vx_cl0 none lim tb_R_apart (fun r z' h' => z' = z ∧ P r h') X → X 0 L0 [] z h) : vx_Ok m_R_apart As sz h P :=
  vx_ok0 (M := (⟨"VoteWallsModel", "apart", "(II)I"⟩, prog_9_method_49_code, 5, (some .int), 5, 0, 0, 2, 0)) rfl (ow := 7) rfl ck_R_apart rfl hlen hL0 body
abbrev kb_R_areTwo_0 : List vx_I := [(.aload_n 0, 1, 0, 0, .null, []), (.iload_n 1, 1, 1, 0, .null, []), (.invokevirtual 145, 3, 116, 1, .null, [(0, 0), (0, 0), (0, 0), (0, 0), (0, 0), (0, 0), (0, 0)]), (.ifCond .eq 20, 3, 25, 0, .null, []), (.aload_n 0, 1, 0, 0, .null, []), (.iload_n 2, 1, 2, 0, .null, []), (.invokevirtual 145, 3, 116, 1, .null, [(0, 0), (0, 0), (0, 0), (0, 0), (0, 0), (0, 0), (0, 0)]), (.ifCond .eq 12, 3, 25, 0, .null, []), (.iload_n 1, 1, 1, 0, .null, []), (.iload_n 2, 1, 2, 0, .null, []), (.if_icmp .eq 7, 3, 25, 0, .null, []), (.iconst 1, 1, 0, 0, .int 1, []), (.goto 4, 3, 26, 0, .null, [])]
abbrev kb_R_areTwo_25 : List vx_I := [(.iconst 0, 1, 0, 0, .int 0, [])]
abbrev kb_R_areTwo_26 : List vx_I := [(.ireturn, 1, 1, 0, .null, [])]
def tb_R_areTwo : List (Nat × List vx_I) := [(0, kb_R_areTwo_0), (25, kb_R_areTwo_25), (26, kb_R_areTwo_26)]
theorem bk_R_areTwo_0 : vx_bk tb_R_areTwo 0 = kb_R_areTwo_0 := rfl
theorem bk_R_areTwo_25 : vx_bk tb_R_areTwo 25 = kb_R_areTwo_25 := rfl
theorem bk_R_areTwo_26 : vx_bk tb_R_areTwo 26 = kb_R_areTwo_26 := rfl
abbrev m_R_areTwo : Nat := 147
set_option maxRecDepth 100000 in
theorem ck_R_areTwo : vx_ckM prog_9_method_48_code 7 3 1 false (some .boolean) tb_R_areTwo = true := by decide +kernel
theorem ok_R_areTwo {As : List Value} {sz : Nat} {h : vx_H} {P : Option Value → vx_H → Prop} (L0 : vx_L) (hlen : (vx_ar As).length ≤ 3) (hL0 : vx_ar As ++ List.replicate (3 - (vx_ar As).length) none = L0)
    (body : ∀ (lim z : vx_Z) X, vx_cl0 none lim tb_R_areTwo (fun r z' h' => z' = z ∧ P r h') X → X 0 L0 [] z h) : vx_Ok m_R_areTwo As sz h P :=
  vx_ok0 (M := (⟨"VoteWallsModel", "areTwo", "(II)Z"⟩, prog_9_method_48_code, 3, (some .boolean), 1, 0, 0, 2, 0)) rfl (ow := 7) rfl ck_R_areTwo rfl hlen hL0 body
abbrev kb_R_size_0 : List vx_I := [(.iconst 0, 1, 0, 0, .int 0, []), (.istore_n 1, 1, 1, 0, .null, []), (.iload_n 0, 1, 0, 0, .null, []), (.istore_n 2, 1, 2, 0, .null, [])]
abbrev kb_R_size_4 : List vx_I := [(.iload_n 2, 1, 2, 0, .null, []), (.ifCond .le 16, 3, 21, 0, .null, []), (.iload_n 1, 1, 1, 0, .null, []), (.iload_n 2, 1, 2, 0, .null, []), (.iconst 1, 1, 0, 0, .int 1, []), (.iand, 1, 0, 0, .null, []), (.iadd, 1, 0, 0, .null, []), (.istore_n 1, 1, 1, 0, .null, []), (.iload_n 2, 1, 2, 0, .null, []), (.iconst 1, 1, 0, 0, .int 1, []), (.ishr, 1, 0, 0, .null, []), (.istore_n 2, 1, 2, 0, .null, []), (.goto (-14), 3, 4, 0, .null, [])]
abbrev kb_R_size_21 : List vx_I := [(.iload_n 1, 1, 1, 0, .null, []), (.ireturn, 1, 0, 0, .null, [])]
def tb_R_size : List (Nat × List vx_I) := [(0, kb_R_size_0), (4, kb_R_size_4), (21, kb_R_size_21)]
theorem bk_R_size_0 : vx_bk tb_R_size 0 = kb_R_size_0 := rfl
theorem bk_R_size_4 : vx_bk tb_R_size 4 = kb_R_size_4 := rfl
theorem bk_R_size_21 : vx_bk tb_R_size 21 = kb_R_size_21 := rfl
abbrev m_R_size : Nat := 148
set_option maxRecDepth 100000 in
theorem ck_R_size : vx_ckM prog_9_method_47_code 7 3 0 false (some .int) tb_R_size = true := by decide +kernel
theorem ok_R_size {As : List Value} {sz : Nat} {h : vx_H} {P : Option Value → vx_H → Prop} (L0 : vx_L) (hlen : (vx_ar As).length ≤ 3) (hL0 : vx_ar As ++ List.replicate (3 - (vx_ar As).length) none = L0)
    (body : ∀ (lim z : vx_Z) X, vx_cl0 none lim tb_R_size (fun r z' h' => z' = z ∧ P r h') X → X 0 L0 [] z h) : vx_Ok m_R_size As sz h P :=
  vx_ok0 (M := (⟨"VoteWallsModel", "size", "(I)I"⟩, prog_9_method_47_code, 3, (some .int), 0, 0, 0, 1, 1)) rfl (ow := 7) rfl ck_R_size rfl hlen hL0 body
abbrev kb_R_joined_0 : List vx_I := [(.aload_n 0, 1, 0, 0, .null, []), (.iload_n 1, 1, 1, 0, .null, []), (.iload_n 2, 1, 2, 0, .null, []), (.invokevirtual 216, 3, 147, 2, .null, [(0, 0), (0, 0), (0, 0), (0, 0), (0, 0), (0, 0), (0, 0)]), (.ifCond .ne 5, 3, 11, 0, .null, []), (.iconst (-1), 1, 0, 0, .int (-1), []), (.ireturn, 1, 0, 0, .null, [])]
abbrev kb_R_joined_11 : List vx_I := [(.iconst 0, 1, 0, 0, .int 0, []), (.istore_n 3, 1, 3, 0, .null, []), (.iconst 0, 1, 0, 0, .int 0, []), (.istore 4, 2, 4, 0, .null, [])]
abbrev kb_R_joined_16 : List vx_I := [(.iload 4, 2, 4, 0, .null, []), (.iconst 1, 1, 0, 0, .int 1, []), (.aload_n 0, 1, 0, 0, .null, []), (.getfield 77, 3, 7, 6, .null, []), (.ishl, 1, 0, 0, .null, []), (.if_icmp .ge 36, 3, 60, 0, .null, []), (.iload_n 3, 1, 3, 0, .null, []), (.ifCond .ne 32, 3, 60, 0, .null, []), (.aload_n 0, 1, 0, 0, .null, []), (.iload 4, 2, 4, 0, .null, []), (.putfield 164, 3, 7, 27, .int 0, []), (.aload_n 0, 1, 0, 0, .null, []), (.iload_n 1, 1, 1, 0, .null, []), (.iload_n 2, 1, 2, 0, .null, []), (.invokevirtual 213, 3, 144, 2, .null, [(0, 0), (0, 0), (0, 0), (0, 0), (0, 0), (0, 0), (0, 0)]), (.bipush (-9), 2, 0, 0, .int (-9), []), (.if_icmp .ne 7, 3, 52, 0, .null, []), (.iconst 0, 1, 0, 0, .int 0, []), (.goto 4, 3, 53, 0, .null, [])]
abbrev kb_R_joined_52 : List vx_I := [(.iconst 1, 1, 0, 0, .int 1, [])]
abbrev kb_R_joined_53 : List vx_I := [(.istore_n 3, 1, 3, 0, .null, []), (.iinc 4 1, 3, 4, 0, .int 1, []), (.goto (-41), 3, 16, 0, .null, [])]
abbrev kb_R_joined_60 : List vx_I := [(.aload_n 0, 1, 0, 0, .null, []), (.iconst 0, 1, 0, 0, .int 0, []), (.putfield 164, 3, 7, 27, .int 0, []), (.iload_n 3, 1, 3, 0, .null, []), (.ireturn, 1, 0, 0, .null, [])]
def tb_R_joined : List (Nat × List vx_I) := [(0, kb_R_joined_0), (11, kb_R_joined_11), (16, kb_R_joined_16), (52, kb_R_joined_52), (53, kb_R_joined_53), (60, kb_R_joined_60)]
theorem bk_R_joined_0 : vx_bk tb_R_joined 0 = kb_R_joined_0 := rfl
theorem bk_R_joined_11 : vx_bk tb_R_joined 11 = kb_R_joined_11 := rfl
theorem bk_R_joined_16 : vx_bk tb_R_joined 16 = kb_R_joined_16 := rfl
theorem bk_R_joined_52 : vx_bk tb_R_joined 52 = kb_R_joined_52 := rfl
theorem bk_R_joined_53 : vx_bk tb_R_joined 53 = kb_R_joined_53 := rfl
theorem bk_R_joined_60 : vx_bk tb_R_joined 60 = kb_R_joined_60 := rfl
abbrev m_R_joined : Nat := 149
set_option maxRecDepth 100000 in
theorem ck_R_joined : vx_ckM prog_9_method_50_code 7 5 5 false (some .int) tb_R_joined = true := by decide +kernel
theorem ok_R_joined {As : List Value} {sz : Nat} {h : vx_H} {P : Option Value → vx_H → Prop} (L0 : vx_L) (hlen : (vx_ar As).length ≤ 5) (hL0 : vx_ar As ++ List.replicate (5 - (vx_ar As).length) none = L0)
    (body : ∀ (lim z : vx_Z) X, vx_cl0 none lim tb_R_joined (fun r z' h' => z' = z ∧ P r h') X → X 0 L0 [] z h) : vx_Ok m_R_joined As sz h P :=
  vx_ok0 (M := (⟨"VoteWallsModel", "joined", "(II)I"⟩, prog_9_method_50_code, 5, (some .int), 5, 0, 0, 2, 0)) rfl (ow := 7) rfl ck_R_joined rfl hlen hL0 body
abbrev kb_R_pushed_0 : List vx_I := [(.aload_n 0, 1, 0, 0, .null, []), (.iload_n 1, 1, 1, 0, .null, []), (.invokevirtual 158, 3, 121, 1, .null, [(0, 0), (0, 0), (0, 0), (0, 0), (0, 0), (0, 0), (0, 0)]), (.ifCond .ne 5, 3, 10, 0, .null, []), (.iconst (-1), 1, 0, 0, .int (-1), []), (.ireturn, 1, 0, 0, .null, [])]
abbrev kb_R_pushed_10 : List vx_I := [(.iload_n 2, 1, 2, 0, .null, []), (.iconst 1, 1, 0, 0, .int 1, []), (.aload_n 0, 1, 0, 0, .null, []), (.getfield 111, 3, 7, 5, .null, []), (.iconst 1, 1, 0, 0, .int 1, []), (.isub, 1, 0, 0, .null, []), (.invokestatic 73, 3, 105, 3, .null, []), (.ifCond .eq 10, 3, 31, 0, .null, []), (.iload_n 3, 1, 3, 0, .null, []), (.invokestatic 155, 3, 123, 1, .null, []), (.ifCond .ne 6, 3, 34, 0, .null, [])]
abbrev kb_R_pushed_31 : List vx_I := [(.bipush (-2), 2, 0, 0, .int (-2), []), (.ireturn, 1, 0, 0, .null, [])]
abbrev kb_R_pushed_34 : List vx_I := [(.bipush (-9), 2, 0, 0, .int (-9), []), (.istore 4, 2, 4, 0, .null, []), (.iconst 0, 1, 0, 0, .int 0, []), (.istore 5, 2, 5, 0, .null, [])]
abbrev kb_R_pushed_41 : List vx_I := [(.iload 5, 2, 5, 0, .null, []), (.iconst 1, 1, 0, 0, .int 1, []), (.aload_n 0, 1, 0, 0, .null, []), (.getfield 80, 3, 7, 7, .null, []), (.ishl, 1, 0, 0, .null, []), (.if_icmp .ge 59, 3, 108, 0, .null, []), (.iload 4, 2, 4, 0, .null, []), (.bipush (-9), 2, 0, 0, .int (-9), []), (.if_icmp .eq 16, 3, 72, 0, .null, []), (.iload 5, 2, 5, 0, .null, []), (.invokestatic 219, 3, 148, 1, .null, []), (.iload 4, 2, 4, 0, .null, []), (.invokestatic 219, 3, 148, 1, .null, []), (.if_icmp .ge 33, 3, 102, 0, .null, [])]
abbrev kb_R_pushed_72 : List vx_I := [(.aload_n 0, 1, 0, 0, .null, []), (.iload 5, 2, 5, 0, .null, []), (.putfield 167, 3, 7, 28, .int 0, []), (.aload_n 0, 1, 0, 0, .null, []), (.iload_n 3, 1, 3, 0, .null, []), (.invokevirtual 204, 3, 129, 1, .null, [(0, 0), (0, 0), (0, 0), (0, 0), (0, 0), (0, 0), (0, 0)]), (.aload_n 0, 1, 0, 0, .null, []), (.getfield 55, 3, 7, 29, .null, []), (.iload_n 1, 1, 1, 0, .null, []), (.iaload, 1, 0, 0, .null, []), (.iload_n 2, 1, 2, 0, .null, []), (.if_icmp .ne 8, 3, 98, 0, .null, []), (.iload 5, 2, 5, 0, .null, []), (.goto 5, 3, 100, 0, .null, [])]
abbrev kb_R_pushed_98 : List vx_I := [(.iload 4, 2, 4, 0, .null, [])]
abbrev kb_R_pushed_100 : List vx_I := [(.istore 4, 2, 4, 0, .null, [])]
abbrev kb_R_pushed_102 : List vx_I := [(.iinc 5 1, 3, 5, 0, .int 1, []), (.goto (-64), 3, 41, 0, .null, [])]
abbrev kb_R_pushed_108 : List vx_I := [(.aload_n 0, 1, 0, 0, .null, []), (.iconst 0, 1, 0, 0, .int 0, []), (.putfield 167, 3, 7, 28, .int 0, []), (.iload 4, 2, 4, 0, .null, []), (.ireturn, 1, 0, 0, .null, [])]
def tb_R_pushed : List (Nat × List vx_I) := [(0, kb_R_pushed_0), (10, kb_R_pushed_10), (31, kb_R_pushed_31), (34, kb_R_pushed_34), (41, kb_R_pushed_41), (72, kb_R_pushed_72), (98, kb_R_pushed_98), (100, kb_R_pushed_100), (102, kb_R_pushed_102), (108, kb_R_pushed_108)]
theorem bk_R_pushed_0 : vx_bk tb_R_pushed 0 = kb_R_pushed_0 := rfl
theorem bk_R_pushed_10 : vx_bk tb_R_pushed 10 = kb_R_pushed_10 := rfl
theorem bk_R_pushed_31 : vx_bk tb_R_pushed 31 = kb_R_pushed_31 := rfl
theorem bk_R_pushed_34 : vx_bk tb_R_pushed 34 = kb_R_pushed_34 := rfl
theorem bk_R_pushed_41 : vx_bk tb_R_pushed 41 = kb_R_pushed_41 := rfl
theorem bk_R_pushed_72 : vx_bk tb_R_pushed 72 = kb_R_pushed_72 := rfl
theorem bk_R_pushed_98 : vx_bk tb_R_pushed 98 = kb_R_pushed_98 := rfl
theorem bk_R_pushed_100 : vx_bk tb_R_pushed 100 = kb_R_pushed_100 := rfl
theorem bk_R_pushed_102 : vx_bk tb_R_pushed 102 = kb_R_pushed_102 := rfl
theorem bk_R_pushed_108 : vx_bk tb_R_pushed 108 = kb_R_pushed_108 := rfl
abbrev m_R_pushed : Nat := 150
set_option maxRecDepth 100000 in
theorem ck_R_pushed : vx_ckM prog_9_method_51_code 7 6 5 false (some .int) tb_R_pushed = true := by decide +kernel
theorem ok_R_pushed {As : List Value} {sz : Nat} {h : vx_H} {P : Option Value → vx_H → Prop} (L0 : vx_L) (hlen : (vx_ar As).length ≤ 6) (hL0 : vx_ar As ++ List.replicate (6 - (vx_ar As).length) none = L0)
    (body : ∀ (lim z : vx_Z) X, vx_cl0 none lim tb_R_pushed (fun r z' h' => z' = z ∧ P r h') X → X 0 L0 [] z h) : vx_Ok m_R_pushed As sz h P :=
  vx_ok0 (M := (⟨"VoteWallsModel", "pushed", "(III)I"⟩, prog_9_method_51_code, 6, (some .int), 5, 0, 0, 3, 0)) rfl (ow := 7) rfl ck_R_pushed rfl hlen hL0 body
abbrev kb_R_game_0 : List vx_I := [(.iload_n 1, 1, 1, 0, .null, []), (.iconst 0, 1, 0, 0, .int 0, []), (.iconst 1, 1, 0, 0, .int 1, []), (.invokestatic 73, 3, 105, 3, .null, []), (.ifCond .ne 6, 3, 12, 0, .null, []), (.bipush (-2), 2, 0, 0, .int (-2), []), (.ireturn, 1, 0, 0, .null, [])]
abbrev kb_R_game_12 : List vx_I := [(.aload_n 0, 1, 0, 0, .null, []), (.invokevirtual 151, 3, 119, 0, .null, [(0, 0), (0, 0), (0, 0), (0, 0), (0, 0), (0, 0), (0, 0)]), (.ifCond .ne 6, 3, 22, 0, .null, []), (.bipush (-3), 2, 0, 0, .int (-3), []), (.ireturn, 1, 0, 0, .null, [])]
abbrev kb_R_game_22 : List vx_I := [(.bipush (-9), 2, 0, 0, .int (-9), []), (.istore_n 2, 1, 2, 0, .null, []), (.iconst 0, 1, 0, 0, .int 0, []), (.istore_n 3, 1, 3, 0, .null, []), (.iconst 0, 1, 0, 0, .int 0, []), (.istore 4, 2, 4, 0, .null, [])]
abbrev kb_R_game_30 : List vx_I := [(.iload 4, 2, 4, 0, .null, []), (.aload_n 0, 1, 0, 0, .null, []), (.getfield 77, 3, 7, 6, .null, []), (.if_icmp .ge 41, 3, 77, 0, .null, []), (.aload_n 0, 1, 0, 0, .null, []), (.iconst 1, 1, 0, 0, .int 1, []), (.iload 4, 2, 4, 0, .null, []), (.ishl, 1, 0, 0, .null, []), (.putfield 164, 3, 7, 27, .int 0, []), (.aload_n 0, 1, 0, 0, .null, []), (.invokevirtual 222, 3, 152, 0, .null, [(0, 0), (0, 0), (0, 0), (0, 0), (0, 0), (0, 0), (0, 0)]), (.istore 5, 2, 5, 0, .null, []), (.iload_n 2, 1, 2, 0, .null, []), (.bipush (-9), 2, 0, 0, .int (-9), []), (.if_icmp .eq 9, 3, 65, 0, .null, []), (.iload 5, 2, 5, 0, .null, []), (.iload_n 3, 1, 3, 0, .null, []), (.if_icmp .ge 9, 3, 71, 0, .null, [])]
abbrev kb_R_game_65 : List vx_I := [(.iload 4, 2, 4, 0, .null, []), (.istore_n 2, 1, 2, 0, .null, []), (.iload 5, 2, 5, 0, .null, []), (.istore_n 3, 1, 3, 0, .null, [])]
abbrev kb_R_game_71 : List vx_I := [(.iinc 4 1, 3, 4, 0, .int 1, []), (.goto (-44), 3, 30, 0, .null, [])]
abbrev kb_R_game_77 : List vx_I := [(.aload_n 0, 1, 0, 0, .null, []), (.iconst 0, 1, 0, 0, .int 0, []), (.putfield 164, 3, 7, 27, .int 0, []), (.iload_n 1, 1, 1, 0, .null, []), (.ifCond .ne 7, 3, 90, 0, .null, []), (.iload_n 3, 1, 3, 0, .null, []), (.goto 4, 3, 91, 0, .null, [])]
abbrev kb_R_game_90 : List vx_I := [(.iload_n 2, 1, 2, 0, .null, [])]
abbrev kb_R_game_91 : List vx_I := [(.ireturn, 1, 0, 0, .null, [])]
def tb_R_game : List (Nat × List vx_I) := [(0, kb_R_game_0), (12, kb_R_game_12), (22, kb_R_game_22), (30, kb_R_game_30), (65, kb_R_game_65), (71, kb_R_game_71), (77, kb_R_game_77), (90, kb_R_game_90), (91, kb_R_game_91)]
theorem bk_R_game_0 : vx_bk tb_R_game 0 = kb_R_game_0 := rfl
theorem bk_R_game_12 : vx_bk tb_R_game 12 = kb_R_game_12 := rfl
theorem bk_R_game_22 : vx_bk tb_R_game 22 = kb_R_game_22 := rfl
theorem bk_R_game_30 : vx_bk tb_R_game 30 = kb_R_game_30 := rfl
theorem bk_R_game_65 : vx_bk tb_R_game 65 = kb_R_game_65 := rfl
theorem bk_R_game_71 : vx_bk tb_R_game 71 = kb_R_game_71 := rfl
theorem bk_R_game_77 : vx_bk tb_R_game 77 = kb_R_game_77 := rfl
theorem bk_R_game_90 : vx_bk tb_R_game 90 = kb_R_game_90 := rfl
theorem bk_R_game_91 : vx_bk tb_R_game 91 = kb_R_game_91 := rfl
abbrev m_R_game : Nat := 151
set_option maxRecDepth 100000 in
theorem ck_R_game : vx_ckM prog_9_method_53_code 7 6 6 false (some .int) tb_R_game = true := by decide +kernel
theorem ok_R_game {As : List Value} {sz : Nat} {h : vx_H} {P : Option Value → vx_H → Prop} (L0 : vx_L) (hlen : (vx_ar As).length ≤ 6) (hL0 : vx_ar As ++ List.replicate (6 - (vx_ar As).length) none = L0)
    (body : ∀ (lim z : vx_Z) X, vx_cl0 none lim tb_R_game (fun r z' h' => z' = z ∧ P r h') X → X 0 L0 [] z h) : vx_Ok m_R_game As sz h P :=
  vx_ok0 (M := (⟨"VoteWallsModel", "game", "(I)I"⟩, prog_9_method_53_code, 6, (some .int), 6, 0, 0, 1, 0)) rfl (ow := 7) rfl ck_R_game rfl hlen hL0 body
abbrev kb_R_mostWide_0 : List vx_I := [(.iconst 0, 1, 0, 0, .int 0, []), (.istore_n 1, 1, 1, 0, .null, []), (.iconst 0, 1, 0, 0, .int 0, []), (.istore_n 2, 1, 2, 0, .null, [])]
abbrev kb_R_mostWide_4 : List vx_I := [(.iload_n 2, 1, 2, 0, .null, []), (.aload_n 0, 1, 0, 0, .null, []), (.getfield 80, 3, 7, 7, .null, []), (.if_icmp .ge 43, 3, 52, 0, .null, []), (.aload_n 0, 1, 0, 0, .null, []), (.iconst 1, 1, 0, 0, .int 1, []), (.iload_n 2, 1, 2, 0, .null, []), (.ishl, 1, 0, 0, .null, []), (.putfield 167, 3, 7, 28, .int 0, []), (.aload_n 0, 1, 0, 0, .null, []), (.bipush 49, 2, 0, 0, .int 49, []), (.invokevirtual 204, 3, 129, 1, .null, [(0, 0), (0, 0), (0, 0), (0, 0), (0, 0), (0, 0), (0, 0)]), (.aload_n 0, 1, 0, 0, .null, []), (.getfield 55, 3, 7, 29, .null, []), (.iconst 0, 1, 0, 0, .int 0, []), (.iaload, 1, 0, 0, .null, []), (.iload_n 1, 1, 1, 0, .null, []), (.if_icmp .le 12, 3, 44, 0, .null, []), (.aload_n 0, 1, 0, 0, .null, []), (.getfield 55, 3, 7, 29, .null, []), (.iconst 0, 1, 0, 0, .int 0, []), (.iaload, 1, 0, 0, .null, []), (.goto 4, 3, 45, 0, .null, [])]
abbrev kb_R_mostWide_44 : List vx_I := [(.iload_n 1, 1, 1, 0, .null, [])]
abbrev kb_R_mostWide_45 : List vx_I := [(.istore_n 1, 1, 1, 0, .null, []), (.iinc 2 1, 3, 2, 0, .int 1, []), (.goto (-45), 3, 4, 0, .null, [])]
abbrev kb_R_mostWide_52 : List vx_I := [(.aload_n 0, 1, 0, 0, .null, []), (.iconst 0, 1, 0, 0, .int 0, []), (.putfield 167, 3, 7, 28, .int 0, []), (.iload_n 1, 1, 1, 0, .null, []), (.ireturn, 1, 0, 0, .null, [])]
def tb_R_mostWide : List (Nat × List vx_I) := [(0, kb_R_mostWide_0), (4, kb_R_mostWide_4), (44, kb_R_mostWide_44), (45, kb_R_mostWide_45), (52, kb_R_mostWide_52)]
theorem bk_R_mostWide_0 : vx_bk tb_R_mostWide 0 = kb_R_mostWide_0 := rfl
theorem bk_R_mostWide_4 : vx_bk tb_R_mostWide 4 = kb_R_mostWide_4 := rfl
theorem bk_R_mostWide_44 : vx_bk tb_R_mostWide 44 = kb_R_mostWide_44 := rfl
theorem bk_R_mostWide_45 : vx_bk tb_R_mostWide 45 = kb_R_mostWide_45 := rfl
theorem bk_R_mostWide_52 : vx_bk tb_R_mostWide 52 = kb_R_mostWide_52 := rfl
abbrev m_R_mostWide : Nat := 152
set_option maxRecDepth 100000 in
theorem ck_R_mostWide : vx_ckM prog_9_method_52_code 7 3 5 false (some .int) tb_R_mostWide = true := by decide +kernel
theorem ok_R_mostWide {As : List Value} {sz : Nat} {h : vx_H} {P : Option Value → vx_H → Prop} (L0 : vx_L) (hlen : (vx_ar As).length ≤ 3) (hL0 : vx_ar As ++ List.replicate (3 - (vx_ar As).length) none = L0)
    (body : ∀ (lim z : vx_Z) X, vx_cl0 none lim tb_R_mostWide (fun r z' h' => z' = z ∧ P r h') X → X 0 L0 [] z h) : vx_Ok m_R_mostWide As sz h P :=
  vx_ok0 (M := (⟨"VoteWallsModel", "mostWide", "()I"⟩, prog_9_method_52_code, 3, (some .int), 5, 0, 0, 0, 0)) rfl (ow := 7) rfl ck_R_mostWide rfl hlen hL0 body
abbrev kb_R_knocks_0 : List vx_I := [(.aload_n 0, 1, 0, 0, .null, []), (.iload_n 1, 1, 1, 0, .null, []), (.invokevirtual 145, 3, 116, 1, .null, [(0, 0), (0, 0), (0, 0), (0, 0), (0, 0), (0, 0), (0, 0)]), (.ifCond .eq 11, 3, 16, 0, .null, []), (.aload_n 0, 1, 0, 0, .null, []), (.iload_n 3, 1, 3, 0, .null, []), (.invokevirtual 145, 3, 116, 1, .null, [(0, 0), (0, 0), (0, 0), (0, 0), (0, 0), (0, 0), (0, 0)]), (.ifCond .ne 5, 3, 18, 0, .null, [])]
abbrev kb_R_knocks_16 : List vx_I := [(.iconst (-1), 1, 0, 0, .int (-1), []), (.ireturn, 1, 0, 0, .null, [])]
abbrev kb_R_knocks_18 : List vx_I := [(.iload_n 2, 1, 2, 0, .null, []), (.invokestatic 155, 3, 123, 1, .null, []), (.ifCond .ne 6, 3, 28, 0, .null, []), (.bipush (-2), 2, 0, 0, .int (-2), []), (.ireturn, 1, 0, 0, .null, [])]
abbrev kb_R_knocks_28 : List vx_I := [(.aload_n 0, 1, 0, 0, .null, []), (.invokevirtual 194, 3, 130, 0, .null, [(0, 0), (0, 0), (0, 0), (0, 0), (0, 0), (0, 0), (0, 0)]), (.iconst 1, 1, 0, 0, .int 1, []), (.iload_n 1, 1, 1, 0, .null, []), (.ishl, 1, 0, 0, .null, []), (.istore 4, 2, 4, 0, .null, []), (.iconst 0, 1, 0, 0, .int 0, []), (.istore 5, 2, 5, 0, .null, [])]
abbrev kb_R_knocks_40 : List vx_I := [(.iload 5, 2, 5, 0, .null, []), (.bipush 50, 2, 0, 0, .int 50, []), (.if_icmp .ge 53, 3, 97, 0, .null, []), (.aload_n 0, 1, 0, 0, .null, []), (.iload 5, 2, 5, 0, .null, []), (.invokevirtual 197, 3, 131, 1, .null, [(0, 0), (0, 0), (0, 0), (0, 0), (0, 0), (0, 0), (0, 0)]), (.iload 5, 2, 5, 0, .null, []), (.iload_n 2, 1, 2, 0, .null, []), (.if_icmp .ge 8, 3, 64, 0, .null, []), (.iload 4, 2, 4, 0, .null, []), (.goto 9, 3, 70, 0, .null, [])]
abbrev kb_R_knocks_64 : List vx_I := [(.aload_n 0, 1, 0, 0, .null, []), (.iload 4, 2, 4, 0, .null, []), (.invokevirtual 226, 3, 154, 1, .null, [(0, 0), (0, 0), (0, 0), (0, 0), (0, 0), (0, 0), (0, 0)])]
abbrev kb_R_knocks_70 : List vx_I := [(.istore 4, 2, 4, 0, .null, []), (.iload 5, 2, 5, 0, .null, []), (.iload_n 2, 1, 2, 0, .null, []), (.if_icmp .lt 16, 3, 91, 0, .null, []), (.iload 4, 2, 4, 0, .null, []), (.iload_n 3, 1, 3, 0, .null, []), (.ishr, 1, 0, 0, .null, []), (.iconst 1, 1, 0, 0, .int 1, []), (.iand, 1, 0, 0, .null, []), (.iconst 1, 1, 0, 0, .int 1, []), (.if_icmp .ne 6, 3, 91, 0, .null, []), (.iload 5, 2, 5, 0, .null, []), (.ireturn, 1, 0, 0, .null, [])]
abbrev kb_R_knocks_91 : List vx_I := [(.iinc 5 1, 3, 5, 0, .int 1, []), (.goto (-54), 3, 40, 0, .null, [])]
abbrev kb_R_knocks_97 : List vx_I := [(.bipush (-9), 2, 0, 0, .int (-9), []), (.ireturn, 1, 0, 0, .null, [])]
def tb_R_knocks : List (Nat × List vx_I) := [(0, kb_R_knocks_0), (16, kb_R_knocks_16), (18, kb_R_knocks_18), (28, kb_R_knocks_28), (40, kb_R_knocks_40), (64, kb_R_knocks_64), (70, kb_R_knocks_70), (91, kb_R_knocks_91), (97, kb_R_knocks_97)]
theorem bk_R_knocks_0 : vx_bk tb_R_knocks 0 = kb_R_knocks_0 := rfl
theorem bk_R_knocks_16 : vx_bk tb_R_knocks 16 = kb_R_knocks_16 := rfl
theorem bk_R_knocks_18 : vx_bk tb_R_knocks 18 = kb_R_knocks_18 := rfl
theorem bk_R_knocks_28 : vx_bk tb_R_knocks 28 = kb_R_knocks_28 := rfl
theorem bk_R_knocks_40 : vx_bk tb_R_knocks 40 = kb_R_knocks_40 := rfl
theorem bk_R_knocks_64 : vx_bk tb_R_knocks 64 = kb_R_knocks_64 := rfl
theorem bk_R_knocks_70 : vx_bk tb_R_knocks 70 = kb_R_knocks_70 := rfl
theorem bk_R_knocks_91 : vx_bk tb_R_knocks 91 = kb_R_knocks_91 := rfl
theorem bk_R_knocks_97 : vx_bk tb_R_knocks 97 = kb_R_knocks_97 := rfl
abbrev m_R_knocks : Nat := 153
set_option maxRecDepth 100000 in
theorem ck_R_knocks : vx_ckM prog_9_method_55_code 7 6 4 false (some .int) tb_R_knocks = true := by decide +kernel
theorem ok_R_knocks {As : List Value} {sz : Nat} {h : vx_H} {P : Option Value → vx_H → Prop} (L0 : vx_L) (hlen : (vx_ar As).length ≤ 6) (hL0 : vx_ar As ++ List.replicate (6 - (vx_ar As).length) none = L0)
    (body : ∀ (lim z : vx_Z) X, vx_cl0 none lim tb_R_knocks (fun r z' h' => z' = z ∧ P r h') X → X 0 L0 [] z h) : vx_Ok m_R_knocks As sz h P :=
  vx_ok0 (M := (⟨"VoteWallsModel", "knocks", "(III)I"⟩, prog_9_method_55_code, 6, (some .int), 4, 0, 0, 3, 0)) rfl (ow := 7) rfl ck_R_knocks rfl hlen hL0 body
abbrev kb_R_spread_0 : List vx_I := [(.iload_n 1, 1, 1, 0, .null, []), (.istore_n 2, 1, 2, 0, .null, []), (.iconst 0, 1, 0, 0, .int 0, []), (.istore_n 3, 1, 3, 0, .null, [])]
abbrev kb_R_spread_4 : List vx_I := [(.iload_n 3, 1, 3, 0, .null, []), (.aload_n 0, 1, 0, 0, .null, []), (.getfield 80, 3, 7, 7, .null, []), (.if_icmp .ge 63, 3, 72, 0, .null, []), (.iconst 0, 1, 0, 0, .int 0, []), (.istore 4, 2, 4, 0, .null, [])]
abbrev kb_R_spread_15 : List vx_I := [(.iload 4, 2, 4, 0, .null, []), (.aload_n 0, 1, 0, 0, .null, []), (.getfield 80, 3, 7, 7, .null, []), (.if_icmp .ge 45, 3, 66, 0, .null, []), (.iload_n 1, 1, 1, 0, .null, []), (.iload 4, 2, 4, 0, .null, []), (.ishr, 1, 0, 0, .null, []), (.iconst 1, 1, 0, 0, .int 1, []), (.iand, 1, 0, 0, .null, []), (.iconst 1, 1, 0, 0, .int 1, []), (.if_icmp .ne 29, 3, 60, 0, .null, []), (.aload_n 0, 1, 0, 0, .null, []), (.iload_n 3, 1, 3, 0, .null, []), (.invokevirtual 170, 3, 136, 1, .null, [(0, 0), (0, 0), (0, 0), (0, 0), (0, 0), (0, 0), (0, 0)]), (.aload_n 0, 1, 0, 0, .null, []), (.iload 4, 2, 4, 0, .null, []), (.invokevirtual 170, 3, 136, 1, .null, [(0, 0), (0, 0), (0, 0), (0, 0), (0, 0), (0, 0), (0, 0)]), (.isub, 1, 0, 0, .null, []), (.iconst (-1), 1, 0, 0, .int (-1), []), (.iconst 1, 1, 0, 0, .int 1, []), (.invokestatic 73, 3, 105, 3, .null, []), (.ifCond .eq 9, 3, 60, 0, .null, []), (.iload_n 2, 1, 2, 0, .null, []), (.iconst 1, 1, 0, 0, .int 1, []), (.iload_n 3, 1, 3, 0, .null, []), (.ishl, 1, 0, 0, .null, []), (.ior, 1, 0, 0, .null, []), (.istore_n 2, 1, 2, 0, .null, [])]
abbrev kb_R_spread_60 : List vx_I := [(.iinc 4 1, 3, 4, 0, .int 1, []), (.goto (-48), 3, 15, 0, .null, [])]
abbrev kb_R_spread_66 : List vx_I := [(.iinc 3 1, 3, 3, 0, .int 1, []), (.goto (-65), 3, 4, 0, .null, [])]
abbrev kb_R_spread_72 : List vx_I := [(.iload_n 2, 1, 2, 0, .null, []), (.ireturn, 1, 0, 0, .null, [])]
def tb_R_spread : List (Nat × List vx_I) := [(0, kb_R_spread_0), (4, kb_R_spread_4), (15, kb_R_spread_15), (60, kb_R_spread_60), (66, kb_R_spread_66), (72, kb_R_spread_72)]
theorem bk_R_spread_0 : vx_bk tb_R_spread 0 = kb_R_spread_0 := rfl
theorem bk_R_spread_4 : vx_bk tb_R_spread 4 = kb_R_spread_4 := rfl
theorem bk_R_spread_15 : vx_bk tb_R_spread 15 = kb_R_spread_15 := rfl
theorem bk_R_spread_60 : vx_bk tb_R_spread 60 = kb_R_spread_60 := rfl
theorem bk_R_spread_66 : vx_bk tb_R_spread 66 = kb_R_spread_66 := rfl
theorem bk_R_spread_72 : vx_bk tb_R_spread 72 = kb_R_spread_72 := rfl
abbrev m_R_spread : Nat := 154
set_option maxRecDepth 100000 in
theorem ck_R_spread : vx_ckM prog_9_method_54_code 7 5 1 false (some .int) tb_R_spread = true := by decide +kernel
theorem ok_R_spread {As : List Value} {sz : Nat} {h : vx_H} {P : Option Value → vx_H → Prop} (L0 : vx_L) (hlen : (vx_ar As).length ≤ 5) (hL0 : vx_ar As ++ List.replicate (5 - (vx_ar As).length) none = L0)
    (body : ∀ (lim z : vx_Z) X, vx_cl0 none lim tb_R_spread (fun r z' h' => z' = z ∧ P r h') X → X 0 L0 [] z h) : vx_Ok m_R_spread As sz h P :=
  vx_ok0 (M := (⟨"VoteWallsModel", "spread", "(I)I"⟩, prog_9_method_54_code, 5, (some .int), 1, 0, 0, 1, 0)) rfl (ow := 7) rfl ck_R_spread rfl hlen hL0 body
abbrev kb_R_walk_0 : List vx_I := [(.aload_n 0, 1, 0, 0, .null, []), (.iconst 0, 1, 0, 0, .int 0, []), (.putfield 67, 3, 7, 0, .int 0, []), (.iload_n 1, 1, 1, 0, .null, []), (.invokestatic 90, 3, 104, 1, .null, []), (.ifCond .ne 5, 3, 14, 0, .null, []), (.iconst (-1), 1, 0, 0, .int (-1), []), (.ireturn, 1, 0, 0, .null, [])]
abbrev kb_R_walk_14 : List vx_I := [(.iload_n 2, 1, 2, 0, .null, []), (.invokestatic 94, 3, 106, 1, .null, []), (.ifCond .ne 6, 3, 24, 0, .null, []), (.bipush (-2), 2, 0, 0, .int (-2), []), (.ireturn, 1, 0, 0, .null, [])]
abbrev kb_R_walk_24 : List vx_I := [(.aload_n 0, 1, 0, 0, .null, []), (.iload_n 1, 1, 1, 0, .null, []), (.iload_n 2, 1, 2, 0, .null, []), (.iload_n 3, 1, 3, 0, .null, []), (.iload 4, 2, 4, 0, .null, []), (.invokevirtual 97, 3, 107, 4, .null, [(0, 0), (0, 0), (0, 0), (0, 0), (0, 0), (0, 0), (0, 0)]), (.istore 5, 2, 5, 0, .null, []), (.iload 5, 2, 5, 0, .null, []), (.ifCond .eq 10, 3, 47, 0, .null, []), (.aload_n 0, 1, 0, 0, .null, []), (.iload 5, 2, 5, 0, .null, []), (.invokevirtual 101, 3, 108, 1, .null, [(0, 0), (0, 0), (0, 0), (0, 0), (0, 0), (0, 0), (0, 0)]), (.ireturn, 1, 0, 0, .null, [])]
abbrev kb_R_walk_47 : List vx_I := [(.aload_n 0, 1, 0, 0, .null, []), (.invokevirtual 151, 3, 119, 0, .null, [(0, 0), (0, 0), (0, 0), (0, 0), (0, 0), (0, 0), (0, 0)]), (.ifCond .ne 6, 3, 57, 0, .null, []), (.bipush (-3), 2, 0, 0, .int (-3), []), (.ireturn, 1, 0, 0, .null, [])]
abbrev kb_R_walk_57 : List vx_I := [(.iload 4, 2, 4, 0, .null, []), (.bipush 50, 2, 0, 0, .int 50, []), (.if_icmp .le 6, 3, 67, 0, .null, []), (.bipush (-2), 2, 0, 0, .int (-2), []), (.ireturn, 1, 0, 0, .null, [])]
abbrev kb_R_walk_67 : List vx_I := [(.bipush 60, 2, 0, 0, .int 60, []), (.iload_n 1, 1, 1, 0, .null, []), (.imul, 1, 0, 0, .null, []), (.iload_n 3, 1, 3, 0, .null, []), (.iadd, 1, 0, 0, .null, []), (.istore 6, 2, 6, 0, .null, []), (.iconst 0, 1, 0, 0, .int 0, []), (.istore 7, 2, 7, 0, .null, [])]
abbrev kb_R_walk_78 : List vx_I := [(.iload 7, 2, 7, 0, .null, []), (.iload 4, 2, 4, 0, .null, []), (.if_icmp .ge 28, 3, 110, 0, .null, []), (.aload_n 0, 1, 0, 0, .null, []), (.aload_n 0, 1, 0, 0, .null, []), (.getfield 16, 3, 7, 4, .null, []), (.iload 6, 2, 6, 0, .null, []), (.iload 7, 2, 7, 0, .null, []), (.iadd, 1, 0, 0, .null, []), (.iaload, 1, 0, 0, .null, []), (.invokevirtual 207, 3, 140, 1, .null, [(0, 0), (0, 0), (0, 0), (0, 0), (0, 0), (0, 0), (0, 0)]), (.ifCond .ne 5, 3, 104, 0, .null, []), (.iconst (-1), 1, 0, 0, .int (-1), []), (.ireturn, 1, 0, 0, .null, [])]
abbrev kb_R_walk_104 : List vx_I := [(.iinc 7 1, 3, 7, 0, .int 1, []), (.goto (-29), 3, 78, 0, .null, [])]
abbrev kb_R_walk_110 : List vx_I := [(.aload_n 0, 1, 0, 0, .null, []), (.iload 6, 2, 6, 0, .null, []), (.iload 4, 2, 4, 0, .null, []), (.invokevirtual 229, 3, 156, 2, .null, [(0, 0), (0, 0), (0, 0), (0, 0), (0, 0), (0, 0), (0, 0)]), (.ireturn, 1, 0, 0, .null, [])]
def tb_R_walk : List (Nat × List vx_I) := [(0, kb_R_walk_0), (14, kb_R_walk_14), (24, kb_R_walk_24), (47, kb_R_walk_47), (57, kb_R_walk_57), (67, kb_R_walk_67), (78, kb_R_walk_78), (104, kb_R_walk_104), (110, kb_R_walk_110)]
theorem bk_R_walk_0 : vx_bk tb_R_walk 0 = kb_R_walk_0 := rfl
theorem bk_R_walk_14 : vx_bk tb_R_walk 14 = kb_R_walk_14 := rfl
theorem bk_R_walk_24 : vx_bk tb_R_walk 24 = kb_R_walk_24 := rfl
theorem bk_R_walk_47 : vx_bk tb_R_walk 47 = kb_R_walk_47 := rfl
theorem bk_R_walk_57 : vx_bk tb_R_walk 57 = kb_R_walk_57 := rfl
theorem bk_R_walk_67 : vx_bk tb_R_walk 67 = kb_R_walk_67 := rfl
theorem bk_R_walk_78 : vx_bk tb_R_walk 78 = kb_R_walk_78 := rfl
theorem bk_R_walk_104 : vx_bk tb_R_walk 104 = kb_R_walk_104 := rfl
theorem bk_R_walk_110 : vx_bk tb_R_walk 110 = kb_R_walk_110 := rfl
abbrev m_R_walk : Nat := 155
set_option maxRecDepth 100000 in
theorem ck_R_walk : vx_ckM prog_9_method_56_code 7 8 5 false (some .int) tb_R_walk = true := by decide +kernel
theorem ok_R_walk {As : List Value} {sz : Nat} {h : vx_H} {P : Option Value → vx_H → Prop} (L0 : vx_L) (hlen : (vx_ar As).length ≤ 8) (hL0 : vx_ar As ++ List.replicate (8 - (vx_ar As).length) none = L0)
    (body : ∀ (lim z : vx_Z) X, vx_cl0 none lim tb_R_walk (fun r z' h' => z' = z ∧ P r h') X → X 0 L0 [] z h) : vx_Ok m_R_walk As sz h P :=
  vx_ok0 (M := (⟨"VoteWallsModel", "walk", "(IIII)I"⟩, prog_9_method_56_code, 8, (some .int), 5, 0, 0, 4, 0)) rfl (ow := 7) rfl ck_R_walk rfl hlen hL0 body
abbrev kb_R_walked_0 : List vx_I := [(.aload_n 0, 1, 0, 0, .null, []), (.invokevirtual 194, 3, 130, 0, .null, [(0, 0), (0, 0), (0, 0), (0, 0), (0, 0), (0, 0), (0, 0)]), (.iconst 0, 1, 0, 0, .int 0, []), (.istore_n 3, 1, 3, 0, .null, [])]
abbrev kb_R_walked_6 : List vx_I := [(.iload_n 3, 1, 3, 0, .null, []), (.iload_n 2, 1, 2, 0, .null, []), (.if_icmp .ge 78, 3, 86, 0, .null, []), (.aload_n 0, 1, 0, 0, .null, []), (.iload_n 3, 1, 3, 0, .null, []), (.invokevirtual 197, 3, 131, 1, .null, [(0, 0), (0, 0), (0, 0), (0, 0), (0, 0), (0, 0), (0, 0)]), (.aload_n 0, 1, 0, 0, .null, []), (.getfield 16, 3, 7, 4, .null, []), (.iload_n 1, 1, 1, 0, .null, []), (.iload_n 3, 1, 3, 0, .null, []), (.iadd, 1, 0, 0, .null, []), (.iaload, 1, 0, 0, .null, []), (.istore 4, 2, 4, 0, .null, []), (.iload_n 3, 1, 3, 0, .null, []), (.ifCond .ne 16, 3, 43, 0, .null, []), (.iload 4, 2, 4, 0, .null, []), (.ifCond .ne 7, 3, 39, 0, .null, []), (.iconst 1, 1, 0, 0, .int 1, []), (.goto 25, 3, 61, 0, .null, [])]
abbrev kb_R_walked_39 : List vx_I := [(.iconst 0, 1, 0, 0, .int 0, []), (.goto 21, 3, 61, 0, .null, [])]
abbrev kb_R_walked_43 : List vx_I := [(.iload 4, 2, 4, 0, .null, []), (.aload_n 0, 1, 0, 0, .null, []), (.getfield 16, 3, 7, 4, .null, []), (.iload_n 1, 1, 1, 0, .null, []), (.iload_n 3, 1, 3, 0, .null, []), (.iadd, 1, 0, 0, .null, []), (.iconst 1, 1, 0, 0, .int 1, []), (.isub, 1, 0, 0, .null, []), (.iaload, 1, 0, 0, .null, []), (.isub, 1, 0, 0, .null, []), (.iconst (-1), 1, 0, 0, .int (-1), []), (.iconst 1, 1, 0, 0, .int 1, []), (.invokestatic 73, 3, 105, 3, .null, [])]
abbrev kb_R_walked_61 : List vx_I := [(.istore 5, 2, 5, 0, .null, []), (.iload 5, 2, 5, 0, .null, []), (.ifCond .eq 13, 3, 78, 0, .null, []), (.aload_n 0, 1, 0, 0, .null, []), (.iload 4, 2, 4, 0, .null, []), (.invokevirtual 210, 3, 141, 1, .null, [(0, 0), (0, 0), (0, 0), (0, 0), (0, 0), (0, 0), (0, 0)]), (.iconst 2, 1, 0, 0, .int 2, []), (.if_icmp .ge 5, 3, 80, 0, .null, [])]
abbrev kb_R_walked_78 : List vx_I := [(.iload_n 3, 1, 3, 0, .null, []), (.ireturn, 1, 0, 0, .null, [])]
abbrev kb_R_walked_80 : List vx_I := [(.iinc 3 1, 3, 3, 0, .int 1, []), (.goto (-77), 3, 6, 0, .null, [])]
abbrev kb_R_walked_86 : List vx_I := [(.iload_n 2, 1, 2, 0, .null, []), (.ireturn, 1, 0, 0, .null, [])]
def tb_R_walked : List (Nat × List vx_I) := [(0, kb_R_walked_0), (6, kb_R_walked_6), (39, kb_R_walked_39), (43, kb_R_walked_43), (61, kb_R_walked_61), (78, kb_R_walked_78), (80, kb_R_walked_80), (86, kb_R_walked_86)]
theorem bk_R_walked_0 : vx_bk tb_R_walked 0 = kb_R_walked_0 := rfl
theorem bk_R_walked_6 : vx_bk tb_R_walked 6 = kb_R_walked_6 := rfl
theorem bk_R_walked_39 : vx_bk tb_R_walked 39 = kb_R_walked_39 := rfl
theorem bk_R_walked_43 : vx_bk tb_R_walked 43 = kb_R_walked_43 := rfl
theorem bk_R_walked_61 : vx_bk tb_R_walked 61 = kb_R_walked_61 := rfl
theorem bk_R_walked_78 : vx_bk tb_R_walked 78 = kb_R_walked_78 := rfl
theorem bk_R_walked_80 : vx_bk tb_R_walked 80 = kb_R_walked_80 := rfl
theorem bk_R_walked_86 : vx_bk tb_R_walked 86 = kb_R_walked_86 := rfl
abbrev m_R_walked : Nat := 156
set_option maxRecDepth 100000 in
theorem ck_R_walked : vx_ckM prog_9_method_57_code 7 6 4 false (some .int) tb_R_walked = true := by decide +kernel
theorem ok_R_walked {As : List Value} {sz : Nat} {h : vx_H} {P : Option Value → vx_H → Prop} (L0 : vx_L) (hlen : (vx_ar As).length ≤ 6) (hL0 : vx_ar As ++ List.replicate (6 - (vx_ar As).length) none = L0)
    (body : ∀ (lim z : vx_Z) X, vx_cl0 none lim tb_R_walked (fun r z' h' => z' = z ∧ P r h') X → X 0 L0 [] z h) : vx_Ok m_R_walked As sz h P :=
  vx_ok0 (M := (⟨"VoteWallsModel", "walked", "(II)I"⟩, prog_9_method_57_code, 6, (some .int), 4, 0, 0, 2, 0)) rfl (ow := 7) rfl ck_R_walked rfl hlen hL0 body
abbrev kb_R_reading_0 : List vx_I := [(.aload_n 0, 1, 0, 0, .null, []), (.iload_n 1, 1, 1, 0, .null, []), (.invokevirtual 158, 3, 121, 1, .null, [(0, 0), (0, 0), (0, 0), (0, 0), (0, 0), (0, 0), (0, 0)]), (.ifCond .ne 5, 3, 10, 0, .null, []), (.iconst (-1), 1, 0, 0, .int (-1), []), (.ireturn, 1, 0, 0, .null, [])]
abbrev kb_R_reading_10 : List vx_I := [(.iload_n 2, 1, 2, 0, .null, []), (.invokestatic 155, 3, 123, 1, .null, []), (.ifCond .eq 13, 3, 27, 0, .null, []), (.iload_n 3, 1, 3, 0, .null, []), (.iconst 0, 1, 0, 0, .int 0, []), (.bipush 30, 2, 0, 0, .int 30, []), (.invokestatic 73, 3, 105, 3, .null, []), (.ifCond .ne 6, 3, 30, 0, .null, [])]
abbrev kb_R_reading_27 : List vx_I := [(.bipush (-2), 2, 0, 0, .int (-2), []), (.ireturn, 1, 0, 0, .null, [])]
abbrev kb_R_reading_30 : List vx_I := [(.aload_n 0, 1, 0, 0, .null, []), (.getfield 129, 3, 7, 31, .null, []), (.bipush 8, 2, 0, 0, .int 8, []), (.if_icmp .ne 6, 3, 42, 0, .null, []), (.bipush (-4), 2, 0, 0, .int (-4), []), (.ireturn, 1, 0, 0, .null, [])]
abbrev kb_R_reading_42 : List vx_I := [(.aload_n 0, 1, 0, 0, .null, []), (.getfield 58, 3, 7, 32, .null, []), (.aload_n 0, 1, 0, 0, .null, []), (.getfield 129, 3, 7, 31, .null, []), (.iload_n 1, 1, 1, 0, .null, []), (.iastore, 1, 0, 0, .null, []), (.aload_n 0, 1, 0, 0, .null, []), (.getfield 61, 3, 7, 33, .null, []), (.aload_n 0, 1, 0, 0, .null, []), (.getfield 129, 3, 7, 31, .null, []), (.iload_n 2, 1, 2, 0, .null, []), (.iastore, 1, 0, 0, .null, []), (.aload_n 0, 1, 0, 0, .null, []), (.getfield 64, 3, 7, 34, .null, []), (.aload_n 0, 1, 0, 0, .null, []), (.getfield 129, 3, 7, 31, .null, []), (.iload_n 3, 1, 3, 0, .null, []), (.iastore, 1, 0, 0, .null, []), (.aload_n 0, 1, 0, 0, .null, []), (.dup, 1, 0, 0, .null, []), (.getfield 129, 3, 7, 31, .null, []), (.iconst 1, 1, 0, 0, .int 1, []), (.iadd, 1, 0, 0, .null, []), (.putfield 129, 3, 7, 31, .int 0, []), (.aload_n 0, 1, 0, 0, .null, []), (.getfield 129, 3, 7, 31, .null, []), (.iconst 1, 1, 0, 0, .int 1, []), (.isub, 1, 0, 0, .null, []), (.ireturn, 1, 0, 0, .null, [])]
def tb_R_reading : List (Nat × List vx_I) := [(0, kb_R_reading_0), (10, kb_R_reading_10), (27, kb_R_reading_27), (30, kb_R_reading_30), (42, kb_R_reading_42)]
theorem bk_R_reading_0 : vx_bk tb_R_reading 0 = kb_R_reading_0 := rfl
theorem bk_R_reading_10 : vx_bk tb_R_reading 10 = kb_R_reading_10 := rfl
theorem bk_R_reading_27 : vx_bk tb_R_reading 27 = kb_R_reading_27 := rfl
theorem bk_R_reading_30 : vx_bk tb_R_reading 30 = kb_R_reading_30 := rfl
theorem bk_R_reading_42 : vx_bk tb_R_reading 42 = kb_R_reading_42 := rfl
abbrev m_R_reading : Nat := 157
set_option maxRecDepth 100000 in
theorem ck_R_reading : vx_ckM prog_9_method_58_code 7 4 2 false (some .int) tb_R_reading = true := by decide +kernel
theorem ok_R_reading {As : List Value} {sz : Nat} {h : vx_H} {P : Option Value → vx_H → Prop} (L0 : vx_L) (hlen : (vx_ar As).length ≤ 4) (hL0 : vx_ar As ++ List.replicate (4 - (vx_ar As).length) none = L0)
    (body : ∀ (lim z : vx_Z) X, vx_cl0 none lim tb_R_reading (fun r z' h' => z' = z ∧ P r h') X → X 0 L0 [] z h) : vx_Ok m_R_reading As sz h P :=
  vx_ok0 (M := (⟨"VoteWallsModel", "reading", "(III)I"⟩, prog_9_method_58_code, 4, (some .int), 2, 0, 0, 3, 0)) rfl (ow := 7) rfl ck_R_reading rfl hlen hL0 body
abbrev kb_R_back_0 : List vx_I := [(.iload_n 1, 1, 1, 0, .null, []), (.iconst 0, 1, 0, 0, .int 0, []), (.aload_n 0, 1, 0, 0, .null, []), (.getfield 129, 3, 7, 31, .null, []), (.invokestatic 73, 3, 105, 3, .null, []), (.ifCond .ne 6, 3, 15, 0, .null, []), (.bipush (-2), 2, 0, 0, .int (-2), []), (.ireturn, 1, 0, 0, .null, [])]
abbrev kb_R_back_15 : List vx_I := [(.aload_n 0, 1, 0, 0, .null, []), (.dup, 1, 0, 0, .null, []), (.getfield 129, 3, 7, 31, .null, []), (.iload_n 1, 1, 1, 0, .null, []), (.isub, 1, 0, 0, .null, []), (.putfield 129, 3, 7, 31, .int 0, []), (.aload_n 0, 1, 0, 0, .null, []), (.getfield 129, 3, 7, 31, .null, []), (.ireturn, 1, 0, 0, .null, [])]
def tb_R_back : List (Nat × List vx_I) := [(0, kb_R_back_0), (15, kb_R_back_15)]
theorem bk_R_back_0 : vx_bk tb_R_back 0 = kb_R_back_0 := rfl
theorem bk_R_back_15 : vx_bk tb_R_back 15 = kb_R_back_15 := rfl
abbrev m_R_back : Nat := 158
set_option maxRecDepth 100000 in
theorem ck_R_back : vx_ckM prog_9_method_59_code 7 2 1 false (some .int) tb_R_back = true := by decide +kernel
theorem ok_R_back {As : List Value} {sz : Nat} {h : vx_H} {P : Option Value → vx_H → Prop} (L0 : vx_L) (hlen : (vx_ar As).length ≤ 2) (hL0 : vx_ar As ++ List.replicate (2 - (vx_ar As).length) none = L0)
    (body : ∀ (lim z : vx_Z) X, vx_cl0 none lim tb_R_back (fun r z' h' => z' = z ∧ P r h') X → X 0 L0 [] z h) : vx_Ok m_R_back As sz h P :=
  vx_ok0 (M := (⟨"VoteWallsModel", "back", "(I)I"⟩, prog_9_method_59_code, 2, (some .int), 1, 0, 0, 1, 0)) rfl (ow := 7) rfl ck_R_back rfl hlen hL0 body
abbrev kb_R_struck_0 : List vx_I := [(.aload_n 0, 1, 0, 0, .null, []), (.invokevirtual 151, 3, 119, 0, .null, [(0, 0), (0, 0), (0, 0), (0, 0), (0, 0), (0, 0), (0, 0)]), (.ifCond .ne 6, 3, 10, 0, .null, []), (.bipush (-3), 2, 0, 0, .int (-3), []), (.ireturn, 1, 0, 0, .null, [])]
abbrev kb_R_struck_10 : List vx_I := [(.iconst 0, 1, 0, 0, .int 0, []), (.istore_n 1, 1, 1, 0, .null, []), (.iconst 0, 1, 0, 0, .int 0, []), (.istore_n 2, 1, 2, 0, .null, [])]
abbrev kb_R_struck_14 : List vx_I := [(.iload_n 2, 1, 2, 0, .null, []), (.aload_n 0, 1, 0, 0, .null, []), (.getfield 80, 3, 7, 7, .null, []), (.if_icmp .ge 33, 3, 52, 0, .null, []), (.aload_n 0, 1, 0, 0, .null, []), (.iconst 1, 1, 0, 0, .int 1, []), (.iload_n 2, 1, 2, 0, .null, []), (.ishl, 1, 0, 0, .null, []), (.putfield 167, 3, 7, 28, .int 0, []), (.iload_n 1, 1, 1, 0, .null, []), (.aload_n 0, 1, 0, 0, .null, []), (.invokevirtual 232, 3, 160, 0, .null, [(0, 0), (0, 0), (0, 0), (0, 0), (0, 0), (0, 0), (0, 0)]), (.ifCond .eq 9, 3, 43, 0, .null, []), (.iconst 1, 1, 0, 0, .int 1, []), (.iload_n 2, 1, 2, 0, .null, []), (.ishl, 1, 0, 0, .null, []), (.goto 4, 3, 44, 0, .null, [])]
abbrev kb_R_struck_43 : List vx_I := [(.iconst 0, 1, 0, 0, .int 0, [])]
abbrev kb_R_struck_44 : List vx_I := [(.ior, 1, 0, 0, .null, []), (.istore_n 1, 1, 1, 0, .null, []), (.iinc 2 1, 3, 2, 0, .int 1, []), (.goto (-35), 3, 14, 0, .null, [])]
abbrev kb_R_struck_52 : List vx_I := [(.aload_n 0, 1, 0, 0, .null, []), (.iconst 0, 1, 0, 0, .int 0, []), (.putfield 167, 3, 7, 28, .int 0, []), (.iload_n 1, 1, 1, 0, .null, []), (.ireturn, 1, 0, 0, .null, [])]
def tb_R_struck : List (Nat × List vx_I) := [(0, kb_R_struck_0), (10, kb_R_struck_10), (14, kb_R_struck_14), (43, kb_R_struck_43), (44, kb_R_struck_44), (52, kb_R_struck_52)]
theorem bk_R_struck_0 : vx_bk tb_R_struck 0 = kb_R_struck_0 := rfl
theorem bk_R_struck_10 : vx_bk tb_R_struck 10 = kb_R_struck_10 := rfl
theorem bk_R_struck_14 : vx_bk tb_R_struck 14 = kb_R_struck_14 := rfl
theorem bk_R_struck_43 : vx_bk tb_R_struck 43 = kb_R_struck_43 := rfl
theorem bk_R_struck_44 : vx_bk tb_R_struck 44 = kb_R_struck_44 := rfl
theorem bk_R_struck_52 : vx_bk tb_R_struck 52 = kb_R_struck_52 := rfl
abbrev m_R_struck : Nat := 159
set_option maxRecDepth 100000 in
theorem ck_R_struck : vx_ckM prog_9_method_61_code 7 3 6 false (some .int) tb_R_struck = true := by decide +kernel
theorem ok_R_struck {As : List Value} {sz : Nat} {h : vx_H} {P : Option Value → vx_H → Prop} (L0 : vx_L) (hlen : (vx_ar As).length ≤ 3) (hL0 : vx_ar As ++ List.replicate (3 - (vx_ar As).length) none = L0)
    (body : ∀ (lim z : vx_Z) X, vx_cl0 none lim tb_R_struck (fun r z' h' => z' = z ∧ P r h') X → X 0 L0 [] z h) : vx_Ok m_R_struck As sz h P :=
  vx_ok0 (M := (⟨"VoteWallsModel", "struck", "()I"⟩, prog_9_method_61_code, 3, (some .int), 6, 0, 0, 0, 0)) rfl (ow := 7) rfl ck_R_struck rfl hlen hL0 body
abbrev kb_R_areSo_0 : List vx_I := [(.iconst 0, 1, 0, 0, .int 0, []), (.istore_n 1, 1, 1, 0, .null, [])]
abbrev kb_R_areSo_2 : List vx_I := [(.iload_n 1, 1, 1, 0, .null, []), (.aload_n 0, 1, 0, 0, .null, []), (.getfield 129, 3, 7, 31, .null, []), (.if_icmp .ge 41, 3, 48, 0, .null, []), (.aload_n 0, 1, 0, 0, .null, []), (.aload_n 0, 1, 0, 0, .null, []), (.getfield 61, 3, 7, 33, .null, []), (.iload_n 1, 1, 1, 0, .null, []), (.iaload, 1, 0, 0, .null, []), (.invokevirtual 204, 3, 129, 1, .null, [(0, 0), (0, 0), (0, 0), (0, 0), (0, 0), (0, 0), (0, 0)]), (.aload_n 0, 1, 0, 0, .null, []), (.getfield 55, 3, 7, 29, .null, []), (.aload_n 0, 1, 0, 0, .null, []), (.getfield 58, 3, 7, 32, .null, []), (.iload_n 1, 1, 1, 0, .null, []), (.iaload, 1, 0, 0, .null, []), (.iaload, 1, 0, 0, .null, []), (.aload_n 0, 1, 0, 0, .null, []), (.getfield 64, 3, 7, 34, .null, []), (.iload_n 1, 1, 1, 0, .null, []), (.iaload, 1, 0, 0, .null, []), (.if_icmp .eq 5, 3, 42, 0, .null, []), (.iconst 0, 1, 0, 0, .int 0, []), (.ireturn, 1, 1, 0, .null, [])]
abbrev kb_R_areSo_42 : List vx_I := [(.iinc 1 1, 3, 1, 0, .int 1, []), (.goto (-43), 3, 2, 0, .null, [])]
abbrev kb_R_areSo_48 : List vx_I := [(.iconst 1, 1, 0, 0, .int 1, []), (.ireturn, 1, 1, 0, .null, [])]
def tb_R_areSo : List (Nat × List vx_I) := [(0, kb_R_areSo_0), (2, kb_R_areSo_2), (42, kb_R_areSo_42), (48, kb_R_areSo_48)]
theorem bk_R_areSo_0 : vx_bk tb_R_areSo 0 = kb_R_areSo_0 := rfl
theorem bk_R_areSo_2 : vx_bk tb_R_areSo 2 = kb_R_areSo_2 := rfl
theorem bk_R_areSo_42 : vx_bk tb_R_areSo 42 = kb_R_areSo_42 := rfl
theorem bk_R_areSo_48 : vx_bk tb_R_areSo 48 = kb_R_areSo_48 := rfl
abbrev m_R_areSo : Nat := 160
set_option maxRecDepth 100000 in
theorem ck_R_areSo : vx_ckM prog_9_method_60_code 7 2 5 false (some .boolean) tb_R_areSo = true := by decide +kernel
theorem ok_R_areSo {As : List Value} {sz : Nat} {h : vx_H} {P : Option Value → vx_H → Prop} (L0 : vx_L) (hlen : (vx_ar As).length ≤ 2) (hL0 : vx_ar As ++ List.replicate (2 - (vx_ar As).length) none = L0)
    (body : ∀ (lim z : vx_Z) X, vx_cl0 none lim tb_R_areSo (fun r z' h' => z' = z ∧ P r h') X → X 0 L0 [] z h) : vx_Ok m_R_areSo As sz h P :=
  vx_ok0 (M := (⟨"VoteWallsModel", "areSo", "()Z"⟩, prog_9_method_60_code, 2, (some .boolean), 5, 0, 0, 0, 0)) rfl (ow := 7) rfl ck_R_areSo rfl hlen hL0 body
abbrev kb_R_laws_0 : List vx_I := [(.aload_n 0, 1, 0, 0, .null, []), (.invokevirtual 151, 3, 119, 0, .null, [(0, 0), (0, 0), (0, 0), (0, 0), (0, 0), (0, 0), (0, 0)]), (.ifCond .ne 6, 3, 10, 0, .null, []), (.bipush (-3), 2, 0, 0, .int (-3), []), (.ireturn, 1, 0, 0, .null, [])]
abbrev kb_R_laws_10 : List vx_I := [(.aload_n 0, 1, 0, 0, .null, []), (.getfield 120, 3, 7, 11, .null, []), (.istore_n 1, 1, 1, 0, .null, []), (.iconst 0, 1, 0, 0, .int 0, []), (.istore_n 2, 1, 2, 0, .null, []), (.iconst 0, 1, 0, 0, .int 0, []), (.istore_n 3, 1, 3, 0, .null, [])]
abbrev kb_R_laws_19 : List vx_I := [(.iload_n 3, 1, 3, 0, .null, []), (.iconst 2, 1, 0, 0, .int 2, []), (.if_icmp .ge 31, 3, 52, 0, .null, []), (.aload_n 0, 1, 0, 0, .null, []), (.iload_n 3, 1, 3, 0, .null, []), (.putfield 120, 3, 7, 11, .int 0, []), (.iload_n 2, 1, 2, 0, .null, []), (.aload_n 0, 1, 0, 0, .null, []), (.invokevirtual 232, 3, 160, 0, .null, [(0, 0), (0, 0), (0, 0), (0, 0), (0, 0), (0, 0), (0, 0)]), (.ifCond .eq 9, 3, 43, 0, .null, []), (.iconst 1, 1, 0, 0, .int 1, []), (.iload_n 3, 1, 3, 0, .null, []), (.ishl, 1, 0, 0, .null, []), (.goto 4, 3, 44, 0, .null, [])]
abbrev kb_R_laws_43 : List vx_I := [(.iconst 0, 1, 0, 0, .int 0, [])]
abbrev kb_R_laws_44 : List vx_I := [(.ior, 1, 0, 0, .null, []), (.istore_n 2, 1, 2, 0, .null, []), (.iinc 3 1, 3, 3, 0, .int 1, []), (.goto (-30), 3, 19, 0, .null, [])]
abbrev kb_R_laws_52 : List vx_I := [(.aload_n 0, 1, 0, 0, .null, []), (.iload_n 1, 1, 1, 0, .null, []), (.putfield 120, 3, 7, 11, .int 0, []), (.iload_n 2, 1, 2, 0, .null, []), (.ireturn, 1, 0, 0, .null, [])]
def tb_R_laws : List (Nat × List vx_I) := [(0, kb_R_laws_0), (10, kb_R_laws_10), (19, kb_R_laws_19), (43, kb_R_laws_43), (44, kb_R_laws_44), (52, kb_R_laws_52)]
theorem bk_R_laws_0 : vx_bk tb_R_laws 0 = kb_R_laws_0 := rfl
theorem bk_R_laws_10 : vx_bk tb_R_laws 10 = kb_R_laws_10 := rfl
theorem bk_R_laws_19 : vx_bk tb_R_laws 19 = kb_R_laws_19 := rfl
theorem bk_R_laws_43 : vx_bk tb_R_laws 43 = kb_R_laws_43 := rfl
theorem bk_R_laws_44 : vx_bk tb_R_laws 44 = kb_R_laws_44 := rfl
theorem bk_R_laws_52 : vx_bk tb_R_laws 52 = kb_R_laws_52 := rfl
abbrev m_R_laws : Nat := 161
set_option maxRecDepth 100000 in
theorem ck_R_laws : vx_ckM prog_9_method_62_code 7 4 6 false (some .int) tb_R_laws = true := by decide +kernel
theorem ok_R_laws {As : List Value} {sz : Nat} {h : vx_H} {P : Option Value → vx_H → Prop} (L0 : vx_L) (hlen : (vx_ar As).length ≤ 4) (hL0 : vx_ar As ++ List.replicate (4 - (vx_ar As).length) none = L0)
    (body : ∀ (lim z : vx_Z) X, vx_cl0 none lim tb_R_laws (fun r z' h' => z' = z ∧ P r h') X → X 0 L0 [] z h) : vx_Ok m_R_laws As sz h P :=
  vx_ok0 (M := (⟨"VoteWallsModel", "laws", "()I"⟩, prog_9_method_62_code, 4, (some .int), 6, 0, 0, 0, 0)) rfl (ow := 7) rfl ck_R_laws rfl hlen hL0 body
abbrev kb_R_stood_0 : List vx_I := [(.aload_n 0, 1, 0, 0, .null, []), (.iload_n 1, 1, 1, 0, .null, []), (.invokevirtual 145, 3, 116, 1, .null, [(0, 0), (0, 0), (0, 0), (0, 0), (0, 0), (0, 0), (0, 0)]), (.ifCond .ne 5, 3, 10, 0, .null, []), (.iconst (-1), 1, 0, 0, .int (-1), []), (.ireturn, 1, 0, 0, .null, [])]
abbrev kb_R_stood_10 : List vx_I := [(.aload_n 0, 1, 0, 0, .null, []), (.getfield 25, 3, 7, 10, .null, []), (.iload_n 1, 1, 1, 0, .null, []), (.iaload, 1, 0, 0, .null, []), (.istore_n 2, 1, 2, 0, .null, []), (.iconst 0, 1, 0, 0, .int 0, []), (.istore_n 3, 1, 3, 0, .null, []), (.iconst 0, 1, 0, 0, .int 0, []), (.istore 4, 2, 4, 0, .null, [])]
abbrev kb_R_stood_22 : List vx_I := [(.iload 4, 2, 4, 0, .null, []), (.aload_n 0, 1, 0, 0, .null, []), (.getfield 111, 3, 7, 5, .null, []), (.if_icmp .ge 35, 3, 63, 0, .null, []), (.aload_n 0, 1, 0, 0, .null, []), (.getfield 25, 3, 7, 10, .null, []), (.iload_n 1, 1, 1, 0, .null, []), (.iload 4, 2, 4, 0, .null, []), (.iastore, 1, 0, 0, .null, []), (.iload_n 3, 1, 3, 0, .null, []), (.aload_n 0, 1, 0, 0, .null, []), (.invokevirtual 232, 3, 160, 0, .null, [(0, 0), (0, 0), (0, 0), (0, 0), (0, 0), (0, 0), (0, 0)]), (.ifCond .eq 10, 3, 54, 0, .null, []), (.iconst 1, 1, 0, 0, .int 1, []), (.iload 4, 2, 4, 0, .null, []), (.ishl, 1, 0, 0, .null, []), (.goto 4, 3, 55, 0, .null, [])]
abbrev kb_R_stood_54 : List vx_I := [(.iconst 0, 1, 0, 0, .int 0, [])]
abbrev kb_R_stood_55 : List vx_I := [(.ior, 1, 0, 0, .null, []), (.istore_n 3, 1, 3, 0, .null, []), (.iinc 4 1, 3, 4, 0, .int 1, []), (.goto (-38), 3, 22, 0, .null, [])]
abbrev kb_R_stood_63 : List vx_I := [(.aload_n 0, 1, 0, 0, .null, []), (.getfield 25, 3, 7, 10, .null, []), (.iload_n 1, 1, 1, 0, .null, []), (.iload_n 2, 1, 2, 0, .null, []), (.iastore, 1, 0, 0, .null, []), (.iload_n 3, 1, 3, 0, .null, []), (.ireturn, 1, 0, 0, .null, [])]
def tb_R_stood : List (Nat × List vx_I) := [(0, kb_R_stood_0), (10, kb_R_stood_10), (22, kb_R_stood_22), (54, kb_R_stood_54), (55, kb_R_stood_55), (63, kb_R_stood_63)]
theorem bk_R_stood_0 : vx_bk tb_R_stood 0 = kb_R_stood_0 := rfl
theorem bk_R_stood_10 : vx_bk tb_R_stood 10 = kb_R_stood_10 := rfl
theorem bk_R_stood_22 : vx_bk tb_R_stood 22 = kb_R_stood_22 := rfl
theorem bk_R_stood_54 : vx_bk tb_R_stood 54 = kb_R_stood_54 := rfl
theorem bk_R_stood_55 : vx_bk tb_R_stood 55 = kb_R_stood_55 := rfl
theorem bk_R_stood_63 : vx_bk tb_R_stood 63 = kb_R_stood_63 := rfl
abbrev m_R_stood : Nat := 162
set_option maxRecDepth 100000 in
theorem ck_R_stood : vx_ckM prog_9_method_63_code 7 5 6 false (some .int) tb_R_stood = true := by decide +kernel
theorem ok_R_stood {As : List Value} {sz : Nat} {h : vx_H} {P : Option Value → vx_H → Prop} (L0 : vx_L) (hlen : (vx_ar As).length ≤ 5) (hL0 : vx_ar As ++ List.replicate (5 - (vx_ar As).length) none = L0)
    (body : ∀ (lim z : vx_Z) X, vx_cl0 none lim tb_R_stood (fun r z' h' => z' = z ∧ P r h') X → X 0 L0 [] z h) : vx_Ok m_R_stood As sz h P :=
  vx_ok0 (M := (⟨"VoteWallsModel", "stood", "(I)I"⟩, prog_9_method_63_code, 5, (some .int), 6, 0, 0, 1, 0)) rfl (ow := 7) rfl ck_R_stood rfl hlen hL0 body
abbrev kb_R_odds_0 : List vx_I := [(.aload_n 0, 1, 0, 0, .null, []), (.iload_n 1, 1, 1, 0, .null, []), (.invokevirtual 145, 3, 116, 1, .null, [(0, 0), (0, 0), (0, 0), (0, 0), (0, 0), (0, 0), (0, 0)]), (.ifCond .eq 28, 3, 33, 0, .null, []), (.aload_n 0, 1, 0, 0, .null, []), (.iload_n 2, 1, 2, 0, .null, []), (.invokevirtual 145, 3, 116, 1, .null, [(0, 0), (0, 0), (0, 0), (0, 0), (0, 0), (0, 0), (0, 0)]), (.ifCond .eq 20, 3, 33, 0, .null, []), (.iload_n 3, 1, 3, 0, .null, []), (.invokestatic 155, 3, 123, 1, .null, []), (.ifCond .eq 13, 3, 33, 0, .null, []), (.iload 4, 2, 4, 0, .null, []), (.iconst 0, 1, 0, 0, .int 0, []), (.iconst 1, 1, 0, 0, .int 1, []), (.invokestatic 73, 3, 105, 3, .null, []), (.ifCond .ne 7, 3, 37, 0, .null, [])]
abbrev kb_R_odds_33 : List vx_I := [(.ldc2_w 71, 3, 0, 0, .long (-9223372036854775808), []), (.lreturn, 1, 0, 0, .null, [])]
abbrev kb_R_odds_37 : List vx_I := [(.iconst 0, 1, 0, 0, .int 0, []), (.istore 5, 2, 5, 0, .null, []), (.iconst 0, 1, 0, 0, .int 0, []), (.istore 6, 2, 6, 0, .null, [])]
abbrev kb_R_odds_43 : List vx_I := [(.iload 6, 2, 6, 0, .null, []), (.iconst 1, 1, 0, 0, .int 1, []), (.aload_n 0, 1, 0, 0, .null, []), (.getfield 80, 3, 7, 7, .null, []), (.ishl, 1, 0, 0, .null, []), (.if_icmp .ge 43, 3, 94, 0, .null, []), (.aload_n 0, 1, 0, 0, .null, []), (.iload 6, 2, 6, 0, .null, []), (.putfield 167, 3, 7, 28, .int 0, []), (.aload_n 0, 1, 0, 0, .null, []), (.iload_n 3, 1, 3, 0, .null, []), (.invokevirtual 204, 3, 129, 1, .null, [(0, 0), (0, 0), (0, 0), (0, 0), (0, 0), (0, 0), (0, 0)]), (.iload 5, 2, 5, 0, .null, []), (.aload_n 0, 1, 0, 0, .null, []), (.iload_n 1, 1, 1, 0, .null, []), (.invokevirtual 170, 3, 136, 1, .null, [(0, 0), (0, 0), (0, 0), (0, 0), (0, 0), (0, 0), (0, 0)]), (.aload_n 0, 1, 0, 0, .null, []), (.iload_n 2, 1, 2, 0, .null, []), (.invokevirtual 170, 3, 136, 1, .null, [(0, 0), (0, 0), (0, 0), (0, 0), (0, 0), (0, 0), (0, 0)]), (.if_icmp .ne 7, 3, 84, 0, .null, []), (.iconst 1, 1, 0, 0, .int 1, []), (.goto 4, 3, 85, 0, .null, [])]
abbrev kb_R_odds_84 : List vx_I := [(.iconst 0, 1, 0, 0, .int 0, [])]
abbrev kb_R_odds_85 : List vx_I := [(.iadd, 1, 0, 0, .null, []), (.istore 5, 2, 5, 0, .null, []), (.iinc 6 1, 3, 6, 0, .int 1, []), (.goto (-48), 3, 43, 0, .null, [])]
abbrev kb_R_odds_94 : List vx_I := [(.aload_n 0, 1, 0, 0, .null, []), (.iconst 0, 1, 0, 0, .int 0, []), (.putfield 167, 3, 7, 28, .int 0, []), (.iload 5, 2, 5, 0, .null, []), (.i2l, 1, 0, 0, .null, []), (.lconst 1, 1, 0, 0, .long 1, []), (.aload_n 0, 1, 0, 0, .null, []), (.getfield 80, 3, 7, 7, .null, []), (.lshl, 1, 0, 0, .null, []), (.iload 4, 2, 4, 0, .null, []), (.invokestatic 235, 3, 164, 3, .null, []), (.lreturn, 1, 0, 0, .null, [])]
def tb_R_odds : List (Nat × List vx_I) := [(0, kb_R_odds_0), (33, kb_R_odds_33), (37, kb_R_odds_37), (43, kb_R_odds_43), (84, kb_R_odds_84), (85, kb_R_odds_85), (94, kb_R_odds_94)]
theorem bk_R_odds_0 : vx_bk tb_R_odds 0 = kb_R_odds_0 := rfl
theorem bk_R_odds_33 : vx_bk tb_R_odds 33 = kb_R_odds_33 := rfl
theorem bk_R_odds_37 : vx_bk tb_R_odds 37 = kb_R_odds_37 := rfl
theorem bk_R_odds_43 : vx_bk tb_R_odds 43 = kb_R_odds_43 := rfl
theorem bk_R_odds_84 : vx_bk tb_R_odds 84 = kb_R_odds_84 := rfl
theorem bk_R_odds_85 : vx_bk tb_R_odds 85 = kb_R_odds_85 := rfl
theorem bk_R_odds_94 : vx_bk tb_R_odds 94 = kb_R_odds_94 := rfl
abbrev m_R_odds : Nat := 163
set_option maxRecDepth 100000 in
theorem ck_R_odds : vx_ckM prog_9_method_65_code 7 7 5 false (some .long) tb_R_odds = true := by decide +kernel
theorem ok_R_odds {As : List Value} {sz : Nat} {h : vx_H} {P : Option Value → vx_H → Prop} (L0 : vx_L) (hlen : (vx_ar As).length ≤ 7) (hL0 : vx_ar As ++ List.replicate (7 - (vx_ar As).length) none = L0)
    (body : ∀ (lim z : vx_Z) X, vx_cl0 none lim tb_R_odds (fun r z' h' => z' = z ∧ P r h') X → X 0 L0 [] z h) : vx_Ok m_R_odds As sz h P :=
  vx_ok0 (M := (⟨"VoteWallsModel", "odds", "(IIII)J"⟩, prog_9_method_65_code, 7, (some .long), 5, 0, 0, 4, 0)) rfl (ow := 7) rfl ck_R_odds rfl hlen hL0 body
abbrev kb_R_inLeastTerms_0 : List vx_I := [(.lload_n 0, 1, 0, 0, .null, []), (.lstore 5, 2, 5, 0, .null, []), (.lload_n 2, 1, 2, 0, .null, []), (.lstore 7, 2, 7, 0, .null, [])]
abbrev kb_R_inLeastTerms_6 : List vx_I := [(.lload 7, 2, 7, 0, .null, []), (.lconst 0, 1, 0, 0, .long 0, []), (.lcmp, 1, 0, 0, .null, []), (.ifCond .eq 21, 3, 31, 0, .null, []), (.lload 5, 2, 5, 0, .null, []), (.lload 7, 2, 7, 0, .null, []), (.lrem, 1, 0, 0, .null, []), (.lstore 9, 2, 9, 0, .null, []), (.lload 7, 2, 7, 0, .null, []), (.lstore 5, 2, 5, 0, .null, []), (.lload 9, 2, 9, 0, .null, []), (.lstore 7, 2, 7, 0, .null, []), (.goto (-22), 3, 6, 0, .null, [])]
abbrev kb_R_inLeastTerms_31 : List vx_I := [(.iload 4, 2, 4, 0, .null, []), (.ifCond .ne 10, 3, 43, 0, .null, []), (.lload_n 0, 1, 0, 0, .null, []), (.lload 5, 2, 5, 0, .null, []), (.ldiv, 1, 0, 0, .null, []), (.goto 7, 3, 47, 0, .null, [])]
abbrev kb_R_inLeastTerms_43 : List vx_I := [(.lload_n 2, 1, 2, 0, .null, []), (.lload 5, 2, 5, 0, .null, []), (.ldiv, 1, 0, 0, .null, [])]
abbrev kb_R_inLeastTerms_47 : List vx_I := [(.lreturn, 1, 0, 0, .null, [])]
def tb_R_inLeastTerms : List (Nat × List vx_I) := [(0, kb_R_inLeastTerms_0), (6, kb_R_inLeastTerms_6), (31, kb_R_inLeastTerms_31), (43, kb_R_inLeastTerms_43), (47, kb_R_inLeastTerms_47)]
theorem bk_R_inLeastTerms_0 : vx_bk tb_R_inLeastTerms 0 = kb_R_inLeastTerms_0 := rfl
theorem bk_R_inLeastTerms_6 : vx_bk tb_R_inLeastTerms 6 = kb_R_inLeastTerms_6 := rfl
theorem bk_R_inLeastTerms_31 : vx_bk tb_R_inLeastTerms 31 = kb_R_inLeastTerms_31 := rfl
theorem bk_R_inLeastTerms_43 : vx_bk tb_R_inLeastTerms 43 = kb_R_inLeastTerms_43 := rfl
theorem bk_R_inLeastTerms_47 : vx_bk tb_R_inLeastTerms 47 = kb_R_inLeastTerms_47 := rfl
abbrev m_R_inLeastTerms : Nat := 164
set_option maxRecDepth 100000 in
theorem ck_R_inLeastTerms : vx_ckM prog_9_method_64_code 7 11 0 false (some .long) tb_R_inLeastTerms = true := by decide +kernel
theorem ok_R_inLeastTerms {As : List Value} {sz : Nat} {h : vx_H} {P : Option Value → vx_H → Prop} (L0 : vx_L) (hlen : (vx_ar As).length ≤ 11) (hL0 : vx_ar As ++ List.replicate (11 - (vx_ar As).length) none = L0)
    (body : ∀ (lim z : vx_Z) X, vx_cl0 none lim tb_R_inLeastTerms (fun r z' h' => z' = z ∧ P r h') X → X 0 L0 [] z h) : vx_Ok m_R_inLeastTerms As sz h P :=
  vx_ok0 (M := (⟨"VoteWallsModel", "inLeastTerms", "(JJI)J"⟩, prog_9_method_64_code, 11, (some .long), 0, 0, 0, 3, 1)) rfl (ow := 7) rfl ck_R_inLeastTerms rfl hlen hL0 body
abbrev kb_R_sheet_0 : List vx_I := [(.aload_n 0, 1, 0, 0, .null, []), (.iconst 0, 1, 0, 0, .int 0, []), (.putfield 67, 3, 7, 0, .int 0, []), (.iload_n 1, 1, 1, 0, .null, []), (.invokestatic 90, 3, 104, 1, .null, []), (.ifCond .ne 5, 3, 14, 0, .null, []), (.iconst (-1), 1, 0, 0, .int (-1), []), (.ireturn, 1, 0, 0, .null, [])]
abbrev kb_R_sheet_14 : List vx_I := [(.iload_n 2, 1, 2, 0, .null, []), (.invokestatic 94, 3, 106, 1, .null, []), (.ifCond .eq 9, 3, 27, 0, .null, []), (.iload_n 3, 1, 3, 0, .null, []), (.bipush 60, 2, 0, 0, .int 60, []), (.if_icmp .le 6, 3, 30, 0, .null, [])]
abbrev kb_R_sheet_27 : List vx_I := [(.bipush (-2), 2, 0, 0, .int (-2), []), (.ireturn, 1, 0, 0, .null, [])]
abbrev kb_R_sheet_30 : List vx_I := [(.iload_n 3, 1, 3, 0, .null, []), (.ifCond .ge 9, 3, 40, 0, .null, []), (.aload_n 0, 1, 0, 0, .null, []), (.iconst 4, 1, 0, 0, .int 4, []), (.invokevirtual 101, 3, 108, 1, .null, [(0, 0), (0, 0), (0, 0), (0, 0), (0, 0), (0, 0), (0, 0)]), (.ireturn, 1, 0, 0, .null, [])]
abbrev kb_R_sheet_40 : List vx_I := [(.aload_n 0, 1, 0, 0, .null, []), (.getfield 9, 3, 7, 2, .null, []), (.iload_n 1, 1, 1, 0, .null, []), (.iload_n 2, 1, 2, 0, .null, []), (.iastore, 1, 0, 0, .null, []), (.aload_n 0, 1, 0, 0, .null, []), (.getfield 13, 3, 7, 3, .null, []), (.iload_n 1, 1, 1, 0, .null, []), (.iload_n 3, 1, 3, 0, .null, []), (.iastore, 1, 0, 0, .null, []), (.iconst 0, 1, 0, 0, .int 0, []), (.istore 4, 2, 4, 0, .null, [])]
abbrev kb_R_sheet_57 : List vx_I := [(.iload 4, 2, 4, 0, .null, []), (.bipush 60, 2, 0, 0, .int 60, []), (.if_icmp .ge 22, 3, 83, 0, .null, []), (.aload_n 0, 1, 0, 0, .null, []), (.getfield 16, 3, 7, 4, .null, []), (.bipush 60, 2, 0, 0, .int 60, []), (.iload_n 1, 1, 1, 0, .null, []), (.imul, 1, 0, 0, .null, []), (.iload 4, 2, 4, 0, .null, []), (.iadd, 1, 0, 0, .null, []), (.iconst 0, 1, 0, 0, .int 0, []), (.iastore, 1, 0, 0, .null, []), (.iinc 4 1, 3, 4, 0, .int 1, []), (.goto (-23), 3, 57, 0, .null, [])]
abbrev kb_R_sheet_83 : List vx_I := [(.iconst 1, 1, 0, 0, .int 1, []), (.ireturn, 1, 0, 0, .null, [])]
def tb_R_sheet : List (Nat × List vx_I) := [(0, kb_R_sheet_0), (14, kb_R_sheet_14), (27, kb_R_sheet_27), (30, kb_R_sheet_30), (40, kb_R_sheet_40), (57, kb_R_sheet_57), (83, kb_R_sheet_83)]
theorem bk_R_sheet_0 : vx_bk tb_R_sheet 0 = kb_R_sheet_0 := rfl
theorem bk_R_sheet_14 : vx_bk tb_R_sheet 14 = kb_R_sheet_14 := rfl
theorem bk_R_sheet_27 : vx_bk tb_R_sheet 27 = kb_R_sheet_27 := rfl
theorem bk_R_sheet_30 : vx_bk tb_R_sheet 30 = kb_R_sheet_30 := rfl
theorem bk_R_sheet_40 : vx_bk tb_R_sheet 40 = kb_R_sheet_40 := rfl
theorem bk_R_sheet_57 : vx_bk tb_R_sheet 57 = kb_R_sheet_57 := rfl
theorem bk_R_sheet_83 : vx_bk tb_R_sheet 83 = kb_R_sheet_83 := rfl
abbrev m_R_sheet : Nat := 165
set_option maxRecDepth 100000 in
theorem ck_R_sheet : vx_ckM prog_9_method_66_code 7 5 2 false (some .int) tb_R_sheet = true := by decide +kernel
theorem ok_R_sheet {As : List Value} {sz : Nat} {h : vx_H} {P : Option Value → vx_H → Prop} (L0 : vx_L) (hlen : (vx_ar As).length ≤ 5) (hL0 : vx_ar As ++ List.replicate (5 - (vx_ar As).length) none = L0)
    (body : ∀ (lim z : vx_Z) X, vx_cl0 none lim tb_R_sheet (fun r z' h' => z' = z ∧ P r h') X → X 0 L0 [] z h) : vx_Ok m_R_sheet As sz h P :=
  vx_ok0 (M := (⟨"VoteWallsModel", "sheet", "(III)I"⟩, prog_9_method_66_code, 5, (some .int), 2, 0, 0, 3, 0)) rfl (ow := 7) rfl ck_R_sheet rfl hlen hL0 body
abbrev kb_R_lose_0 : List vx_I := [(.iload_n 1, 1, 1, 0, .null, []), (.invokestatic 90, 3, 104, 1, .null, []), (.ifCond .ne 5, 3, 9, 0, .null, []), (.iconst (-1), 1, 0, 0, .int (-1), []), (.ireturn, 1, 0, 0, .null, [])]
abbrev kb_R_lose_9 : List vx_I := [(.aload_n 0, 1, 0, 0, .null, []), (.getfield 9, 3, 7, 2, .null, []), (.iload_n 1, 1, 1, 0, .null, []), (.iaload, 1, 0, 0, .null, []), (.bipush (-9), 2, 0, 0, .int (-9), []), (.if_icmp .ne 7, 3, 24, 0, .null, []), (.iconst 0, 1, 0, 0, .int 0, []), (.goto 4, 3, 25, 0, .null, [])]
abbrev kb_R_lose_24 : List vx_I := [(.iconst 1, 1, 0, 0, .int 1, [])]
abbrev kb_R_lose_25 : List vx_I := [(.istore_n 2, 1, 2, 0, .null, []), (.aload_n 0, 1, 0, 0, .null, []), (.getfield 9, 3, 7, 2, .null, []), (.iload_n 1, 1, 1, 0, .null, []), (.bipush (-9), 2, 0, 0, .int (-9), []), (.iastore, 1, 0, 0, .null, []), (.iload_n 2, 1, 2, 0, .null, []), (.ireturn, 1, 0, 0, .null, [])]
def tb_R_lose : List (Nat × List vx_I) := [(0, kb_R_lose_0), (9, kb_R_lose_9), (24, kb_R_lose_24), (25, kb_R_lose_25)]
theorem bk_R_lose_0 : vx_bk tb_R_lose 0 = kb_R_lose_0 := rfl
theorem bk_R_lose_9 : vx_bk tb_R_lose 9 = kb_R_lose_9 := rfl
theorem bk_R_lose_24 : vx_bk tb_R_lose 24 = kb_R_lose_24 := rfl
theorem bk_R_lose_25 : vx_bk tb_R_lose 25 = kb_R_lose_25 := rfl
abbrev m_R_lose : Nat := 166
set_option maxRecDepth 100000 in
theorem ck_R_lose : vx_ckM prog_9_method_67_code 7 3 2 false (some .int) tb_R_lose = true := by decide +kernel
theorem ok_R_lose {As : List Value} {sz : Nat} {h : vx_H} {P : Option Value → vx_H → Prop} (L0 : vx_L) (hlen : (vx_ar As).length ≤ 3) (hL0 : vx_ar As ++ List.replicate (3 - (vx_ar As).length) none = L0)
    (body : ∀ (lim z : vx_Z) X, vx_cl0 none lim tb_R_lose (fun r z' h' => z' = z ∧ P r h') X → X 0 L0 [] z h) : vx_Ok m_R_lose As sz h P :=
  vx_ok0 (M := (⟨"VoteWallsModel", "lose", "(I)I"⟩, prog_9_method_67_code, 3, (some .int), 2, 0, 0, 1, 0)) rfl (ow := 7) rfl ck_R_lose rfl hlen hL0 body
abbrev kb_R_put_0 : List vx_I := [(.aload_n 0, 1, 0, 0, .null, []), (.iconst 0, 1, 0, 0, .int 0, []), (.putfield 67, 3, 7, 0, .int 0, []), (.iload_n 1, 1, 1, 0, .null, []), (.invokestatic 90, 3, 104, 1, .null, []), (.ifCond .ne 5, 3, 14, 0, .null, []), (.iconst (-1), 1, 0, 0, .int (-1), []), (.ireturn, 1, 0, 0, .null, [])]
abbrev kb_R_put_14 : List vx_I := [(.aload_n 0, 1, 0, 0, .null, []), (.getfield 9, 3, 7, 2, .null, []), (.iload_n 1, 1, 1, 0, .null, []), (.iaload, 1, 0, 0, .null, []), (.bipush (-9), 2, 0, 0, .int (-9), []), (.if_icmp .ne 9, 3, 31, 0, .null, []), (.aload_n 0, 1, 0, 0, .null, []), (.iconst 1, 1, 0, 0, .int 1, []), (.invokevirtual 101, 3, 108, 1, .null, [(0, 0), (0, 0), (0, 0), (0, 0), (0, 0), (0, 0), (0, 0)]), (.ireturn, 1, 0, 0, .null, [])]
abbrev kb_R_put_31 : List vx_I := [(.iload_n 2, 1, 2, 0, .null, []), (.iconst 0, 1, 0, 0, .int 0, []), (.aload_n 0, 1, 0, 0, .null, []), (.getfield 13, 3, 7, 3, .null, []), (.iload_n 1, 1, 1, 0, .null, []), (.iaload, 1, 0, 0, .null, []), (.iconst 1, 1, 0, 0, .int 1, []), (.isub, 1, 0, 0, .null, []), (.invokestatic 73, 3, 105, 3, .null, []), (.ifCond .ne 9, 3, 53, 0, .null, []), (.aload_n 0, 1, 0, 0, .null, []), (.iconst 3, 1, 0, 0, .int 3, []), (.invokevirtual 101, 3, 108, 1, .null, [(0, 0), (0, 0), (0, 0), (0, 0), (0, 0), (0, 0), (0, 0)]), (.ireturn, 1, 0, 0, .null, [])]
abbrev kb_R_put_53 : List vx_I := [(.aload_n 0, 1, 0, 0, .null, []), (.getfield 16, 3, 7, 4, .null, []), (.bipush 60, 2, 0, 0, .int 60, []), (.iload_n 1, 1, 1, 0, .null, []), (.imul, 1, 0, 0, .null, []), (.iload_n 2, 1, 2, 0, .null, []), (.iadd, 1, 0, 0, .null, []), (.aload_n 0, 1, 0, 0, .null, []), (.getfield 9, 3, 7, 2, .null, []), (.iload_n 1, 1, 1, 0, .null, []), (.iaload, 1, 0, 0, .null, []), (.ifCond .ne 8, 3, 77, 0, .null, []), (.iload_n 3, 1, 3, 0, .null, []), (.i2b, 1, 0, 0, .null, []), (.goto 19, 3, 93, 0, .null, [])]
abbrev kb_R_put_77 : List vx_I := [(.aload_n 0, 1, 0, 0, .null, []), (.getfield 9, 3, 7, 2, .null, []), (.iload_n 1, 1, 1, 0, .null, []), (.iaload, 1, 0, 0, .null, []), (.iconst 1, 1, 0, 0, .int 1, []), (.if_icmp .ne 8, 3, 92, 0, .null, []), (.iload_n 3, 1, 3, 0, .null, []), (.i2s, 1, 0, 0, .null, []), (.goto 4, 3, 93, 0, .null, [])]
abbrev kb_R_put_92 : List vx_I := [(.iload_n 3, 1, 3, 0, .null, [])]
abbrev kb_R_put_93 : List vx_I := [(.iastore, 1, 0, 0, .null, []), (.iconst 1, 1, 0, 0, .int 1, []), (.ireturn, 1, 0, 0, .null, [])]
def tb_R_put : List (Nat × List vx_I) := [(0, kb_R_put_0), (14, kb_R_put_14), (31, kb_R_put_31), (53, kb_R_put_53), (77, kb_R_put_77), (92, kb_R_put_92), (93, kb_R_put_93)]
theorem bk_R_put_0 : vx_bk tb_R_put 0 = kb_R_put_0 := rfl
theorem bk_R_put_14 : vx_bk tb_R_put 14 = kb_R_put_14 := rfl
theorem bk_R_put_31 : vx_bk tb_R_put 31 = kb_R_put_31 := rfl
theorem bk_R_put_53 : vx_bk tb_R_put 53 = kb_R_put_53 := rfl
theorem bk_R_put_77 : vx_bk tb_R_put 77 = kb_R_put_77 := rfl
theorem bk_R_put_92 : vx_bk tb_R_put 92 = kb_R_put_92 := rfl
theorem bk_R_put_93 : vx_bk tb_R_put 93 = kb_R_put_93 := rfl
abbrev m_R_put : Nat := 167
set_option maxRecDepth 100000 in
theorem ck_R_put : vx_ckM prog_9_method_68_code 7 4 2 false (some .int) tb_R_put = true := by decide +kernel
theorem ok_R_put {As : List Value} {sz : Nat} {h : vx_H} {P : Option Value → vx_H → Prop} (L0 : vx_L) (hlen : (vx_ar As).length ≤ 4) (hL0 : vx_ar As ++ List.replicate (4 - (vx_ar As).length) none = L0)
    (body : ∀ (lim z : vx_Z) X, vx_cl0 none lim tb_R_put (fun r z' h' => z' = z ∧ P r h') X → X 0 L0 [] z h) : vx_Ok m_R_put As sz h P :=
  vx_ok0 (M := (⟨"VoteWallsModel", "put", "(III)I"⟩, prog_9_method_68_code, 4, (some .int), 2, 0, 0, 3, 0)) rfl (ow := 7) rfl ck_R_put rfl hlen hL0 body
abbrev kb_R_cell_0 : List vx_I := [(.aload_n 0, 1, 0, 0, .null, []), (.iconst 0, 1, 0, 0, .int 0, []), (.putfield 67, 3, 7, 0, .int 0, []), (.iload_n 1, 1, 1, 0, .null, []), (.invokestatic 90, 3, 104, 1, .null, []), (.ifCond .eq 10, 3, 19, 0, .null, []), (.iload_n 3, 1, 3, 0, .null, []), (.invokestatic 94, 3, 106, 1, .null, []), (.ifCond .ne 7, 3, 23, 0, .null, [])]
abbrev kb_R_cell_19 : List vx_I := [(.ldc2_w 71, 3, 0, 0, .long (-9223372036854775808), []), (.lreturn, 1, 0, 0, .null, [])]
abbrev kb_R_cell_23 : List vx_I := [(.aload_n 0, 1, 0, 0, .null, []), (.getfield 9, 3, 7, 2, .null, []), (.iload_n 1, 1, 1, 0, .null, []), (.iaload, 1, 0, 0, .null, []), (.bipush (-9), 2, 0, 0, .int (-9), []), (.if_icmp .eq 19, 3, 50, 0, .null, []), (.aload_n 0, 1, 0, 0, .null, []), (.getfield 9, 3, 7, 2, .null, []), (.iload_n 1, 1, 1, 0, .null, []), (.iaload, 1, 0, 0, .null, []), (.iload_n 3, 1, 3, 0, .null, []), (.if_icmp .eq 9, 3, 50, 0, .null, []), (.aload_n 0, 1, 0, 0, .null, []), (.iconst 2, 1, 0, 0, .int 2, []), (.invokevirtual 239, 3, 169, 1, .null, [(0, 0), (0, 0), (0, 0), (0, 0), (0, 0), (0, 0), (0, 0)]), (.lreturn, 1, 0, 0, .null, [])]
abbrev kb_R_cell_50 : List vx_I := [(.aload_n 0, 1, 0, 0, .null, []), (.getfield 9, 3, 7, 2, .null, []), (.iload_n 1, 1, 1, 0, .null, []), (.iaload, 1, 0, 0, .null, []), (.bipush (-9), 2, 0, 0, .int (-9), []), (.if_icmp .ne 9, 3, 67, 0, .null, []), (.aload_n 0, 1, 0, 0, .null, []), (.iconst 1, 1, 0, 0, .int 1, []), (.invokevirtual 239, 3, 169, 1, .null, [(0, 0), (0, 0), (0, 0), (0, 0), (0, 0), (0, 0), (0, 0)]), (.lreturn, 1, 0, 0, .null, [])]
abbrev kb_R_cell_67 : List vx_I := [(.iload_n 2, 1, 2, 0, .null, []), (.iconst 0, 1, 0, 0, .int 0, []), (.aload_n 0, 1, 0, 0, .null, []), (.getfield 13, 3, 7, 3, .null, []), (.iload_n 1, 1, 1, 0, .null, []), (.iaload, 1, 0, 0, .null, []), (.iconst 1, 1, 0, 0, .int 1, []), (.isub, 1, 0, 0, .null, []), (.invokestatic 73, 3, 105, 3, .null, []), (.ifCond .ne 9, 3, 89, 0, .null, []), (.aload_n 0, 1, 0, 0, .null, []), (.iconst 3, 1, 0, 0, .int 3, []), (.invokevirtual 239, 3, 169, 1, .null, [(0, 0), (0, 0), (0, 0), (0, 0), (0, 0), (0, 0), (0, 0)]), (.lreturn, 1, 0, 0, .null, [])]
abbrev kb_R_cell_89 : List vx_I := [(.aload_n 0, 1, 0, 0, .null, []), (.getfield 16, 3, 7, 4, .null, []), (.bipush 60, 2, 0, 0, .int 60, []), (.iload_n 1, 1, 1, 0, .null, []), (.imul, 1, 0, 0, .null, []), (.iload_n 2, 1, 2, 0, .null, []), (.iadd, 1, 0, 0, .null, []), (.iaload, 1, 0, 0, .null, []), (.i2l, 1, 0, 0, .null, []), (.lreturn, 1, 0, 0, .null, [])]
def tb_R_cell : List (Nat × List vx_I) := [(0, kb_R_cell_0), (19, kb_R_cell_19), (23, kb_R_cell_23), (50, kb_R_cell_50), (67, kb_R_cell_67), (89, kb_R_cell_89)]
theorem bk_R_cell_0 : vx_bk tb_R_cell 0 = kb_R_cell_0 := rfl
theorem bk_R_cell_19 : vx_bk tb_R_cell 19 = kb_R_cell_19 := rfl
theorem bk_R_cell_23 : vx_bk tb_R_cell 23 = kb_R_cell_23 := rfl
theorem bk_R_cell_50 : vx_bk tb_R_cell 50 = kb_R_cell_50 := rfl
theorem bk_R_cell_67 : vx_bk tb_R_cell 67 = kb_R_cell_67 := rfl
theorem bk_R_cell_89 : vx_bk tb_R_cell 89 = kb_R_cell_89 := rfl
abbrev m_R_cell : Nat := 168
set_option maxRecDepth 100000 in
theorem ck_R_cell : vx_ckM prog_9_method_69_code 7 4 2 false (some .long) tb_R_cell = true := by decide +kernel
theorem ok_R_cell {As : List Value} {sz : Nat} {h : vx_H} {P : Option Value → vx_H → Prop} (L0 : vx_L) (hlen : (vx_ar As).length ≤ 4) (hL0 : vx_ar As ++ List.replicate (4 - (vx_ar As).length) none = L0)
    (body : ∀ (lim z : vx_Z) X, vx_cl0 none lim tb_R_cell (fun r z' h' => z' = z ∧ P r h') X → X 0 L0 [] z h) : vx_Ok m_R_cell As sz h P :=
  vx_ok0 (M := (⟨"VoteWallsModel", "cell", "(III)J"⟩, prog_9_method_69_code, 4, (some .long), 2, 0, 0, 3, 0)) rfl (ow := 7) rfl ck_R_cell rfl hlen hL0 body
abbrev kb_R_lost_0 : List vx_I := [(.aload_n 0, 1, 0, 0, .null, []), (.iload_n 1, 1, 1, 0, .null, []), (.putfield 67, 3, 7, 0, .int 0, []), (.ldc2_w 71, 3, 0, 0, .long (-9223372036854775808), []), (.lreturn, 1, 0, 0, .null, [])]
def tb_R_lost : List (Nat × List vx_I) := [(0, kb_R_lost_0)]
theorem bk_R_lost_0 : vx_bk tb_R_lost 0 = kb_R_lost_0 := rfl
abbrev m_R_lost : Nat := 169
set_option maxRecDepth 100000 in
theorem ck_R_lost : vx_ckM prog_9_method_4_code 7 2 0 false (some .long) tb_R_lost = true := by decide +kernel
theorem ok_R_lost {As : List Value} {sz : Nat} {h : vx_H} {P : Option Value → vx_H → Prop} (L0 : vx_L) (hlen : (vx_ar As).length ≤ 2) (hL0 : vx_ar As ++ List.replicate (2 - (vx_ar As).length) none = L0)
    (body : ∀ (lim z : vx_Z) X, vx_cl0 none lim tb_R_lost (fun r z' h' => z' = z ∧ P r h') X → X 0 L0 [] z h) : vx_Ok m_R_lost As sz h P :=
  vx_ok0 (M := (⟨"VoteWallsModel", "lost", "(I)J"⟩, prog_9_method_4_code, 2, (some .long), 0, 0, 0, 1, 0)) rfl (ow := 7) rfl ck_R_lost rfl hlen hL0 body
abbrev kb_R_copy_0 : List vx_I := [(.aload_n 0, 1, 0, 0, .null, []), (.iconst 0, 1, 0, 0, .int 0, []), (.putfield 67, 3, 7, 0, .int 0, []), (.iload_n 1, 1, 1, 0, .null, []), (.invokestatic 90, 3, 104, 1, .null, []), (.ifCond .eq 10, 3, 19, 0, .null, []), (.iload_n 3, 1, 3, 0, .null, []), (.invokestatic 90, 3, 104, 1, .null, []), (.ifCond .ne 5, 3, 21, 0, .null, [])]
abbrev kb_R_copy_19 : List vx_I := [(.iconst (-1), 1, 0, 0, .int (-1), []), (.ireturn, 1, 0, 0, .null, [])]
abbrev kb_R_copy_21 : List vx_I := [(.aload_n 0, 1, 0, 0, .null, []), (.getfield 9, 3, 7, 2, .null, []), (.iload_n 1, 1, 1, 0, .null, []), (.iaload, 1, 0, 0, .null, []), (.bipush (-9), 2, 0, 0, .int (-9), []), (.if_icmp .eq 14, 3, 43, 0, .null, []), (.aload_n 0, 1, 0, 0, .null, []), (.getfield 9, 3, 7, 2, .null, []), (.iload_n 3, 1, 3, 0, .null, []), (.iaload, 1, 0, 0, .null, []), (.bipush (-9), 2, 0, 0, .int (-9), []), (.if_icmp .ne 9, 3, 49, 0, .null, [])]
abbrev kb_R_copy_43 : List vx_I := [(.aload_n 0, 1, 0, 0, .null, []), (.iconst 1, 1, 0, 0, .int 1, []), (.invokevirtual 101, 3, 108, 1, .null, [(0, 0), (0, 0), (0, 0), (0, 0), (0, 0), (0, 0), (0, 0)]), (.ireturn, 1, 0, 0, .null, [])]
abbrev kb_R_copy_49 : List vx_I := [(.aload_n 0, 1, 0, 0, .null, []), (.getfield 9, 3, 7, 2, .null, []), (.iload_n 1, 1, 1, 0, .null, []), (.iaload, 1, 0, 0, .null, []), (.aload_n 0, 1, 0, 0, .null, []), (.getfield 9, 3, 7, 2, .null, []), (.iload_n 3, 1, 3, 0, .null, []), (.iaload, 1, 0, 0, .null, []), (.if_icmp .eq 9, 3, 70, 0, .null, []), (.aload_n 0, 1, 0, 0, .null, []), (.iconst 2, 1, 0, 0, .int 2, []), (.invokevirtual 101, 3, 108, 1, .null, [(0, 0), (0, 0), (0, 0), (0, 0), (0, 0), (0, 0), (0, 0)]), (.ireturn, 1, 0, 0, .null, [])]
abbrev kb_R_copy_70 : List vx_I := [(.iload_n 2, 1, 2, 0, .null, []), (.ifCond .lt 38, 3, 109, 0, .null, []), (.iload 4, 2, 4, 0, .null, []), (.ifCond .lt 33, 3, 109, 0, .null, []), (.iload 5, 2, 5, 0, .null, []), (.ifCond .lt 28, 3, 109, 0, .null, []), (.iload_n 2, 1, 2, 0, .null, []), (.aload_n 0, 1, 0, 0, .null, []), (.getfield 13, 3, 7, 3, .null, []), (.iload_n 1, 1, 1, 0, .null, []), (.iaload, 1, 0, 0, .null, []), (.if_icmp .gt 18, 3, 109, 0, .null, []), (.iload 4, 2, 4, 0, .null, []), (.aload_n 0, 1, 0, 0, .null, []), (.getfield 13, 3, 7, 3, .null, []), (.iload_n 3, 1, 3, 0, .null, []), (.iaload, 1, 0, 0, .null, []), (.if_icmp .gt 7, 3, 109, 0, .null, []), (.iconst 1, 1, 0, 0, .int 1, []), (.goto 4, 3, 110, 0, .null, [])]
abbrev kb_R_copy_109 : List vx_I := [(.iconst 0, 1, 0, 0, .int 0, [])]
abbrev kb_R_copy_110 : List vx_I := [(.istore 6, 2, 6, 0, .null, []), (.iload 6, 2, 6, 0, .null, []), (.ifCond .eq 30, 3, 144, 0, .null, []), (.iload 5, 2, 5, 0, .null, []), (.aload_n 0, 1, 0, 0, .null, []), (.getfield 13, 3, 7, 3, .null, []), (.iload_n 1, 1, 1, 0, .null, []), (.iaload, 1, 0, 0, .null, []), (.iload_n 2, 1, 2, 0, .null, []), (.isub, 1, 0, 0, .null, []), (.if_icmp .gt 17, 3, 144, 0, .null, []), (.iload 5, 2, 5, 0, .null, []), (.aload_n 0, 1, 0, 0, .null, []), (.getfield 13, 3, 7, 3, .null, []), (.iload_n 3, 1, 3, 0, .null, []), (.iaload, 1, 0, 0, .null, []), (.iload 4, 2, 4, 0, .null, []), (.isub, 1, 0, 0, .null, []), (.if_icmp .le 9, 3, 150, 0, .null, [])]
abbrev kb_R_copy_144 : List vx_I := [(.aload_n 0, 1, 0, 0, .null, []), (.iconst 3, 1, 0, 0, .int 3, []), (.invokevirtual 101, 3, 108, 1, .null, [(0, 0), (0, 0), (0, 0), (0, 0), (0, 0), (0, 0), (0, 0)]), (.ireturn, 1, 0, 0, .null, [])]
abbrev kb_R_copy_150 : List vx_I := [(.iload_n 2, 1, 2, 0, .null, []), (.iload 4, 2, 4, 0, .null, []), (.if_icmp .ge 7, 3, 160, 0, .null, []), (.iconst 1, 1, 0, 0, .int 1, []), (.goto 4, 3, 161, 0, .null, [])]
abbrev kb_R_copy_160 : List vx_I := [(.iconst 0, 1, 0, 0, .int 0, [])]
abbrev kb_R_copy_161 : List vx_I := [(.istore 7, 2, 7, 0, .null, []), (.iconst 0, 1, 0, 0, .int 0, []), (.istore 8, 2, 8, 0, .null, [])]
abbrev kb_R_copy_166 : List vx_I := [(.iload 8, 2, 8, 0, .null, []), (.iload 5, 2, 5, 0, .null, []), (.if_icmp .ge 57, 3, 227, 0, .null, []), (.iload 7, 2, 7, 0, .null, []), (.ifCond .eq 13, 3, 188, 0, .null, []), (.iload 5, 2, 5, 0, .null, []), (.iconst 1, 1, 0, 0, .int 1, []), (.isub, 1, 0, 0, .null, []), (.iload 8, 2, 8, 0, .null, []), (.isub, 1, 0, 0, .null, []), (.goto 5, 3, 190, 0, .null, [])]
abbrev kb_R_copy_188 : List vx_I := [(.iload 8, 2, 8, 0, .null, [])]
abbrev kb_R_copy_190 : List vx_I := [(.istore 9, 2, 9, 0, .null, []), (.aload_n 0, 1, 0, 0, .null, []), (.getfield 16, 3, 7, 4, .null, []), (.bipush 60, 2, 0, 0, .int 60, []), (.iload_n 3, 1, 3, 0, .null, []), (.imul, 1, 0, 0, .null, []), (.iload 4, 2, 4, 0, .null, []), (.iadd, 1, 0, 0, .null, []), (.iload 9, 2, 9, 0, .null, []), (.iadd, 1, 0, 0, .null, []), (.aload_n 0, 1, 0, 0, .null, []), (.getfield 16, 3, 7, 4, .null, []), (.bipush 60, 2, 0, 0, .int 60, []), (.iload_n 1, 1, 1, 0, .null, []), (.imul, 1, 0, 0, .null, []), (.iload_n 2, 1, 2, 0, .null, []), (.iadd, 1, 0, 0, .null, []), (.iload 9, 2, 9, 0, .null, []), (.iadd, 1, 0, 0, .null, []), (.iaload, 1, 0, 0, .null, []), (.iastore, 1, 0, 0, .null, []), (.iinc 8 1, 3, 8, 0, .int 1, []), (.goto (-58), 3, 166, 0, .null, [])]
abbrev kb_R_copy_227 : List vx_I := [(.iload 5, 2, 5, 0, .null, []), (.ireturn, 1, 0, 0, .null, [])]
def tb_R_copy : List (Nat × List vx_I) := [(0, kb_R_copy_0), (19, kb_R_copy_19), (21, kb_R_copy_21), (43, kb_R_copy_43), (49, kb_R_copy_49), (70, kb_R_copy_70), (109, kb_R_copy_109), (110, kb_R_copy_110), (144, kb_R_copy_144), (150, kb_R_copy_150), (160, kb_R_copy_160), (161, kb_R_copy_161), (166, kb_R_copy_166), (188, kb_R_copy_188), (190, kb_R_copy_190), (227, kb_R_copy_227)]
theorem bk_R_copy_0 : vx_bk tb_R_copy 0 = kb_R_copy_0 := rfl
theorem bk_R_copy_19 : vx_bk tb_R_copy 19 = kb_R_copy_19 := rfl
theorem bk_R_copy_21 : vx_bk tb_R_copy 21 = kb_R_copy_21 := rfl
theorem bk_R_copy_43 : vx_bk tb_R_copy 43 = kb_R_copy_43 := rfl
theorem bk_R_copy_49 : vx_bk tb_R_copy 49 = kb_R_copy_49 := rfl
theorem bk_R_copy_70 : vx_bk tb_R_copy 70 = kb_R_copy_70 := rfl
theorem bk_R_copy_109 : vx_bk tb_R_copy 109 = kb_R_copy_109 := rfl
theorem bk_R_copy_110 : vx_bk tb_R_copy 110 = kb_R_copy_110 := rfl
theorem bk_R_copy_144 : vx_bk tb_R_copy 144 = kb_R_copy_144 := rfl
theorem bk_R_copy_150 : vx_bk tb_R_copy 150 = kb_R_copy_150 := rfl
theorem bk_R_copy_160 : vx_bk tb_R_copy 160 = kb_R_copy_160 := rfl
theorem bk_R_copy_161 : vx_bk tb_R_copy 161 = kb_R_copy_161 := rfl
theorem bk_R_copy_166 : vx_bk tb_R_copy 166 = kb_R_copy_166 := rfl
theorem bk_R_copy_188 : vx_bk tb_R_copy 188 = kb_R_copy_188 := rfl
theorem bk_R_copy_190 : vx_bk tb_R_copy 190 = kb_R_copy_190 := rfl
theorem bk_R_copy_227 : vx_bk tb_R_copy 227 = kb_R_copy_227 := rfl
abbrev m_R_copy : Nat := 170
set_option maxRecDepth 100000 in
theorem ck_R_copy : vx_ckM prog_9_method_70_code 7 10 2 false (some .int) tb_R_copy = true := by decide +kernel
theorem ok_R_copy {As : List Value} {sz : Nat} {h : vx_H} {P : Option Value → vx_H → Prop} (L0 : vx_L) (hlen : (vx_ar As).length ≤ 10) (hL0 : vx_ar As ++ List.replicate (10 - (vx_ar As).length) none = L0)
    (body : ∀ (lim z : vx_Z) X, vx_cl0 none lim tb_R_copy (fun r z' h' => z' = z ∧ P r h') X → X 0 L0 [] z h) : vx_Ok m_R_copy As sz h P :=
  vx_ok0 (M := (⟨"VoteWallsModel", "copy", "(IIIII)I"⟩, prog_9_method_70_code, 10, (some .int), 2, 0, 0, 5, 0)) rfl (ow := 7) rfl ck_R_copy rfl hlen hL0 body
abbrev kb_R_tell_0 : List vx_I := [(.aload_n 0, 1, 0, 0, .null, []), (.iload_n 1, 1, 1, 0, .null, []), (.invokevirtual 145, 3, 116, 1, .null, [(0, 0), (0, 0), (0, 0), (0, 0), (0, 0), (0, 0), (0, 0)]), (.ifCond .ne 5, 3, 10, 0, .null, []), (.iconst (-1), 1, 0, 0, .int (-1), []), (.ireturn, 1, 0, 0, .null, [])]
abbrev kb_R_tell_10 : List vx_I := [(.aload_n 0, 1, 0, 0, .null, []), (.getfield 25, 3, 7, 10, .null, []), (.iload_n 1, 1, 1, 0, .null, []), (.iaload, 1, 0, 0, .null, []), (.istore_n 2, 1, 2, 0, .null, []), (.aload_n 0, 1, 0, 0, .null, []), (.getfield 22, 3, 7, 9, .null, []), (.iload_n 1, 1, 1, 0, .null, []), (.iaload, 1, 0, 0, .null, []), (.lookupswitch 67 #[(1, 25), (2, 40)], 25, 90, 0, .null, [(1, 48), (2, 63)])]
abbrev kb_R_tell_48 : List vx_I := [(.aload_n 0, 1, 0, 0, .null, []), (.iconst 2, 1, 0, 0, .int 2, []), (.invokevirtual 246, 3, 172, 1, .null, [(0, 0), (0, 0), (0, 0), (0, 0), (0, 0), (0, 0), (0, 0)]), (.aload_n 0, 1, 0, 0, .null, []), (.iconst 1, 1, 0, 0, .int 1, []), (.invokevirtual 246, 3, 172, 1, .null, [(0, 0), (0, 0), (0, 0), (0, 0), (0, 0), (0, 0), (0, 0)]), (.iload_n 2, 1, 2, 0, .null, []), (.bipush 100, 2, 0, 0, .int 100, []), (.iadd, 1, 0, 0, .null, []), (.ireturn, 1, 0, 0, .null, [])]
abbrev kb_R_tell_63 : List vx_I := [(.aload_n 0, 1, 0, 0, .null, []), (.iconst 3, 1, 0, 0, .int 3, []), (.invokevirtual 246, 3, 172, 1, .null, [(0, 0), (0, 0), (0, 0), (0, 0), (0, 0), (0, 0), (0, 0)]), (.aload_n 0, 1, 0, 0, .null, []), (.iconst 2, 1, 0, 0, .int 2, []), (.invokevirtual 246, 3, 172, 1, .null, [(0, 0), (0, 0), (0, 0), (0, 0), (0, 0), (0, 0), (0, 0)]), (.aload_n 0, 1, 0, 0, .null, []), (.iconst 1, 1, 0, 0, .int 1, []), (.invokevirtual 246, 3, 172, 1, .null, [(0, 0), (0, 0), (0, 0), (0, 0), (0, 0), (0, 0), (0, 0)]), (.aload_n 0, 1, 0, 0, .null, []), (.iconst 1, 1, 0, 0, .int 1, []), (.invokevirtual 246, 3, 172, 1, .null, [(0, 0), (0, 0), (0, 0), (0, 0), (0, 0), (0, 0), (0, 0)]), (.iconst 2, 1, 0, 0, .int 2, []), (.iload_n 2, 1, 2, 0, .null, []), (.imul, 1, 0, 0, .null, []), (.bipush 100, 2, 0, 0, .int 100, []), (.iadd, 1, 0, 0, .null, []), (.ireturn, 1, 0, 0, .null, [])]
abbrev kb_R_tell_90 : List vx_I := [(.aload_n 0, 1, 0, 0, .null, []), (.iconst 1, 1, 0, 0, .int 1, []), (.invokevirtual 246, 3, 172, 1, .null, [(0, 0), (0, 0), (0, 0), (0, 0), (0, 0), (0, 0), (0, 0)]), (.iload_n 2, 1, 2, 0, .null, []), (.ireturn, 1, 0, 0, .null, [])]
def tb_R_tell : List (Nat × List vx_I) := [(0, kb_R_tell_0), (10, kb_R_tell_10), (48, kb_R_tell_48), (63, kb_R_tell_63), (90, kb_R_tell_90)]
theorem bk_R_tell_0 : vx_bk tb_R_tell 0 = kb_R_tell_0 := rfl
theorem bk_R_tell_10 : vx_bk tb_R_tell 10 = kb_R_tell_10 := rfl
theorem bk_R_tell_48 : vx_bk tb_R_tell 48 = kb_R_tell_48 := rfl
theorem bk_R_tell_63 : vx_bk tb_R_tell 63 = kb_R_tell_63 := rfl
theorem bk_R_tell_90 : vx_bk tb_R_tell 90 = kb_R_tell_90 := rfl
abbrev m_R_tell : Nat := 171
set_option maxRecDepth 100000 in
theorem ck_R_tell : vx_ckM prog_9_method_72_code 7 3 1 false (some .int) tb_R_tell = true := by decide +kernel
theorem ok_R_tell {As : List Value} {sz : Nat} {h : vx_H} {P : Option Value → vx_H → Prop} (L0 : vx_L) (hlen : (vx_ar As).length ≤ 3) (hL0 : vx_ar As ++ List.replicate (3 - (vx_ar As).length) none = L0)
    (body : ∀ (lim z : vx_Z) X, vx_cl0 none lim tb_R_tell (fun r z' h' => z' = z ∧ P r h') X → X 0 L0 [] z h) : vx_Ok m_R_tell As sz h P :=
  vx_ok0 (M := (⟨"VoteWallsModel", "tell", "(I)I"⟩, prog_9_method_72_code, 3, (some .int), 1, 0, 0, 1, 0)) rfl (ow := 7) rfl ck_R_tell rfl hlen hL0 body
abbrev kb_R_begins_0 : List vx_I := [(.aload_n 0, 1, 0, 0, .null, []), (.bipush 31, 2, 0, 0, .int 31, []), (.aload_n 0, 1, 0, 0, .null, []), (.getfield 243, 3, 7, 1, .null, []), (.imul, 1, 0, 0, .null, []), (.iload_n 1, 1, 1, 0, .null, []), (.iadd, 1, 0, 0, .null, []), (.putfield 243, 3, 7, 1, .int 0, []), (.return_, 1, 0, 0, .null, [])]
def tb_R_begins : List (Nat × List vx_I) := [(0, kb_R_begins_0)]
theorem bk_R_begins_0 : vx_bk tb_R_begins 0 = kb_R_begins_0 := rfl
abbrev m_R_begins : Nat := 172
set_option maxRecDepth 100000 in
theorem ck_R_begins : vx_ckM prog_9_method_71_code 7 2 0 false none tb_R_begins = true := by decide +kernel
theorem ok_R_begins {As : List Value} {sz : Nat} {h : vx_H} {P : Option Value → vx_H → Prop} (L0 : vx_L) (hlen : (vx_ar As).length ≤ 2) (hL0 : vx_ar As ++ List.replicate (2 - (vx_ar As).length) none = L0)
    (body : ∀ (lim z : vx_Z) X, vx_cl0 none lim tb_R_begins (fun r z' h' => z' = z ∧ P r h') X → X 0 L0 [] z h) : vx_Ok m_R_begins As sz h P :=
  vx_ok0 (M := (⟨"VoteWallsModel", "begins", "(I)V"⟩, prog_9_method_71_code, 2, none, 0, 0, 0, 1, 0)) rfl (ow := 7) rfl ck_R_begins rfl hlen hL0 body
abbrev kb_R_visit_0 : List vx_I := [(.aload_n 0, 1, 0, 0, .null, []), (.iload_n 1, 1, 1, 0, .null, []), (.invokevirtual 145, 3, 116, 1, .null, [(0, 0), (0, 0), (0, 0), (0, 0), (0, 0), (0, 0), (0, 0)]), (.ifCond .ne 5, 3, 10, 0, .null, []), (.iconst (-1), 1, 0, 0, .int (-1), []), (.ireturn, 1, 0, 0, .null, [])]
abbrev kb_R_visit_10 : List vx_I := [(.aload_n 0, 1, 0, 0, .null, []), (.aload_n 0, 1, 0, 0, .null, []), (.getfield 22, 3, 7, 9, .null, []), (.iload_n 1, 1, 1, 0, .null, []), (.iaload, 1, 0, 0, .null, []), (.iconst 2, 1, 0, 0, .int 2, []), (.if_icmp .ne 7, 3, 25, 0, .null, []), (.iconst 5, 1, 0, 0, .int 5, []), (.goto 4, 3, 26, 0, .null, [])]
abbrev kb_R_visit_25 : List vx_I := [(.iconst 4, 1, 0, 0, .int 4, [])]
abbrev kb_R_visit_26 : List vx_I := [(.invokevirtual 246, 3, 172, 1, .null, [(0, 0), (0, 0), (0, 0), (0, 0), (0, 0), (0, 0), (0, 0)]), (.aload_n 0, 1, 0, 0, .null, []), (.getfield 22, 3, 7, 9, .null, []), (.iload_n 1, 1, 1, 0, .null, []), (.iaload, 1, 0, 0, .null, []), (.iconst 2, 1, 0, 0, .int 2, []), (.if_icmp .ne 8, 3, 44, 0, .null, []), (.bipush 90, 2, 0, 0, .int 90, []), (.goto 4, 3, 45, 0, .null, [])]
abbrev kb_R_visit_44 : List vx_I := [(.iload_n 1, 1, 1, 0, .null, [])]
abbrev kb_R_visit_45 : List vx_I := [(.ireturn, 1, 0, 0, .null, [])]
def tb_R_visit : List (Nat × List vx_I) := [(0, kb_R_visit_0), (10, kb_R_visit_10), (25, kb_R_visit_25), (26, kb_R_visit_26), (44, kb_R_visit_44), (45, kb_R_visit_45)]
theorem bk_R_visit_0 : vx_bk tb_R_visit 0 = kb_R_visit_0 := rfl
theorem bk_R_visit_10 : vx_bk tb_R_visit 10 = kb_R_visit_10 := rfl
theorem bk_R_visit_25 : vx_bk tb_R_visit 25 = kb_R_visit_25 := rfl
theorem bk_R_visit_26 : vx_bk tb_R_visit 26 = kb_R_visit_26 := rfl
theorem bk_R_visit_44 : vx_bk tb_R_visit 44 = kb_R_visit_44 := rfl
theorem bk_R_visit_45 : vx_bk tb_R_visit 45 = kb_R_visit_45 := rfl
abbrev m_R_visit : Nat := 173
set_option maxRecDepth 100000 in
theorem ck_R_visit : vx_ckM prog_9_method_73_code 7 2 1 false (some .int) tb_R_visit = true := by decide +kernel
theorem ok_R_visit {As : List Value} {sz : Nat} {h : vx_H} {P : Option Value → vx_H → Prop} (L0 : vx_L) (hlen : (vx_ar As).length ≤ 2) (hL0 : vx_ar As ++ List.replicate (2 - (vx_ar As).length) none = L0)
    (body : ∀ (lim z : vx_Z) X, vx_cl0 none lim tb_R_visit (fun r z' h' => z' = z ∧ P r h') X → X 0 L0 [] z h) : vx_Ok m_R_visit As sz h P :=
  vx_ok0 (M := (⟨"VoteWallsModel", "visit", "(I)I"⟩, prog_9_method_73_code, 2, (some .int), 1, 0, 0, 1, 0)) rfl (ow := 7) rfl ck_R_visit rfl hlen hL0 body
abbrev kb_R_as_0 : List vx_I := [(.aload_n 0, 1, 0, 0, .null, []), (.iconst 0, 1, 0, 0, .int 0, []), (.putfield 67, 3, 7, 0, .int 0, []), (.aload_n 0, 1, 0, 0, .null, []), (.iload_n 1, 1, 1, 0, .null, []), (.invokevirtual 145, 3, 116, 1, .null, [(0, 0), (0, 0), (0, 0), (0, 0), (0, 0), (0, 0), (0, 0)]), (.ifCond .ne 5, 3, 15, 0, .null, []), (.iconst (-1), 1, 0, 0, .int (-1), []), (.ireturn, 1, 0, 0, .null, [])]
abbrev kb_R_as_15 : List vx_I := [(.iload_n 2, 1, 2, 0, .null, []), (.iconst 0, 1, 0, 0, .int 0, []), (.iconst 2, 1, 0, 0, .int 2, []), (.invokestatic 73, 3, 105, 3, .null, []), (.ifCond .ne 6, 3, 27, 0, .null, []), (.bipush (-2), 2, 0, 0, .int (-2), []), (.ireturn, 1, 0, 0, .null, [])]
abbrev kb_R_as_27 : List vx_I := [(.aload_n 0, 1, 0, 0, .null, []), (.getfield 22, 3, 7, 9, .null, []), (.iload_n 1, 1, 1, 0, .null, []), (.iaload, 1, 0, 0, .null, []), (.iload_n 2, 1, 2, 0, .null, []), (.if_icmp .lt 7, 3, 41, 0, .null, []), (.iconst 1, 1, 0, 0, .int 1, []), (.goto 8, 3, 46, 0, .null, [])]
abbrev kb_R_as_41 : List vx_I := [(.aload_n 0, 1, 0, 0, .null, []), (.iconst 2, 1, 0, 0, .int 2, []), (.invokevirtual 101, 3, 108, 1, .null, [(0, 0), (0, 0), (0, 0), (0, 0), (0, 0), (0, 0), (0, 0)])]
abbrev kb_R_as_46 : List vx_I := [(.ireturn, 1, 0, 0, .null, [])]
def tb_R_as : List (Nat × List vx_I) := [(0, kb_R_as_0), (15, kb_R_as_15), (27, kb_R_as_27), (41, kb_R_as_41), (46, kb_R_as_46)]
theorem bk_R_as_0 : vx_bk tb_R_as 0 = kb_R_as_0 := rfl
theorem bk_R_as_15 : vx_bk tb_R_as 15 = kb_R_as_15 := rfl
theorem bk_R_as_27 : vx_bk tb_R_as 27 = kb_R_as_27 := rfl
theorem bk_R_as_41 : vx_bk tb_R_as 41 = kb_R_as_41 := rfl
theorem bk_R_as_46 : vx_bk tb_R_as 46 = kb_R_as_46 := rfl
abbrev m_R_as : Nat := 174
set_option maxRecDepth 100000 in
theorem ck_R_as : vx_ckM prog_9_method_74_code 7 3 1 false (some .int) tb_R_as = true := by decide +kernel
theorem ok_R_as {As : List Value} {sz : Nat} {h : vx_H} {P : Option Value → vx_H → Prop} (L0 : vx_L) (hlen : (vx_ar As).length ≤ 3) (hL0 : vx_ar As ++ List.replicate (3 - (vx_ar As).length) none = L0)
    (body : ∀ (lim z : vx_Z) X, vx_cl0 none lim tb_R_as (fun r z' h' => z' = z ∧ P r h') X → X 0 L0 [] z h) : vx_Ok m_R_as As sz h P :=
  vx_ok0 (M := (⟨"VoteWallsModel", "as", "(II)I"⟩, prog_9_method_74_code, 3, (some .int), 1, 0, 0, 2, 0)) rfl (ow := 7) rfl ck_R_as rfl hlen hL0 body
abbrev kb_R_trace_0 : List vx_I := [(.aload_n 0, 1, 0, 0, .null, []), (.getfield 243, 3, 7, 1, .null, []), (.ireturn, 1, 0, 0, .null, [])]
def tb_R_trace : List (Nat × List vx_I) := [(0, kb_R_trace_0)]
theorem bk_R_trace_0 : vx_bk tb_R_trace 0 = kb_R_trace_0 := rfl
abbrev m_R_trace : Nat := 175
set_option maxRecDepth 100000 in
theorem ck_R_trace : vx_ckM prog_9_method_75_code 7 1 0 false (some .int) tb_R_trace = true := by decide +kernel
theorem ok_R_trace {As : List Value} {sz : Nat} {h : vx_H} {P : Option Value → vx_H → Prop} (L0 : vx_L) (hlen : (vx_ar As).length ≤ 1) (hL0 : vx_ar As ++ List.replicate (1 - (vx_ar As).length) none = L0)
    (body : ∀ (lim z : vx_Z) X, vx_cl0 none lim tb_R_trace (fun r z' h' => z' = z ∧ P r h') X → X 0 L0 [] z h) : vx_Ok m_R_trace As sz h P :=
  vx_ok0 (M := (⟨"VoteWallsModel", "trace", "()I"⟩, prog_9_method_75_code, 1, (some .int), 0, 0, 0, 0, 0)) rfl (ow := 7) rfl ck_R_trace rfl hlen hL0 body
abbrev kb_R_fault_0 : List vx_I := [(.aload_n 0, 1, 0, 0, .null, []), (.getfield 67, 3, 7, 0, .null, []), (.ireturn, 1, 0, 0, .null, [])]
def tb_R_fault : List (Nat × List vx_I) := [(0, kb_R_fault_0)]
theorem bk_R_fault_0 : vx_bk tb_R_fault 0 = kb_R_fault_0 := rfl
abbrev m_R_fault : Nat := 176
set_option maxRecDepth 100000 in
theorem ck_R_fault : vx_ckM prog_9_method_76_code 7 1 0 false (some .int) tb_R_fault = true := by decide +kernel
theorem ok_R_fault {As : List Value} {sz : Nat} {h : vx_H} {P : Option Value → vx_H → Prop} (L0 : vx_L) (hlen : (vx_ar As).length ≤ 1) (hL0 : vx_ar As ++ List.replicate (1 - (vx_ar As).length) none = L0)
    (body : ∀ (lim z : vx_Z) X, vx_cl0 none lim tb_R_fault (fun r z' h' => z' = z ∧ P r h') X → X 0 L0 [] z h) : vx_Ok m_R_fault As sz h P :=
  vx_ok0 (M := (⟨"VoteWallsModel", "fault", "()I"⟩, prog_9_method_76_code, 1, (some .int), 0, 0, 0, 0, 0)) rfl (ow := 7) rfl ck_R_fault rfl hlen hL0 body
abbrev kb_R_many_0 : List vx_I := [(.iload_n 1, 1, 1, 0, .null, []), (.tableswitch 78 0 6 #[43, 48, 53, 58, 63, 68, 73], 43, 79, 0, .null, [(0, 44), (1, 49), (2, 54), (3, 59), (4, 64), (5, 69), (6, 74)])]
abbrev kb_R_many_44 : List vx_I := [(.aload_n 0, 1, 0, 0, .null, []), (.getfield 80, 3, 7, 7, .null, []), (.ireturn, 1, 0, 0, .null, [])]
abbrev kb_R_many_49 : List vx_I := [(.aload_n 0, 1, 0, 0, .null, []), (.getfield 77, 3, 7, 6, .null, []), (.ireturn, 1, 0, 0, .null, [])]
abbrev kb_R_many_54 : List vx_I := [(.aload_n 0, 1, 0, 0, .null, []), (.getfield 111, 3, 7, 5, .null, []), (.ireturn, 1, 0, 0, .null, [])]
abbrev kb_R_many_59 : List vx_I := [(.aload_n 0, 1, 0, 0, .null, []), (.getfield 123, 3, 7, 19, .null, []), (.ireturn, 1, 0, 0, .null, [])]
abbrev kb_R_many_64 : List vx_I := [(.aload_n 0, 1, 0, 0, .null, []), (.getfield 126, 3, 7, 23, .null, []), (.ireturn, 1, 0, 0, .null, [])]
abbrev kb_R_many_69 : List vx_I := [(.aload_n 0, 1, 0, 0, .null, []), (.getfield 129, 3, 7, 31, .null, []), (.ireturn, 1, 0, 0, .null, [])]
abbrev kb_R_many_74 : List vx_I := [(.aload_n 0, 1, 0, 0, .null, []), (.getfield 120, 3, 7, 11, .null, []), (.ireturn, 1, 0, 0, .null, [])]
abbrev kb_R_many_79 : List vx_I := [(.bipush (-2), 2, 0, 0, .int (-2), []), (.ireturn, 1, 0, 0, .null, [])]
def tb_R_many : List (Nat × List vx_I) := [(0, kb_R_many_0), (44, kb_R_many_44), (49, kb_R_many_49), (54, kb_R_many_54), (59, kb_R_many_59), (64, kb_R_many_64), (69, kb_R_many_69), (74, kb_R_many_74), (79, kb_R_many_79)]
theorem bk_R_many_0 : vx_bk tb_R_many 0 = kb_R_many_0 := rfl
theorem bk_R_many_44 : vx_bk tb_R_many 44 = kb_R_many_44 := rfl
theorem bk_R_many_49 : vx_bk tb_R_many 49 = kb_R_many_49 := rfl
theorem bk_R_many_54 : vx_bk tb_R_many 54 = kb_R_many_54 := rfl
theorem bk_R_many_59 : vx_bk tb_R_many 59 = kb_R_many_59 := rfl
theorem bk_R_many_64 : vx_bk tb_R_many 64 = kb_R_many_64 := rfl
theorem bk_R_many_69 : vx_bk tb_R_many 69 = kb_R_many_69 := rfl
theorem bk_R_many_74 : vx_bk tb_R_many 74 = kb_R_many_74 := rfl
theorem bk_R_many_79 : vx_bk tb_R_many 79 = kb_R_many_79 := rfl
abbrev m_R_many : Nat := 177
set_option maxRecDepth 100000 in
theorem ck_R_many : vx_ckM prog_9_method_77_code 7 2 0 false (some .int) tb_R_many = true := by decide +kernel
theorem ok_R_many {As : List Value} {sz : Nat} {h : vx_H} {P : Option Value → vx_H → Prop} (L0 : vx_L) (hlen : (vx_ar As).length ≤ 2) (hL0 : vx_ar As ++ List.replicate (2 - (vx_ar As).length) none = L0)
    (body : ∀ (lim z : vx_Z) X, vx_cl0 none lim tb_R_many (fun r z' h' => z' = z ∧ P r h') X → X 0 L0 [] z h) : vx_Ok m_R_many As sz h P :=
  vx_ok0 (M := (⟨"VoteWallsModel", "many", "(I)I"⟩, prog_9_method_77_code, 2, (some .int), 0, 0, 0, 1, 0)) rfl (ow := 7) rfl ck_R_many rfl hlen hL0 body
